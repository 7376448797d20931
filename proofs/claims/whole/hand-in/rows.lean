section
-- ===== PART A: goes FIRST, ahead of the names: the tables' words, and 'selects' of the private methods out of them =====
/-- a private method of a class that the tables say can be made, by its rows of tables_1 -/
def lw_okq (q : MethodName × Nat) : Prop := (q.1.cls ≠ "java/lang/invoke/MethodHandle" ∧ q.1.cls ≠ "java/lang/invoke/VarHandle") ∧ Cond.instantiable q.1.cls q.2 ∈ tables_1 ∧ Cond.privateMethod q.1 ∈ tables_1 ∧ Cond.instanceMethod q.1 ∈ tables_1
theorem lw_p0 : lw_okq (⟨"GridDesk", "itemThere", "(I)LGridDesk$Item;"⟩, 8) := ⟨⟨by decide +kernel, by decide +kernel⟩, List.mem_of_getElem? (i := 6) (by decide +kernel), List.mem_of_getElem? (i := 89) (by decide +kernel), List.mem_of_getElem? (i := 90) (by decide +kernel)⟩
theorem lw_p1 : lw_okq (⟨"GridDesk", "itemEver", "(I)LGridDesk$Item;"⟩, 8) := ⟨⟨by decide +kernel, by decide +kernel⟩, List.mem_of_getElem? (i := 6) (by decide +kernel), List.mem_of_getElem? (i := 93) (by decide +kernel), List.mem_of_getElem? (i := 94) (by decide +kernel)⟩
theorem lw_p2 : lw_okq (⟨"GridDesk$Item", "change", "(IJ)Z"⟩, 5) := ⟨⟨by decide +kernel, by decide +kernel⟩, List.mem_of_getElem? (i := 58) (by decide +kernel), List.mem_of_getElem? (i := 97) (by decide +kernel), List.mem_of_getElem? (i := 98) (by decide +kernel)⟩
theorem lw_p3 : lw_okq (⟨"GridDesk$Item", "amountFor", "(I)J"⟩, 5) := ⟨⟨by decide +kernel, by decide +kernel⟩, List.mem_of_getElem? (i := 58) (by decide +kernel), List.mem_of_getElem? (i := 103) (by decide +kernel), List.mem_of_getElem? (i := 104) (by decide +kernel)⟩
theorem lw_p4 : lw_okq (⟨"GridDesk$Item", "slotOf", "(I)I"⟩, 5) := ⟨⟨by decide +kernel, by decide +kernel⟩, List.mem_of_getElem? (i := 58) (by decide +kernel), List.mem_of_getElem? (i := 107) (by decide +kernel), List.mem_of_getElem? (i := 108) (by decide +kernel)⟩
theorem lw_p5 : lw_okq (⟨"GridDesk$Item", "addSlot", "(IJ)Z"⟩, 5) := ⟨⟨by decide +kernel, by decide +kernel⟩, List.mem_of_getElem? (i := 58) (by decide +kernel), List.mem_of_getElem? (i := 113) (by decide +kernel), List.mem_of_getElem? (i := 114) (by decide +kernel)⟩
theorem lw_p6 : lw_okq (⟨"GridDesk$Item", "freeSlot", "(I)V"⟩, 5) := ⟨⟨by decide +kernel, by decide +kernel⟩, List.mem_of_getElem? (i := 58) (by decide +kernel), List.mem_of_getElem? (i := 117) (by decide +kernel), List.mem_of_getElem? (i := 118) (by decide +kernel)⟩
theorem lw_p7 : lw_okq (⟨"GridDesk", "findGreatest", "()V"⟩, 8) := ⟨⟨by decide +kernel, by decide +kernel⟩, List.mem_of_getElem? (i := 6) (by decide +kernel), List.mem_of_getElem? (i := 129) (by decide +kernel), List.mem_of_getElem? (i := 130) (by decide +kernel)⟩
theorem lw_p8 : lw_okq (⟨"GridDesk", "startWithAllThere", "()V"⟩, 8) := ⟨⟨by decide +kernel, by decide +kernel⟩, List.mem_of_getElem? (i := 6) (by decide +kernel), List.mem_of_getElem? (i := 133) (by decide +kernel), List.mem_of_getElem? (i := 134) (by decide +kernel)⟩
theorem lw_p9 : lw_okq (⟨"GridDesk", "dropHopeless", "()Z"⟩, 8) := ⟨⟨by decide +kernel, by decide +kernel⟩, List.mem_of_getElem? (i := 6) (by decide +kernel), List.mem_of_getElem? (i := 137) (by decide +kernel), List.mem_of_getElem? (i := 138) (by decide +kernel)⟩
theorem lw_p10 : lw_okq (⟨"GridDesk", "startRows", "()V"⟩, 8) := ⟨⟨by decide +kernel, by decide +kernel⟩, List.mem_of_getElem? (i := 6) (by decide +kernel), List.mem_of_getElem? (i := 141) (by decide +kernel), List.mem_of_getElem? (i := 142) (by decide +kernel)⟩
theorem lw_p11 : lw_okq (⟨"GridDesk", "giveAll", "()V"⟩, 8) := ⟨⟨by decide +kernel, by decide +kernel⟩, List.mem_of_getElem? (i := 6) (by decide +kernel), List.mem_of_getElem? (i := 145) (by decide +kernel), List.mem_of_getElem? (i := 146) (by decide +kernel)⟩
theorem lw_p12 : lw_okq (⟨"GridDesk", "canTake", "(LGridDesk$Item;)Z"⟩, 8) := ⟨⟨by decide +kernel, by decide +kernel⟩, List.mem_of_getElem? (i := 6) (by decide +kernel), List.mem_of_getElem? (i := 149) (by decide +kernel), List.mem_of_getElem? (i := 150) (by decide +kernel)⟩
theorem lw_p13 : lw_okq (⟨"GridDesk", "take", "(LGridDesk$Item;)V"⟩, 8) := ⟨⟨by decide +kernel, by decide +kernel⟩, List.mem_of_getElem? (i := 6) (by decide +kernel), List.mem_of_getElem? (i := 153) (by decide +kernel), List.mem_of_getElem? (i := 154) (by decide +kernel)⟩
theorem lw_p14 : lw_okq (⟨"GridDesk", "drop", "(LGridDesk$Item;)V"⟩, 8) := ⟨⟨by decide +kernel, by decide +kernel⟩, List.mem_of_getElem? (i := 6) (by decide +kernel), List.mem_of_getElem? (i := 157) (by decide +kernel), List.mem_of_getElem? (i := 158) (by decide +kernel)⟩
theorem lw_p15 : lw_okq (⟨"GridDesk", "valuesFit", "()Z"⟩, 8) := ⟨⟨by decide +kernel, by decide +kernel⟩, List.mem_of_getElem? (i := 6) (by decide +kernel), List.mem_of_getElem? (i := 169) (by decide +kernel), List.mem_of_getElem? (i := 170) (by decide +kernel)⟩
def lw_privs_1 : List (MethodName × Nat) := [(⟨"GridDesk", "itemThere", "(I)LGridDesk$Item;"⟩, 8), (⟨"GridDesk", "itemEver", "(I)LGridDesk$Item;"⟩, 8), (⟨"GridDesk$Item", "change", "(IJ)Z"⟩, 5), (⟨"GridDesk$Item", "amountFor", "(I)J"⟩, 5), (⟨"GridDesk$Item", "slotOf", "(I)I"⟩, 5), (⟨"GridDesk$Item", "addSlot", "(IJ)Z"⟩, 5), (⟨"GridDesk$Item", "freeSlot", "(I)V"⟩, 5), (⟨"GridDesk", "findGreatest", "()V"⟩, 8), (⟨"GridDesk", "startWithAllThere", "()V"⟩, 8), (⟨"GridDesk", "dropHopeless", "()Z"⟩, 8), (⟨"GridDesk", "startRows", "()V"⟩, 8), (⟨"GridDesk", "giveAll", "()V"⟩, 8), (⟨"GridDesk", "canTake", "(LGridDesk$Item;)Z"⟩, 8), (⟨"GridDesk", "take", "(LGridDesk$Item;)V"⟩, 8), (⟨"GridDesk", "drop", "(LGridDesk$Item;)V"⟩, 8), (⟨"GridDesk", "valuesFit", "()Z"⟩, 8)]
theorem lw_r1 : ∀ q ∈ lw_privs_1, lw_okq q := List.forall_mem_cons.mpr ⟨lw_p0, List.forall_mem_cons.mpr ⟨lw_p1, List.forall_mem_cons.mpr ⟨lw_p2, List.forall_mem_cons.mpr ⟨lw_p3, List.forall_mem_cons.mpr ⟨lw_p4, List.forall_mem_cons.mpr ⟨lw_p5, List.forall_mem_cons.mpr ⟨lw_p6, List.forall_mem_cons.mpr ⟨lw_p7, List.forall_mem_cons.mpr ⟨lw_p8, List.forall_mem_cons.mpr ⟨lw_p9, List.forall_mem_cons.mpr ⟨lw_p10, List.forall_mem_cons.mpr ⟨lw_p11, List.forall_mem_cons.mpr ⟨lw_p12, List.forall_mem_cons.mpr ⟨lw_p13, List.forall_mem_cons.mpr ⟨lw_p14, List.forall_mem_cons.mpr ⟨lw_p15, fun _ h => absurd h List.not_mem_nil⟩⟩⟩⟩⟩⟩⟩⟩⟩⟩⟩⟩⟩⟩⟩⟩
theorem lw_p16 : lw_okq (⟨"GridDesk", "endItemsOfSet", "()V"⟩, 8) := ⟨⟨by decide +kernel, by decide +kernel⟩, List.mem_of_getElem? (i := 6) (by decide +kernel), List.mem_of_getElem? (i := 176) (by decide +kernel), List.mem_of_getElem? (i := 177) (by decide +kernel)⟩
theorem lw_p17 : lw_okq (⟨"GridDeskModel", "isThere", "(I)Z"⟩, 8) := ⟨⟨by decide +kernel, by decide +kernel⟩, List.mem_of_getElem? (i := 193) (by decide +kernel), List.mem_of_getElem? (i := 244) (by decide +kernel), List.mem_of_getElem? (i := 245) (by decide +kernel)⟩
theorem lw_p18 : lw_okq (⟨"GridDeskModel", "netAt", "(II)J"⟩, 8) := ⟨⟨by decide +kernel, by decide +kernel⟩, List.mem_of_getElem? (i := 193) (by decide +kernel), List.mem_of_getElem? (i := 250) (by decide +kernel), List.mem_of_getElem? (i := 251) (by decide +kernel)⟩
theorem lw_p19 : lw_okq (⟨"GridDeskModel", "find", "(II)I"⟩, 8) := ⟨⟨by decide +kernel, by decide +kernel⟩, List.mem_of_getElem? (i := 193) (by decide +kernel), List.mem_of_getElem? (i := 254) (by decide +kernel), List.mem_of_getElem? (i := 255) (by decide +kernel)⟩
theorem lw_p20 : lw_okq (⟨"GridDeskModel", "total", "(I)J"⟩, 8) := ⟨⟨by decide +kernel, by decide +kernel⟩, List.mem_of_getElem? (i := 193) (by decide +kernel), List.mem_of_getElem? (i := 268) (by decide +kernel), List.mem_of_getElem? (i := 269) (by decide +kernel)⟩
theorem lw_p21 : lw_okq (⟨"GridDeskModel", "lastTaker", "(I)I"⟩, 8) := ⟨⟨by decide +kernel, by decide +kernel⟩, List.mem_of_getElem? (i := 193) (by decide +kernel), List.mem_of_getElem? (i := 272) (by decide +kernel), List.mem_of_getElem? (i := 273) (by decide +kernel)⟩
theorem lw_p22 : lw_okq (⟨"GridDeskModel", "lacks", "(I)Z"⟩, 8) := ⟨⟨by decide +kernel, by decide +kernel⟩, List.mem_of_getElem? (i := 193) (by decide +kernel), List.mem_of_getElem? (i := 276) (by decide +kernel), List.mem_of_getElem? (i := 277) (by decide +kernel)⟩
theorem lw_p23 : lw_okq (⟨"GridDeskModel", "meet", "(II)Z"⟩, 8) := ⟨⟨by decide +kernel, by decide +kernel⟩, List.mem_of_getElem? (i := 193) (by decide +kernel), List.mem_of_getElem? (i := 280) (by decide +kernel), List.mem_of_getElem? (i := 281) (by decide +kernel)⟩
def lw_privs_2 : List (MethodName × Nat) := [(⟨"GridDesk", "endItemsOfSet", "()V"⟩, 8), (⟨"GridDeskModel", "isThere", "(I)Z"⟩, 8), (⟨"GridDeskModel", "netAt", "(II)J"⟩, 8), (⟨"GridDeskModel", "find", "(II)I"⟩, 8), (⟨"GridDeskModel", "total", "(I)J"⟩, 8), (⟨"GridDeskModel", "lastTaker", "(I)I"⟩, 8), (⟨"GridDeskModel", "lacks", "(I)Z"⟩, 8), (⟨"GridDeskModel", "meet", "(II)Z"⟩, 8)]
theorem lw_r2 : ∀ q ∈ lw_privs_2, lw_okq q := List.forall_mem_cons.mpr ⟨lw_p16, List.forall_mem_cons.mpr ⟨lw_p17, List.forall_mem_cons.mpr ⟨lw_p18, List.forall_mem_cons.mpr ⟨lw_p19, List.forall_mem_cons.mpr ⟨lw_p20, List.forall_mem_cons.mpr ⟨lw_p21, List.forall_mem_cons.mpr ⟨lw_p22, List.forall_mem_cons.mpr ⟨lw_p23, fun _ h => absurd h List.not_mem_nil⟩⟩⟩⟩⟩⟩⟩⟩
def lw_privs : List (MethodName × Nat) := lw_privs_1 ++ (lw_privs_2)
def lw_tbl : List Cond := k2_sels lw_privs ++ tables_1
theorem lw_privs_ok : ∀ q ∈ lw_privs, lw_okq q := by
  show ∀ q ∈ lw_privs_1 ++ (lw_privs_2), lw_okq q
  exact List.forall_mem_append.mpr ⟨lw_r1, lw_r2⟩
end
section
/-! NAMES: classes, fields, methods; printed by wip/whole/tools/names.py out of the task -/
def RX0 : String := "GridDesk$Item"
def TX0 : u_T := fun k => match k with
  | 0 => ("GridDesk$Item", "positions", "[I", true)
  | 1 => ("GridDesk$Item", "amounts", "[J", true)
  | 2 => ("GridDesk$Item", "used", "I", false)
  | 3 => ("GridDesk$Item", "there", "Z", false)
  | _ => ("GridDesk$Item", "inSet", "Z", false)
def tyX0 : Nat → FieldType := fun k => match k with
  | 0 => .array .int
  | 1 => .array .long
  | 2 => .int
  | 3 => .boolean
  | _ => .boolean
abbrev wsX00 : List Cond := u_ws RX0 TX0 5
theorem nmX0 : ∀ a, a < 5 → ∀ b, b < 5 → a ≠ b → (TX0 a).2.1 ≠ (TX0 b).2.1 := by decide +kernel
theorem tyX0_ok : ∀ k, k < 5 → parseFieldDescriptor (TX0 k).2.2.1 = some (tyX0 k) := by decide +kernel
def RX1 : String := "GridDesk"
def TX1 : u_T := fun k => match k with
  | 0 => ("GridDesk", "values", "[J", true)
  | 1 => ("GridDesk", "floors", "[J", true)
  | 2 => ("GridDesk", "items", "[LGridDesk$Item;", true)
  | 3 => ("GridDesk", "itemCount", "I", false)
  | 4 => ("GridDesk", "thereCount", "I", false)
  | 5 => ("GridDesk", "setCount", "I", false)
  | 6 => ("GridDesk", "after", "[J", true)
  | _ => ("GridDesk", "blocked", "[Z", true)
def tyX1 : Nat → FieldType := fun k => match k with
  | 0 => .array .long
  | 1 => .array .long
  | 2 => .array (.object "GridDesk$Item")
  | 3 => .int
  | 4 => .int
  | 5 => .int
  | 6 => .array .long
  | _ => .array .boolean
abbrev wsX10 : List Cond := u_ws RX1 TX1 8
theorem nmX1 : ∀ a, a < 8 → ∀ b, b < 8 → a ≠ b → (TX1 a).2.1 ≠ (TX1 b).2.1 := by decide +kernel
theorem tyX1_ok : ∀ k, k < 8 → parseFieldDescriptor (TX1 k).2.2.1 = some (tyX1 k) := by decide +kernel
def RX2 : String := "GridDeskModel"
def TX2 : u_T := fun k => match k with
  | 0 => ("GridDeskModel", "values", "[J", true)
  | 1 => ("GridDeskModel", "floors", "[J", true)
  | 2 => ("GridDeskModel", "items", "I", false)
  | 3 => ("GridDeskModel", "there", "[Z", true)
  | 4 => ("GridDeskModel", "chosen", "[Z", true)
  | 5 => ("GridDeskModel", "many", "[I", true)
  | 6 => ("GridDeskModel", "positions", "[I", true)
  | _ => ("GridDeskModel", "amounts", "[J", true)
def tyX2 : Nat → FieldType := fun k => match k with
  | 0 => .array .long
  | 1 => .array .long
  | 2 => .int
  | 3 => .array .boolean
  | 4 => .array .boolean
  | 5 => .array .int
  | 6 => .array .int
  | _ => .array .long
abbrev wsX20 : List Cond := u_ws RX2 TX2 8
theorem nmX2 : ∀ a, a < 8 → ∀ b, b < 8 → a ≠ b → (TX2 a).2.1 ≠ (TX2 b).2.1 := by decide +kernel
theorem tyX2_ok : ∀ k, k < 8 → parseFieldDescriptor (TX2 k).2.2.1 = some (tyX2 k) := by decide +kernel
def RL : String := "GridDeskLaw"
abbrev cX1_init : ByteArray := prog_1_method_1_code
def yX1_init : MethodName := ⟨RX1, "<init>", "()V"⟩
abbrev cX1_place : ByteArray := prog_1_method_2_code
def yX1_place : MethodName := ⟨RX1, "place", "(IJJ)Z"⟩
abbrev cX1_item : ByteArray := prog_1_method_3_code
def yX1_item : MethodName := ⟨RX1, "item", "()I"⟩
abbrev cX1_net : ByteArray := prog_1_method_4_code
def yX1_net : MethodName := ⟨RX1, "net", "(IIJ)Z"⟩
abbrev cX1_go : ByteArray := prog_1_method_5_code
def yX1_go : MethodName := ⟨RX1, "go", "(I)Z"⟩
abbrev cX1_solve : ByteArray := prog_1_method_6_code
def yX1_solve : MethodName := ⟨RX1, "solve", "()I"⟩
abbrev cX1_in : ByteArray := prog_1_method_7_code
def yX1_in : MethodName := ⟨RX1, "in", "(I)Z"⟩
abbrev cX1_perform : ByteArray := prog_1_method_8_code
def yX1_perform : MethodName := ⟨RX1, "perform", "()I"⟩
abbrev cX1_value : ByteArray := prog_1_method_9_code
def yX1_value : MethodName := ⟨RX1, "value", "(I)J"⟩
abbrev cX1_netOf : ByteArray := prog_1_method_10_code
def yX1_netOf : MethodName := ⟨RX1, "netOf", "(II)J"⟩
abbrev cX1_count : ByteArray := prog_1_method_11_code
def yX1_count : MethodName := ⟨RX1, "count", "(I)I"⟩
abbrev cX1_isPosition : ByteArray := prog_1_method_12_code
def yX1_isPosition : MethodName := ⟨RX1, "isPosition", "(I)Z"⟩
abbrev cX1_isValue : ByteArray := prog_1_method_13_code
def yX1_isValue : MethodName := ⟨RX1, "isValue", "(J)Z"⟩
abbrev cX1_itemEver : ByteArray := prog_1_method_14_code
def yX1_itemEver : MethodName := ⟨RX1, "itemEver", "(I)LGridDesk$Item;"⟩
abbrev cX1_itemThere : ByteArray := prog_1_method_15_code
def yX1_itemThere : MethodName := ⟨RX1, "itemThere", "(I)LGridDesk$Item;"⟩
abbrev cX1_findGreatest : ByteArray := prog_1_method_16_code
def yX1_findGreatest : MethodName := ⟨RX1, "findGreatest", "()V"⟩
abbrev cX1_startWithAllThere : ByteArray := prog_1_method_17_code
def yX1_startWithAllThere : MethodName := ⟨RX1, "startWithAllThere", "()V"⟩
abbrev cX1_dropHopeless : ByteArray := prog_1_method_18_code
def yX1_dropHopeless : MethodName := ⟨RX1, "dropHopeless", "()Z"⟩
abbrev cX1_startRows : ByteArray := prog_1_method_19_code
def yX1_startRows : MethodName := ⟨RX1, "startRows", "()V"⟩
abbrev cX1_giveAll : ByteArray := prog_1_method_20_code
def yX1_giveAll : MethodName := ⟨RX1, "giveAll", "()V"⟩
abbrev cX1_canTake : ByteArray := prog_1_method_21_code
def yX1_canTake : MethodName := ⟨RX1, "canTake", "(LGridDesk$Item;)Z"⟩
abbrev cX1_take : ByteArray := prog_1_method_22_code
def yX1_take : MethodName := ⟨RX1, "take", "(LGridDesk$Item;)V"⟩
abbrev cX1_drop : ByteArray := prog_1_method_23_code
def yX1_drop : MethodName := ⟨RX1, "drop", "(LGridDesk$Item;)V"⟩
abbrev cX1_valuesFit : ByteArray := prog_1_method_24_code
def yX1_valuesFit : MethodName := ⟨RX1, "valuesFit", "()Z"⟩
abbrev cX1_endItemsOfSet : ByteArray := prog_1_method_25_code
def yX1_endItemsOfSet : MethodName := ⟨RX1, "endItemsOfSet", "()V"⟩
abbrev cX2_init : ByteArray := prog_4_method_1_code
def yX2_init : MethodName := ⟨RX2, "<init>", "()V"⟩
abbrev cX2_isPosition : ByteArray := prog_4_method_2_code
def yX2_isPosition : MethodName := ⟨RX2, "isPosition", "(I)Z"⟩
abbrev cX2_isValue : ByteArray := prog_4_method_3_code
def yX2_isValue : MethodName := ⟨RX2, "isValue", "(J)Z"⟩
abbrev cX2_place : ByteArray := prog_4_method_4_code
def yX2_place : MethodName := ⟨RX2, "place", "(IJJ)Z"⟩
abbrev cX2_item : ByteArray := prog_4_method_5_code
def yX2_item : MethodName := ⟨RX2, "item", "()I"⟩
abbrev cX2_isThere : ByteArray := prog_4_method_6_code
def yX2_isThere : MethodName := ⟨RX2, "isThere", "(I)Z"⟩
abbrev cX2_find : ByteArray := prog_4_method_7_code
def yX2_find : MethodName := ⟨RX2, "find", "(II)I"⟩
abbrev cX2_netAt : ByteArray := prog_4_method_8_code
def yX2_netAt : MethodName := ⟨RX2, "netAt", "(II)J"⟩
abbrev cX2_net : ByteArray := prog_4_method_9_code
def yX2_net : MethodName := ⟨RX2, "net", "(IIJ)Z"⟩
abbrev cX2_go : ByteArray := prog_4_method_10_code
def yX2_go : MethodName := ⟨RX2, "go", "(I)Z"⟩
abbrev cX2_total : ByteArray := prog_4_method_11_code
def yX2_total : MethodName := ⟨RX2, "total", "(I)J"⟩
abbrev cX2_lastTaker : ByteArray := prog_4_method_12_code
def yX2_lastTaker : MethodName := ⟨RX2, "lastTaker", "(I)I"⟩
abbrev cX2_meet : ByteArray := prog_4_method_13_code
def yX2_meet : MethodName := ⟨RX2, "meet", "(II)Z"⟩
abbrev cX2_lacks : ByteArray := prog_4_method_14_code
def yX2_lacks : MethodName := ⟨RX2, "lacks", "(I)Z"⟩
abbrev cX2_solve : ByteArray := prog_4_method_15_code
def yX2_solve : MethodName := ⟨RX2, "solve", "()I"⟩
abbrev cX2_in : ByteArray := prog_4_method_16_code
def yX2_in : MethodName := ⟨RX2, "in", "(I)Z"⟩
abbrev cX2_perform : ByteArray := prog_4_method_17_code
def yX2_perform : MethodName := ⟨RX2, "perform", "()I"⟩
abbrev cX2_value : ByteArray := prog_4_method_18_code
def yX2_value : MethodName := ⟨RX2, "value", "(I)J"⟩
abbrev cX2_netOf : ByteArray := prog_4_method_19_code
def yX2_netOf : MethodName := ⟨RX2, "netOf", "(II)J"⟩
abbrev cX2_count : ByteArray := prog_4_method_20_code
def yX2_count : MethodName := ⟨RX2, "count", "(I)I"⟩
abbrev cX0_init : ByteArray := prog_2_method_1_code
def yX0_init : MethodName := ⟨RX0, "<init>", "()V"⟩
abbrev cX0_slotOf : ByteArray := prog_2_method_2_code
def yX0_slotOf : MethodName := ⟨RX0, "slotOf", "(I)I"⟩
abbrev cX0_amountFor : ByteArray := prog_2_method_3_code
def yX0_amountFor : MethodName := ⟨RX0, "amountFor", "(I)J"⟩
abbrev cX0_change : ByteArray := prog_2_method_4_code
def yX0_change : MethodName := ⟨RX0, "change", "(IJ)Z"⟩
abbrev cX0_addSlot : ByteArray := prog_2_method_5_code
def yX0_addSlot : MethodName := ⟨RX0, "addSlot", "(IJ)Z"⟩
abbrev cX0_freeSlot : ByteArray := prog_2_method_6_code
def yX0_freeSlot : MethodName := ⟨RX0, "freeSlot", "(I)V"⟩
abbrev vwCl : List vw_C := [(RX0, TX0, 5), (RX1, TX1, 8), (RX2, TX2, 8)]
abbrev RIt : String := RX0
abbrev RD : String := RX1
abbrev RM : String := RX2
abbrev TI : u_T := TX0
abbrev TD : u_T := TX1
abbrev TM : u_T := TX2
abbrev tyI := tyX0
abbrev tyD := tyX1
abbrev tyM := tyX2
abbrev ciI : Nat := 0
abbrev ciD : Nat := 1
abbrev ciM : Nat := 2
end
section
/-! decode rows, printed by wip/whole/tools/names.py -/
theorem dX0_init_0 : decode cX0_init 0 = .ok (.aload_n 0, 1) := by decide +kernel
theorem dX0_init_1 : decode cX0_init 1 = .ok (.invokespecial 3, 3) := by decide +kernel
theorem dX0_init_4 : decode cX0_init 4 = .ok (.aload_n 0, 1) := by decide +kernel
theorem dX0_init_5 : decode cX0_init 5 = .ok (.bipush 16, 2) := by decide +kernel
theorem dX0_init_7 : decode cX0_init 7 = .ok (.newarray .int, 2) := by decide +kernel
theorem dX0_init_9 : decode cX0_init 9 = .ok (.putfield 9, 3) := by decide +kernel
theorem dX0_init_12 : decode cX0_init 12 = .ok (.aload_n 0, 1) := by decide +kernel
theorem dX0_init_13 : decode cX0_init 13 = .ok (.bipush 16, 2) := by decide +kernel
theorem dX0_init_15 : decode cX0_init 15 = .ok (.newarray .long, 2) := by decide +kernel
theorem dX0_init_17 : decode cX0_init 17 = .ok (.putfield 15, 3) := by decide +kernel
theorem dX0_init_20 : decode cX0_init 20 = .ok (.aload_n 0, 1) := by decide +kernel
theorem dX0_init_21 : decode cX0_init 21 = .ok (.iconst 1, 1) := by decide +kernel
theorem dX0_init_22 : decode cX0_init 22 = .ok (.putfield 19, 3) := by decide +kernel
theorem dX0_init_25 : decode cX0_init 25 = .ok (.return_, 1) := by decide +kernel
theorem dX0_slotOf_0 : decode cX0_slotOf 0 = .ok (.iconst 0, 1) := by decide +kernel
theorem dX0_slotOf_1 : decode cX0_slotOf 1 = .ok (.istore_n 2, 1) := by decide +kernel
theorem dX0_slotOf_2 : decode cX0_slotOf 2 = .ok (.iload_n 2, 1) := by decide +kernel
theorem dX0_slotOf_3 : decode cX0_slotOf 3 = .ok (.aload_n 0, 1) := by decide +kernel
theorem dX0_slotOf_4 : decode cX0_slotOf 4 = .ok (.getfield 23, 3) := by decide +kernel
theorem dX0_slotOf_7 : decode cX0_slotOf 7 = .ok (.if_icmp .ge 21, 3) := by decide +kernel
theorem dX0_slotOf_10 : decode cX0_slotOf 10 = .ok (.aload_n 0, 1) := by decide +kernel
theorem dX0_slotOf_11 : decode cX0_slotOf 11 = .ok (.getfield 9, 3) := by decide +kernel
theorem dX0_slotOf_14 : decode cX0_slotOf 14 = .ok (.iload_n 2, 1) := by decide +kernel
theorem dX0_slotOf_15 : decode cX0_slotOf 15 = .ok (.iaload, 1) := by decide +kernel
theorem dX0_slotOf_16 : decode cX0_slotOf 16 = .ok (.iload_n 1, 1) := by decide +kernel
theorem dX0_slotOf_17 : decode cX0_slotOf 17 = .ok (.if_icmp .ne 5, 3) := by decide +kernel
theorem dX0_slotOf_20 : decode cX0_slotOf 20 = .ok (.iload_n 2, 1) := by decide +kernel
theorem dX0_slotOf_21 : decode cX0_slotOf 21 = .ok (.ireturn, 1) := by decide +kernel
theorem dX0_slotOf_22 : decode cX0_slotOf 22 = .ok (.iinc 2 1, 3) := by decide +kernel
theorem dX0_slotOf_25 : decode cX0_slotOf 25 = .ok (.goto (-23), 3) := by decide +kernel
theorem dX0_slotOf_28 : decode cX0_slotOf 28 = .ok (.iconst (-1), 1) := by decide +kernel
theorem dX0_slotOf_29 : decode cX0_slotOf 29 = .ok (.ireturn, 1) := by decide +kernel
theorem dX0_amountFor_0 : decode cX0_amountFor 0 = .ok (.aload_n 0, 1) := by decide +kernel
theorem dX0_amountFor_1 : decode cX0_amountFor 1 = .ok (.iload_n 1, 1) := by decide +kernel
theorem dX0_amountFor_2 : decode cX0_amountFor 2 = .ok (.invokevirtual 27, 3) := by decide +kernel
theorem dX0_amountFor_5 : decode cX0_amountFor 5 = .ok (.istore_n 2, 1) := by decide +kernel
theorem dX0_amountFor_6 : decode cX0_amountFor 6 = .ok (.iload_n 2, 1) := by decide +kernel
theorem dX0_amountFor_7 : decode cX0_amountFor 7 = .ok (.ifCond .ge 7, 3) := by decide +kernel
theorem dX0_amountFor_10 : decode cX0_amountFor 10 = .ok (.lconst 0, 1) := by decide +kernel
theorem dX0_amountFor_11 : decode cX0_amountFor 11 = .ok (.goto 9, 3) := by decide +kernel
theorem dX0_amountFor_14 : decode cX0_amountFor 14 = .ok (.aload_n 0, 1) := by decide +kernel
theorem dX0_amountFor_15 : decode cX0_amountFor 15 = .ok (.getfield 15, 3) := by decide +kernel
theorem dX0_amountFor_18 : decode cX0_amountFor 18 = .ok (.iload_n 2, 1) := by decide +kernel
theorem dX0_amountFor_19 : decode cX0_amountFor 19 = .ok (.laload, 1) := by decide +kernel
theorem dX0_amountFor_20 : decode cX0_amountFor 20 = .ok (.lreturn, 1) := by decide +kernel
theorem dX0_change_0 : decode cX0_change 0 = .ok (.lload_n 2, 1) := by decide +kernel
theorem dX0_change_1 : decode cX0_change 1 = .ok (.ldc2_w 31, 3) := by decide +kernel
theorem dX0_change_4 : decode cX0_change 4 = .ok (.lcmp, 1) := by decide +kernel
theorem dX0_change_5 : decode cX0_change 5 = .ok (.ifCond .lt 11, 3) := by decide +kernel
theorem dX0_change_8 : decode cX0_change 8 = .ok (.lload_n 2, 1) := by decide +kernel
theorem dX0_change_9 : decode cX0_change 9 = .ok (.ldc2_w 33, 3) := by decide +kernel
theorem dX0_change_12 : decode cX0_change 12 = .ok (.lcmp, 1) := by decide +kernel
theorem dX0_change_13 : decode cX0_change 13 = .ok (.ifCond .le 5, 3) := by decide +kernel
theorem dX0_change_16 : decode cX0_change 16 = .ok (.iconst 0, 1) := by decide +kernel
theorem dX0_change_17 : decode cX0_change 17 = .ok (.ireturn, 1) := by decide +kernel
theorem dX0_change_18 : decode cX0_change 18 = .ok (.aload_n 0, 1) := by decide +kernel
theorem dX0_change_19 : decode cX0_change 19 = .ok (.iload_n 1, 1) := by decide +kernel
theorem dX0_change_20 : decode cX0_change 20 = .ok (.invokevirtual 35, 3) := by decide +kernel
theorem dX0_change_23 : decode cX0_change 23 = .ok (.lload_n 2, 1) := by decide +kernel
theorem dX0_change_24 : decode cX0_change 24 = .ok (.ladd, 1) := by decide +kernel
theorem dX0_change_25 : decode cX0_change 25 = .ok (.lstore 4, 2) := by decide +kernel
theorem dX0_change_27 : decode cX0_change 27 = .ok (.lload 4, 2) := by decide +kernel
theorem dX0_change_29 : decode cX0_change 29 = .ok (.ldc2_w 39, 3) := by decide +kernel
theorem dX0_change_32 : decode cX0_change 32 = .ok (.lcmp, 1) := by decide +kernel
theorem dX0_change_33 : decode cX0_change 33 = .ok (.ifCond .lt 12, 3) := by decide +kernel
theorem dX0_change_36 : decode cX0_change 36 = .ok (.lload 4, 2) := by decide +kernel
theorem dX0_change_38 : decode cX0_change 38 = .ok (.ldc2_w 41, 3) := by decide +kernel
theorem dX0_change_41 : decode cX0_change 41 = .ok (.lcmp, 1) := by decide +kernel
theorem dX0_change_42 : decode cX0_change 42 = .ok (.ifCond .le 5, 3) := by decide +kernel
theorem dX0_change_45 : decode cX0_change 45 = .ok (.iconst 0, 1) := by decide +kernel
theorem dX0_change_46 : decode cX0_change 46 = .ok (.ireturn, 1) := by decide +kernel
theorem dX0_change_47 : decode cX0_change 47 = .ok (.aload_n 0, 1) := by decide +kernel
theorem dX0_change_48 : decode cX0_change 48 = .ok (.iload_n 1, 1) := by decide +kernel
theorem dX0_change_49 : decode cX0_change 49 = .ok (.invokevirtual 27, 3) := by decide +kernel
theorem dX0_change_52 : decode cX0_change 52 = .ok (.istore 6, 2) := by decide +kernel
theorem dX0_change_54 : decode cX0_change 54 = .ok (.iload 6, 2) := by decide +kernel
theorem dX0_change_56 : decode cX0_change 56 = .ok (.ifCond .ge 26, 3) := by decide +kernel
theorem dX0_change_59 : decode cX0_change 59 = .ok (.lload 4, 2) := by decide +kernel
theorem dX0_change_61 : decode cX0_change 61 = .ok (.lconst 0, 1) := by decide +kernel
theorem dX0_change_62 : decode cX0_change 62 = .ok (.lcmp, 1) := by decide +kernel
theorem dX0_change_63 : decode cX0_change 63 = .ok (.ifCond .eq 13, 3) := by decide +kernel
theorem dX0_change_66 : decode cX0_change 66 = .ok (.aload_n 0, 1) := by decide +kernel
theorem dX0_change_67 : decode cX0_change 67 = .ok (.iload_n 1, 1) := by decide +kernel
theorem dX0_change_68 : decode cX0_change 68 = .ok (.lload 4, 2) := by decide +kernel
theorem dX0_change_70 : decode cX0_change 70 = .ok (.invokevirtual 43, 3) := by decide +kernel
theorem dX0_change_73 : decode cX0_change 73 = .ok (.ifCond .eq 7, 3) := by decide +kernel
theorem dX0_change_76 : decode cX0_change 76 = .ok (.iconst 1, 1) := by decide +kernel
theorem dX0_change_77 : decode cX0_change 77 = .ok (.goto 4, 3) := by decide +kernel
theorem dX0_change_80 : decode cX0_change 80 = .ok (.iconst 0, 1) := by decide +kernel
theorem dX0_change_81 : decode cX0_change 81 = .ok (.ireturn, 1) := by decide +kernel
theorem dX0_change_82 : decode cX0_change 82 = .ok (.aload_n 0, 1) := by decide +kernel
theorem dX0_change_83 : decode cX0_change 83 = .ok (.getfield 15, 3) := by decide +kernel
theorem dX0_change_86 : decode cX0_change 86 = .ok (.iload 6, 2) := by decide +kernel
theorem dX0_change_88 : decode cX0_change 88 = .ok (.lload 4, 2) := by decide +kernel
theorem dX0_change_90 : decode cX0_change 90 = .ok (.lastore, 1) := by decide +kernel
theorem dX0_change_91 : decode cX0_change 91 = .ok (.lload 4, 2) := by decide +kernel
theorem dX0_change_93 : decode cX0_change 93 = .ok (.lconst 0, 1) := by decide +kernel
theorem dX0_change_94 : decode cX0_change 94 = .ok (.lcmp, 1) := by decide +kernel
theorem dX0_change_95 : decode cX0_change 95 = .ok (.ifCond .ne 9, 3) := by decide +kernel
theorem dX0_change_98 : decode cX0_change 98 = .ok (.aload_n 0, 1) := by decide +kernel
theorem dX0_change_99 : decode cX0_change 99 = .ok (.iload 6, 2) := by decide +kernel
theorem dX0_change_101 : decode cX0_change 101 = .ok (.invokevirtual 47, 3) := by decide +kernel
theorem dX0_change_104 : decode cX0_change 104 = .ok (.iconst 1, 1) := by decide +kernel
theorem dX0_change_105 : decode cX0_change 105 = .ok (.ireturn, 1) := by decide +kernel
theorem dX0_addSlot_0 : decode cX0_addSlot 0 = .ok (.aload_n 0, 1) := by decide +kernel
theorem dX0_addSlot_1 : decode cX0_addSlot 1 = .ok (.getfield 23, 3) := by decide +kernel
theorem dX0_addSlot_4 : decode cX0_addSlot 4 = .ok (.bipush 16, 2) := by decide +kernel
theorem dX0_addSlot_6 : decode cX0_addSlot 6 = .ok (.if_icmp .lt 5, 3) := by decide +kernel
theorem dX0_addSlot_9 : decode cX0_addSlot 9 = .ok (.iconst 0, 1) := by decide +kernel
theorem dX0_addSlot_10 : decode cX0_addSlot 10 = .ok (.ireturn, 1) := by decide +kernel
theorem dX0_addSlot_11 : decode cX0_addSlot 11 = .ok (.aload_n 0, 1) := by decide +kernel
theorem dX0_addSlot_12 : decode cX0_addSlot 12 = .ok (.getfield 9, 3) := by decide +kernel
theorem dX0_addSlot_15 : decode cX0_addSlot 15 = .ok (.aload_n 0, 1) := by decide +kernel
theorem dX0_addSlot_16 : decode cX0_addSlot 16 = .ok (.getfield 23, 3) := by decide +kernel
theorem dX0_addSlot_19 : decode cX0_addSlot 19 = .ok (.iload_n 1, 1) := by decide +kernel
theorem dX0_addSlot_20 : decode cX0_addSlot 20 = .ok (.iastore, 1) := by decide +kernel
theorem dX0_addSlot_21 : decode cX0_addSlot 21 = .ok (.aload_n 0, 1) := by decide +kernel
theorem dX0_addSlot_22 : decode cX0_addSlot 22 = .ok (.getfield 15, 3) := by decide +kernel
theorem dX0_addSlot_25 : decode cX0_addSlot 25 = .ok (.aload_n 0, 1) := by decide +kernel
theorem dX0_addSlot_26 : decode cX0_addSlot 26 = .ok (.getfield 23, 3) := by decide +kernel
theorem dX0_addSlot_29 : decode cX0_addSlot 29 = .ok (.lload_n 2, 1) := by decide +kernel
theorem dX0_addSlot_30 : decode cX0_addSlot 30 = .ok (.lastore, 1) := by decide +kernel
theorem dX0_addSlot_31 : decode cX0_addSlot 31 = .ok (.aload_n 0, 1) := by decide +kernel
theorem dX0_addSlot_32 : decode cX0_addSlot 32 = .ok (.dup, 1) := by decide +kernel
theorem dX0_addSlot_33 : decode cX0_addSlot 33 = .ok (.getfield 23, 3) := by decide +kernel
theorem dX0_addSlot_36 : decode cX0_addSlot 36 = .ok (.iconst 1, 1) := by decide +kernel
theorem dX0_addSlot_37 : decode cX0_addSlot 37 = .ok (.iadd, 1) := by decide +kernel
theorem dX0_addSlot_38 : decode cX0_addSlot 38 = .ok (.putfield 23, 3) := by decide +kernel
theorem dX0_addSlot_41 : decode cX0_addSlot 41 = .ok (.iconst 1, 1) := by decide +kernel
theorem dX0_addSlot_42 : decode cX0_addSlot 42 = .ok (.ireturn, 1) := by decide +kernel
theorem dX0_freeSlot_0 : decode cX0_freeSlot 0 = .ok (.aload_n 0, 1) := by decide +kernel
theorem dX0_freeSlot_1 : decode cX0_freeSlot 1 = .ok (.dup, 1) := by decide +kernel
theorem dX0_freeSlot_2 : decode cX0_freeSlot 2 = .ok (.getfield 23, 3) := by decide +kernel
theorem dX0_freeSlot_5 : decode cX0_freeSlot 5 = .ok (.iconst 1, 1) := by decide +kernel
theorem dX0_freeSlot_6 : decode cX0_freeSlot 6 = .ok (.isub, 1) := by decide +kernel
theorem dX0_freeSlot_7 : decode cX0_freeSlot 7 = .ok (.putfield 23, 3) := by decide +kernel
theorem dX0_freeSlot_10 : decode cX0_freeSlot 10 = .ok (.aload_n 0, 1) := by decide +kernel
theorem dX0_freeSlot_11 : decode cX0_freeSlot 11 = .ok (.getfield 9, 3) := by decide +kernel
theorem dX0_freeSlot_14 : decode cX0_freeSlot 14 = .ok (.iload_n 1, 1) := by decide +kernel
theorem dX0_freeSlot_15 : decode cX0_freeSlot 15 = .ok (.aload_n 0, 1) := by decide +kernel
theorem dX0_freeSlot_16 : decode cX0_freeSlot 16 = .ok (.getfield 9, 3) := by decide +kernel
theorem dX0_freeSlot_19 : decode cX0_freeSlot 19 = .ok (.aload_n 0, 1) := by decide +kernel
theorem dX0_freeSlot_20 : decode cX0_freeSlot 20 = .ok (.getfield 23, 3) := by decide +kernel
theorem dX0_freeSlot_23 : decode cX0_freeSlot 23 = .ok (.iaload, 1) := by decide +kernel
theorem dX0_freeSlot_24 : decode cX0_freeSlot 24 = .ok (.iastore, 1) := by decide +kernel
theorem dX0_freeSlot_25 : decode cX0_freeSlot 25 = .ok (.aload_n 0, 1) := by decide +kernel
theorem dX0_freeSlot_26 : decode cX0_freeSlot 26 = .ok (.getfield 15, 3) := by decide +kernel
theorem dX0_freeSlot_29 : decode cX0_freeSlot 29 = .ok (.iload_n 1, 1) := by decide +kernel
theorem dX0_freeSlot_30 : decode cX0_freeSlot 30 = .ok (.aload_n 0, 1) := by decide +kernel
theorem dX0_freeSlot_31 : decode cX0_freeSlot 31 = .ok (.getfield 15, 3) := by decide +kernel
theorem dX0_freeSlot_34 : decode cX0_freeSlot 34 = .ok (.aload_n 0, 1) := by decide +kernel
theorem dX0_freeSlot_35 : decode cX0_freeSlot 35 = .ok (.getfield 23, 3) := by decide +kernel
theorem dX0_freeSlot_38 : decode cX0_freeSlot 38 = .ok (.laload, 1) := by decide +kernel
theorem dX0_freeSlot_39 : decode cX0_freeSlot 39 = .ok (.lastore, 1) := by decide +kernel
theorem dX0_freeSlot_40 : decode cX0_freeSlot 40 = .ok (.return_, 1) := by decide +kernel
end
section
/-! decode rows, printed by wip/whole/tools/names.py -/
theorem dX1_init_0 : decode cX1_init 0 = .ok (.aload_n 0, 1) := by decide +kernel
theorem dX1_init_1 : decode cX1_init 1 = .ok (.invokespecial 1, 3) := by decide +kernel
theorem dX1_init_4 : decode cX1_init 4 = .ok (.aload_n 0, 1) := by decide +kernel
theorem dX1_init_5 : decode cX1_init 5 = .ok (.sipush 300, 3) := by decide +kernel
theorem dX1_init_8 : decode cX1_init 8 = .ok (.newarray .long, 2) := by decide +kernel
theorem dX1_init_10 : decode cX1_init 10 = .ok (.putfield 9, 3) := by decide +kernel
theorem dX1_init_13 : decode cX1_init 13 = .ok (.aload_n 0, 1) := by decide +kernel
theorem dX1_init_14 : decode cX1_init 14 = .ok (.sipush 300, 3) := by decide +kernel
theorem dX1_init_17 : decode cX1_init 17 = .ok (.newarray .long, 2) := by decide +kernel
theorem dX1_init_19 : decode cX1_init 19 = .ok (.putfield 13, 3) := by decide +kernel
theorem dX1_init_22 : decode cX1_init 22 = .ok (.aload_n 0, 1) := by decide +kernel
theorem dX1_init_23 : decode cX1_init 23 = .ok (.sipush 200, 3) := by decide +kernel
theorem dX1_init_26 : decode cX1_init 26 = .ok (.anewarray 16, 3) := by decide +kernel
theorem dX1_init_29 : decode cX1_init 29 = .ok (.putfield 18, 3) := by decide +kernel
theorem dX1_init_32 : decode cX1_init 32 = .ok (.aload_n 0, 1) := by decide +kernel
theorem dX1_init_33 : decode cX1_init 33 = .ok (.sipush 300, 3) := by decide +kernel
theorem dX1_init_36 : decode cX1_init 36 = .ok (.newarray .long, 2) := by decide +kernel
theorem dX1_init_38 : decode cX1_init 38 = .ok (.putfield 22, 3) := by decide +kernel
theorem dX1_init_41 : decode cX1_init 41 = .ok (.aload_n 0, 1) := by decide +kernel
theorem dX1_init_42 : decode cX1_init 42 = .ok (.sipush 300, 3) := by decide +kernel
theorem dX1_init_45 : decode cX1_init 45 = .ok (.newarray .boolean, 2) := by decide +kernel
theorem dX1_init_47 : decode cX1_init 47 = .ok (.putfield 25, 3) := by decide +kernel
theorem dX1_init_50 : decode cX1_init 50 = .ok (.return_, 1) := by decide +kernel
theorem dX1_place_0 : decode cX1_place 0 = .ok (.iload_n 1, 1) := by decide +kernel
theorem dX1_place_1 : decode cX1_place 1 = .ok (.invokestatic 29, 3) := by decide +kernel
theorem dX1_place_4 : decode cX1_place 4 = .ok (.ifCond .eq 25, 3) := by decide +kernel
theorem dX1_place_7 : decode cX1_place 7 = .ok (.lload_n 2, 1) := by decide +kernel
theorem dX1_place_8 : decode cX1_place 8 = .ok (.invokestatic 33, 3) := by decide +kernel
theorem dX1_place_11 : decode cX1_place 11 = .ok (.ifCond .eq 18, 3) := by decide +kernel
theorem dX1_place_14 : decode cX1_place 14 = .ok (.lload 4, 2) := by decide +kernel
theorem dX1_place_16 : decode cX1_place 16 = .ok (.invokestatic 33, 3) := by decide +kernel
theorem dX1_place_19 : decode cX1_place 19 = .ok (.ifCond .eq 10, 3) := by decide +kernel
theorem dX1_place_22 : decode cX1_place 22 = .ok (.lload_n 2, 1) := by decide +kernel
theorem dX1_place_23 : decode cX1_place 23 = .ok (.lload 4, 2) := by decide +kernel
theorem dX1_place_25 : decode cX1_place 25 = .ok (.lcmp, 1) := by decide +kernel
theorem dX1_place_26 : decode cX1_place 26 = .ok (.ifCond .ge 5, 3) := by decide +kernel
theorem dX1_place_29 : decode cX1_place 29 = .ok (.iconst 0, 1) := by decide +kernel
theorem dX1_place_30 : decode cX1_place 30 = .ok (.ireturn, 1) := by decide +kernel
theorem dX1_place_31 : decode cX1_place 31 = .ok (.aload_n 0, 1) := by decide +kernel
theorem dX1_place_32 : decode cX1_place 32 = .ok (.getfield 9, 3) := by decide +kernel
theorem dX1_place_35 : decode cX1_place 35 = .ok (.iload_n 1, 1) := by decide +kernel
theorem dX1_place_36 : decode cX1_place 36 = .ok (.lload_n 2, 1) := by decide +kernel
theorem dX1_place_37 : decode cX1_place 37 = .ok (.lastore, 1) := by decide +kernel
theorem dX1_place_38 : decode cX1_place 38 = .ok (.aload_n 0, 1) := by decide +kernel
theorem dX1_place_39 : decode cX1_place 39 = .ok (.getfield 13, 3) := by decide +kernel
theorem dX1_place_42 : decode cX1_place 42 = .ok (.iload_n 1, 1) := by decide +kernel
theorem dX1_place_43 : decode cX1_place 43 = .ok (.lload 4, 2) := by decide +kernel
theorem dX1_place_45 : decode cX1_place 45 = .ok (.lastore, 1) := by decide +kernel
theorem dX1_place_46 : decode cX1_place 46 = .ok (.iconst 1, 1) := by decide +kernel
theorem dX1_place_47 : decode cX1_place 47 = .ok (.ireturn, 1) := by decide +kernel
theorem dX1_item_0 : decode cX1_item 0 = .ok (.aload_n 0, 1) := by decide +kernel
theorem dX1_item_1 : decode cX1_item 1 = .ok (.getfield 37, 3) := by decide +kernel
theorem dX1_item_4 : decode cX1_item 4 = .ok (.sipush 200, 3) := by decide +kernel
theorem dX1_item_7 : decode cX1_item 7 = .ok (.if_icmp .lt 5, 3) := by decide +kernel
theorem dX1_item_10 : decode cX1_item 10 = .ok (.iconst (-1), 1) := by decide +kernel
theorem dX1_item_11 : decode cX1_item 11 = .ok (.ireturn, 1) := by decide +kernel
theorem dX1_item_12 : decode cX1_item 12 = .ok (.aload_n 0, 1) := by decide +kernel
theorem dX1_item_13 : decode cX1_item 13 = .ok (.getfield 18, 3) := by decide +kernel
theorem dX1_item_16 : decode cX1_item 16 = .ok (.aload_n 0, 1) := by decide +kernel
theorem dX1_item_17 : decode cX1_item 17 = .ok (.getfield 37, 3) := by decide +kernel
theorem dX1_item_20 : decode cX1_item 20 = .ok (.new 16, 3) := by decide +kernel
theorem dX1_item_23 : decode cX1_item 23 = .ok (.dup, 1) := by decide +kernel
theorem dX1_item_24 : decode cX1_item 24 = .ok (.invokespecial 41, 3) := by decide +kernel
theorem dX1_item_27 : decode cX1_item 27 = .ok (.aastore, 1) := by decide +kernel
theorem dX1_item_28 : decode cX1_item 28 = .ok (.aload_n 0, 1) := by decide +kernel
theorem dX1_item_29 : decode cX1_item 29 = .ok (.dup, 1) := by decide +kernel
theorem dX1_item_30 : decode cX1_item 30 = .ok (.getfield 37, 3) := by decide +kernel
theorem dX1_item_33 : decode cX1_item 33 = .ok (.iconst 1, 1) := by decide +kernel
theorem dX1_item_34 : decode cX1_item 34 = .ok (.iadd, 1) := by decide +kernel
theorem dX1_item_35 : decode cX1_item 35 = .ok (.putfield 37, 3) := by decide +kernel
theorem dX1_item_38 : decode cX1_item 38 = .ok (.aload_n 0, 1) := by decide +kernel
theorem dX1_item_39 : decode cX1_item 39 = .ok (.dup, 1) := by decide +kernel
theorem dX1_item_40 : decode cX1_item 40 = .ok (.getfield 42, 3) := by decide +kernel
theorem dX1_item_43 : decode cX1_item 43 = .ok (.iconst 1, 1) := by decide +kernel
theorem dX1_item_44 : decode cX1_item 44 = .ok (.iadd, 1) := by decide +kernel
theorem dX1_item_45 : decode cX1_item 45 = .ok (.putfield 42, 3) := by decide +kernel
theorem dX1_item_48 : decode cX1_item 48 = .ok (.aload_n 0, 1) := by decide +kernel
theorem dX1_item_49 : decode cX1_item 49 = .ok (.getfield 37, 3) := by decide +kernel
theorem dX1_item_52 : decode cX1_item 52 = .ok (.iconst 1, 1) := by decide +kernel
theorem dX1_item_53 : decode cX1_item 53 = .ok (.isub, 1) := by decide +kernel
theorem dX1_item_54 : decode cX1_item 54 = .ok (.ireturn, 1) := by decide +kernel
theorem dX1_net_0 : decode cX1_net 0 = .ok (.aload_n 0, 1) := by decide +kernel
theorem dX1_net_1 : decode cX1_net 1 = .ok (.iload_n 1, 1) := by decide +kernel
theorem dX1_net_2 : decode cX1_net 2 = .ok (.invokevirtual 45, 3) := by decide +kernel
theorem dX1_net_5 : decode cX1_net 5 = .ok (.astore 5, 2) := by decide +kernel
theorem dX1_net_7 : decode cX1_net 7 = .ok (.aload 5, 2) := by decide +kernel
theorem dX1_net_9 : decode cX1_net 9 = .ok (.ifnull 24, 3) := by decide +kernel
theorem dX1_net_12 : decode cX1_net 12 = .ok (.iload_n 2, 1) := by decide +kernel
theorem dX1_net_13 : decode cX1_net 13 = .ok (.invokestatic 29, 3) := by decide +kernel
theorem dX1_net_16 : decode cX1_net 16 = .ok (.ifCond .eq 17, 3) := by decide +kernel
theorem dX1_net_19 : decode cX1_net 19 = .ok (.aload 5, 2) := by decide +kernel
theorem dX1_net_21 : decode cX1_net 21 = .ok (.iload_n 2, 1) := by decide +kernel
theorem dX1_net_22 : decode cX1_net 22 = .ok (.lload_n 3, 1) := by decide +kernel
theorem dX1_net_23 : decode cX1_net 23 = .ok (.invokevirtual 49, 3) := by decide +kernel
theorem dX1_net_26 : decode cX1_net 26 = .ok (.ifCond .eq 7, 3) := by decide +kernel
theorem dX1_net_29 : decode cX1_net 29 = .ok (.iconst 1, 1) := by decide +kernel
theorem dX1_net_30 : decode cX1_net 30 = .ok (.goto 4, 3) := by decide +kernel
theorem dX1_net_33 : decode cX1_net 33 = .ok (.iconst 0, 1) := by decide +kernel
theorem dX1_net_34 : decode cX1_net 34 = .ok (.ireturn, 1) := by decide +kernel
theorem dX1_go_0 : decode cX1_go 0 = .ok (.aload_n 0, 1) := by decide +kernel
theorem dX1_go_1 : decode cX1_go 1 = .ok (.iload_n 1, 1) := by decide +kernel
theorem dX1_go_2 : decode cX1_go 2 = .ok (.invokevirtual 45, 3) := by decide +kernel
theorem dX1_go_5 : decode cX1_go 5 = .ok (.astore_n 2, 1) := by decide +kernel
theorem dX1_go_6 : decode cX1_go 6 = .ok (.aload_n 2, 1) := by decide +kernel
theorem dX1_go_7 : decode cX1_go 7 = .ok (.ifnonnull 5, 3) := by decide +kernel
theorem dX1_go_10 : decode cX1_go 10 = .ok (.iconst 0, 1) := by decide +kernel
theorem dX1_go_11 : decode cX1_go 11 = .ok (.ireturn, 1) := by decide +kernel
theorem dX1_go_12 : decode cX1_go 12 = .ok (.aload_n 2, 1) := by decide +kernel
theorem dX1_go_13 : decode cX1_go 13 = .ok (.iconst 0, 1) := by decide +kernel
theorem dX1_go_14 : decode cX1_go 14 = .ok (.putfield 53, 3) := by decide +kernel
theorem dX1_go_17 : decode cX1_go 17 = .ok (.aload_n 0, 1) := by decide +kernel
theorem dX1_go_18 : decode cX1_go 18 = .ok (.dup, 1) := by decide +kernel
theorem dX1_go_19 : decode cX1_go 19 = .ok (.getfield 42, 3) := by decide +kernel
theorem dX1_go_22 : decode cX1_go 22 = .ok (.iconst 1, 1) := by decide +kernel
theorem dX1_go_23 : decode cX1_go 23 = .ok (.isub, 1) := by decide +kernel
theorem dX1_go_24 : decode cX1_go 24 = .ok (.putfield 42, 3) := by decide +kernel
theorem dX1_go_27 : decode cX1_go 27 = .ok (.iconst 1, 1) := by decide +kernel
theorem dX1_go_28 : decode cX1_go 28 = .ok (.ireturn, 1) := by decide +kernel
theorem dX1_solve_0 : decode cX1_solve 0 = .ok (.aload_n 0, 1) := by decide +kernel
theorem dX1_solve_1 : decode cX1_solve 1 = .ok (.invokevirtual 57, 3) := by decide +kernel
theorem dX1_solve_4 : decode cX1_solve 4 = .ok (.aload_n 0, 1) := by decide +kernel
theorem dX1_solve_5 : decode cX1_solve 5 = .ok (.getfield 60, 3) := by decide +kernel
theorem dX1_solve_8 : decode cX1_solve 8 = .ok (.ireturn, 1) := by decide +kernel
theorem dX1_in_0 : decode cX1_in 0 = .ok (.aload_n 0, 1) := by decide +kernel
theorem dX1_in_1 : decode cX1_in 1 = .ok (.iload_n 1, 1) := by decide +kernel
theorem dX1_in_2 : decode cX1_in 2 = .ok (.invokevirtual 63, 3) := by decide +kernel
theorem dX1_in_5 : decode cX1_in 5 = .ok (.astore_n 2, 1) := by decide +kernel
theorem dX1_in_6 : decode cX1_in 6 = .ok (.aload_n 2, 1) := by decide +kernel
theorem dX1_in_7 : decode cX1_in 7 = .ok (.ifnull 14, 3) := by decide +kernel
theorem dX1_in_10 : decode cX1_in 10 = .ok (.aload_n 2, 1) := by decide +kernel
theorem dX1_in_11 : decode cX1_in 11 = .ok (.getfield 66, 3) := by decide +kernel
theorem dX1_in_14 : decode cX1_in 14 = .ok (.ifCond .eq 7, 3) := by decide +kernel
theorem dX1_in_17 : decode cX1_in 17 = .ok (.iconst 1, 1) := by decide +kernel
theorem dX1_in_18 : decode cX1_in 18 = .ok (.goto 4, 3) := by decide +kernel
theorem dX1_in_21 : decode cX1_in 21 = .ok (.iconst 0, 1) := by decide +kernel
theorem dX1_in_22 : decode cX1_in 22 = .ok (.ireturn, 1) := by decide +kernel
theorem dX1_perform_0 : decode cX1_perform 0 = .ok (.aload_n 0, 1) := by decide +kernel
theorem dX1_perform_1 : decode cX1_perform 1 = .ok (.invokevirtual 57, 3) := by decide +kernel
theorem dX1_perform_4 : decode cX1_perform 4 = .ok (.aload_n 0, 1) := by decide +kernel
theorem dX1_perform_5 : decode cX1_perform 5 = .ok (.invokevirtual 69, 3) := by decide +kernel
theorem dX1_perform_8 : decode cX1_perform 8 = .ok (.ifCond .ne 5, 3) := by decide +kernel
theorem dX1_perform_11 : decode cX1_perform 11 = .ok (.iconst (-1), 1) := by decide +kernel
theorem dX1_perform_12 : decode cX1_perform 12 = .ok (.ireturn, 1) := by decide +kernel
theorem dX1_perform_13 : decode cX1_perform 13 = .ok (.aload_n 0, 1) := by decide +kernel
theorem dX1_perform_14 : decode cX1_perform 14 = .ok (.getfield 22, 3) := by decide +kernel
theorem dX1_perform_17 : decode cX1_perform 17 = .ok (.iconst 0, 1) := by decide +kernel
theorem dX1_perform_18 : decode cX1_perform 18 = .ok (.aload_n 0, 1) := by decide +kernel
theorem dX1_perform_19 : decode cX1_perform 19 = .ok (.getfield 9, 3) := by decide +kernel
theorem dX1_perform_22 : decode cX1_perform 22 = .ok (.iconst 0, 1) := by decide +kernel
theorem dX1_perform_23 : decode cX1_perform 23 = .ok (.sipush 300, 3) := by decide +kernel
theorem dX1_perform_26 : decode cX1_perform 26 = .ok (.invokestatic 73, 3) := by decide +kernel
theorem dX1_perform_29 : decode cX1_perform 29 = .ok (.aload_n 0, 1) := by decide +kernel
theorem dX1_perform_30 : decode cX1_perform 30 = .ok (.invokevirtual 79, 3) := by decide +kernel
theorem dX1_perform_33 : decode cX1_perform 33 = .ok (.aload_n 0, 1) := by decide +kernel
theorem dX1_perform_34 : decode cX1_perform 34 = .ok (.getfield 60, 3) := by decide +kernel
theorem dX1_perform_37 : decode cX1_perform 37 = .ok (.ireturn, 1) := by decide +kernel
theorem dX1_value_0 : decode cX1_value 0 = .ok (.iload_n 1, 1) := by decide +kernel
theorem dX1_value_1 : decode cX1_value 1 = .ok (.invokestatic 29, 3) := by decide +kernel
theorem dX1_value_4 : decode cX1_value 4 = .ok (.ifCond .eq 12, 3) := by decide +kernel
theorem dX1_value_7 : decode cX1_value 7 = .ok (.aload_n 0, 1) := by decide +kernel
theorem dX1_value_8 : decode cX1_value 8 = .ok (.getfield 9, 3) := by decide +kernel
theorem dX1_value_11 : decode cX1_value 11 = .ok (.iload_n 1, 1) := by decide +kernel
theorem dX1_value_12 : decode cX1_value 12 = .ok (.laload, 1) := by decide +kernel
theorem dX1_value_13 : decode cX1_value 13 = .ok (.goto 4, 3) := by decide +kernel
theorem dX1_value_16 : decode cX1_value 16 = .ok (.lconst 0, 1) := by decide +kernel
theorem dX1_value_17 : decode cX1_value 17 = .ok (.lreturn, 1) := by decide +kernel
theorem dX1_netOf_0 : decode cX1_netOf 0 = .ok (.aload_n 0, 1) := by decide +kernel
theorem dX1_netOf_1 : decode cX1_netOf 1 = .ok (.iload_n 1, 1) := by decide +kernel
theorem dX1_netOf_2 : decode cX1_netOf 2 = .ok (.invokevirtual 45, 3) := by decide +kernel
theorem dX1_netOf_5 : decode cX1_netOf 5 = .ok (.astore_n 3, 1) := by decide +kernel
theorem dX1_netOf_6 : decode cX1_netOf 6 = .ok (.aload_n 3, 1) := by decide +kernel
theorem dX1_netOf_7 : decode cX1_netOf 7 = .ok (.ifnonnull 7, 3) := by decide +kernel
theorem dX1_netOf_10 : decode cX1_netOf 10 = .ok (.lconst 0, 1) := by decide +kernel
theorem dX1_netOf_11 : decode cX1_netOf 11 = .ok (.goto 8, 3) := by decide +kernel
theorem dX1_netOf_14 : decode cX1_netOf 14 = .ok (.aload_n 3, 1) := by decide +kernel
theorem dX1_netOf_15 : decode cX1_netOf 15 = .ok (.iload_n 2, 1) := by decide +kernel
theorem dX1_netOf_16 : decode cX1_netOf 16 = .ok (.invokevirtual 82, 3) := by decide +kernel
theorem dX1_netOf_19 : decode cX1_netOf 19 = .ok (.lreturn, 1) := by decide +kernel
theorem dX1_count_0 : decode cX1_count 0 = .ok (.iload_n 1, 1) := by decide +kernel
theorem dX1_count_1 : decode cX1_count 1 = .ok (.tableswitch 42 0 2 #[27, 32, 37], 27) := by decide +kernel
theorem dX1_count_28 : decode cX1_count 28 = .ok (.aload_n 0, 1) := by decide +kernel
theorem dX1_count_29 : decode cX1_count 29 = .ok (.getfield 37, 3) := by decide +kernel
theorem dX1_count_32 : decode cX1_count 32 = .ok (.ireturn, 1) := by decide +kernel
theorem dX1_count_33 : decode cX1_count 33 = .ok (.aload_n 0, 1) := by decide +kernel
theorem dX1_count_34 : decode cX1_count 34 = .ok (.getfield 42, 3) := by decide +kernel
theorem dX1_count_37 : decode cX1_count 37 = .ok (.ireturn, 1) := by decide +kernel
theorem dX1_count_38 : decode cX1_count 38 = .ok (.aload_n 0, 1) := by decide +kernel
theorem dX1_count_39 : decode cX1_count 39 = .ok (.getfield 60, 3) := by decide +kernel
theorem dX1_count_42 : decode cX1_count 42 = .ok (.ireturn, 1) := by decide +kernel
theorem dX1_count_43 : decode cX1_count 43 = .ok (.iconst (-1), 1) := by decide +kernel
theorem dX1_count_44 : decode cX1_count 44 = .ok (.ireturn, 1) := by decide +kernel
theorem dX1_isPosition_0 : decode cX1_isPosition 0 = .ok (.iload_n 0, 1) := by decide +kernel
theorem dX1_isPosition_1 : decode cX1_isPosition 1 = .ok (.ifCond .lt 14, 3) := by decide +kernel
theorem dX1_isPosition_4 : decode cX1_isPosition 4 = .ok (.iload_n 0, 1) := by decide +kernel
theorem dX1_isPosition_5 : decode cX1_isPosition 5 = .ok (.sipush 300, 3) := by decide +kernel
theorem dX1_isPosition_8 : decode cX1_isPosition 8 = .ok (.if_icmp .ge 7, 3) := by decide +kernel
theorem dX1_isPosition_11 : decode cX1_isPosition 11 = .ok (.iconst 1, 1) := by decide +kernel
theorem dX1_isPosition_12 : decode cX1_isPosition 12 = .ok (.goto 4, 3) := by decide +kernel
theorem dX1_isPosition_15 : decode cX1_isPosition 15 = .ok (.iconst 0, 1) := by decide +kernel
theorem dX1_isPosition_16 : decode cX1_isPosition 16 = .ok (.ireturn, 1) := by decide +kernel
theorem dX1_isValue_0 : decode cX1_isValue 0 = .ok (.lload_n 0, 1) := by decide +kernel
theorem dX1_isValue_1 : decode cX1_isValue 1 = .ok (.ldc2_w 86, 3) := by decide +kernel
theorem dX1_isValue_4 : decode cX1_isValue 4 = .ok (.lcmp, 1) := by decide +kernel
theorem dX1_isValue_5 : decode cX1_isValue 5 = .ok (.ifCond .lt 15, 3) := by decide +kernel
theorem dX1_isValue_8 : decode cX1_isValue 8 = .ok (.lload_n 0, 1) := by decide +kernel
theorem dX1_isValue_9 : decode cX1_isValue 9 = .ok (.ldc2_w 88, 3) := by decide +kernel
theorem dX1_isValue_12 : decode cX1_isValue 12 = .ok (.lcmp, 1) := by decide +kernel
theorem dX1_isValue_13 : decode cX1_isValue 13 = .ok (.ifCond .gt 7, 3) := by decide +kernel
theorem dX1_isValue_16 : decode cX1_isValue 16 = .ok (.iconst 1, 1) := by decide +kernel
theorem dX1_isValue_17 : decode cX1_isValue 17 = .ok (.goto 4, 3) := by decide +kernel
theorem dX1_isValue_20 : decode cX1_isValue 20 = .ok (.iconst 0, 1) := by decide +kernel
theorem dX1_isValue_21 : decode cX1_isValue 21 = .ok (.ireturn, 1) := by decide +kernel
theorem dX1_itemEver_0 : decode cX1_itemEver 0 = .ok (.iload_n 1, 1) := by decide +kernel
theorem dX1_itemEver_1 : decode cX1_itemEver 1 = .ok (.ifCond .lt 20, 3) := by decide +kernel
theorem dX1_itemEver_4 : decode cX1_itemEver 4 = .ok (.iload_n 1, 1) := by decide +kernel
theorem dX1_itemEver_5 : decode cX1_itemEver 5 = .ok (.aload_n 0, 1) := by decide +kernel
theorem dX1_itemEver_6 : decode cX1_itemEver 6 = .ok (.getfield 37, 3) := by decide +kernel
theorem dX1_itemEver_9 : decode cX1_itemEver 9 = .ok (.if_icmp .ge 12, 3) := by decide +kernel
theorem dX1_itemEver_12 : decode cX1_itemEver 12 = .ok (.aload_n 0, 1) := by decide +kernel
theorem dX1_itemEver_13 : decode cX1_itemEver 13 = .ok (.getfield 18, 3) := by decide +kernel
theorem dX1_itemEver_16 : decode cX1_itemEver 16 = .ok (.iload_n 1, 1) := by decide +kernel
theorem dX1_itemEver_17 : decode cX1_itemEver 17 = .ok (.aaload, 1) := by decide +kernel
theorem dX1_itemEver_18 : decode cX1_itemEver 18 = .ok (.goto 4, 3) := by decide +kernel
theorem dX1_itemEver_21 : decode cX1_itemEver 21 = .ok (.aconst_null, 1) := by decide +kernel
theorem dX1_itemEver_22 : decode cX1_itemEver 22 = .ok (.areturn, 1) := by decide +kernel
theorem dX1_itemThere_0 : decode cX1_itemThere 0 = .ok (.aload_n 0, 1) := by decide +kernel
theorem dX1_itemThere_1 : decode cX1_itemThere 1 = .ok (.iload_n 1, 1) := by decide +kernel
theorem dX1_itemThere_2 : decode cX1_itemThere 2 = .ok (.invokevirtual 63, 3) := by decide +kernel
theorem dX1_itemThere_5 : decode cX1_itemThere 5 = .ok (.astore_n 2, 1) := by decide +kernel
theorem dX1_itemThere_6 : decode cX1_itemThere 6 = .ok (.aload_n 2, 1) := by decide +kernel
theorem dX1_itemThere_7 : decode cX1_itemThere 7 = .ok (.ifnull 14, 3) := by decide +kernel
theorem dX1_itemThere_10 : decode cX1_itemThere 10 = .ok (.aload_n 2, 1) := by decide +kernel
theorem dX1_itemThere_11 : decode cX1_itemThere 11 = .ok (.getfield 53, 3) := by decide +kernel
theorem dX1_itemThere_14 : decode cX1_itemThere 14 = .ok (.ifCond .eq 7, 3) := by decide +kernel
theorem dX1_itemThere_17 : decode cX1_itemThere 17 = .ok (.aload_n 2, 1) := by decide +kernel
theorem dX1_itemThere_18 : decode cX1_itemThere 18 = .ok (.goto 4, 3) := by decide +kernel
theorem dX1_itemThere_21 : decode cX1_itemThere 21 = .ok (.aconst_null, 1) := by decide +kernel
theorem dX1_itemThere_22 : decode cX1_itemThere 22 = .ok (.areturn, 1) := by decide +kernel
theorem dX1_findGreatest_0 : decode cX1_findGreatest 0 = .ok (.aload_n 0, 1) := by decide +kernel
theorem dX1_findGreatest_1 : decode cX1_findGreatest 1 = .ok (.invokevirtual 90, 3) := by decide +kernel
theorem dX1_findGreatest_4 : decode cX1_findGreatest 4 = .ok (.iconst 0, 1) := by decide +kernel
theorem dX1_findGreatest_5 : decode cX1_findGreatest 5 = .ok (.istore_n 1, 1) := by decide +kernel
theorem dX1_findGreatest_6 : decode cX1_findGreatest 6 = .ok (.iload_n 1, 1) := by decide +kernel
theorem dX1_findGreatest_7 : decode cX1_findGreatest 7 = .ok (.sipush 200, 3) := by decide +kernel
theorem dX1_findGreatest_10 : decode cX1_findGreatest 10 = .ok (.if_icmp .gt 19, 3) := by decide +kernel
theorem dX1_findGreatest_13 : decode cX1_findGreatest 13 = .ok (.aload_n 0, 1) := by decide +kernel
theorem dX1_findGreatest_14 : decode cX1_findGreatest 14 = .ok (.invokevirtual 93, 3) := by decide +kernel
theorem dX1_findGreatest_17 : decode cX1_findGreatest 17 = .ok (.ifCond .ne 6, 3) := by decide +kernel
theorem dX1_findGreatest_20 : decode cX1_findGreatest 20 = .ok (.goto 9, 3) := by decide +kernel
theorem dX1_findGreatest_23 : decode cX1_findGreatest 23 = .ok (.iinc 1 1, 3) := by decide +kernel
theorem dX1_findGreatest_26 : decode cX1_findGreatest 26 = .ok (.goto (-20), 3) := by decide +kernel
theorem dX1_findGreatest_29 : decode cX1_findGreatest 29 = .ok (.return_, 1) := by decide +kernel
theorem dX1_startWithAllThere_0 : decode cX1_startWithAllThere 0 = .ok (.iconst 0, 1) := by decide +kernel
theorem dX1_startWithAllThere_1 : decode cX1_startWithAllThere 1 = .ok (.istore_n 1, 1) := by decide +kernel
theorem dX1_startWithAllThere_2 : decode cX1_startWithAllThere 2 = .ok (.iload_n 1, 1) := by decide +kernel
theorem dX1_startWithAllThere_3 : decode cX1_startWithAllThere 3 = .ok (.aload_n 0, 1) := by decide +kernel
theorem dX1_startWithAllThere_4 : decode cX1_startWithAllThere 4 = .ok (.getfield 37, 3) := by decide +kernel
theorem dX1_startWithAllThere_7 : decode cX1_startWithAllThere 7 = .ok (.if_icmp .ge 28, 3) := by decide +kernel
theorem dX1_startWithAllThere_10 : decode cX1_startWithAllThere 10 = .ok (.aload_n 0, 1) := by decide +kernel
theorem dX1_startWithAllThere_11 : decode cX1_startWithAllThere 11 = .ok (.getfield 18, 3) := by decide +kernel
theorem dX1_startWithAllThere_14 : decode cX1_startWithAllThere 14 = .ok (.iload_n 1, 1) := by decide +kernel
theorem dX1_startWithAllThere_15 : decode cX1_startWithAllThere 15 = .ok (.aaload, 1) := by decide +kernel
theorem dX1_startWithAllThere_16 : decode cX1_startWithAllThere 16 = .ok (.astore_n 2, 1) := by decide +kernel
theorem dX1_startWithAllThere_17 : decode cX1_startWithAllThere 17 = .ok (.aload_n 2, 1) := by decide +kernel
theorem dX1_startWithAllThere_18 : decode cX1_startWithAllThere 18 = .ok (.ifnull 11, 3) := by decide +kernel
theorem dX1_startWithAllThere_21 : decode cX1_startWithAllThere 21 = .ok (.aload_n 2, 1) := by decide +kernel
theorem dX1_startWithAllThere_22 : decode cX1_startWithAllThere 22 = .ok (.aload_n 2, 1) := by decide +kernel
theorem dX1_startWithAllThere_23 : decode cX1_startWithAllThere 23 = .ok (.getfield 53, 3) := by decide +kernel
theorem dX1_startWithAllThere_26 : decode cX1_startWithAllThere 26 = .ok (.putfield 66, 3) := by decide +kernel
theorem dX1_startWithAllThere_29 : decode cX1_startWithAllThere 29 = .ok (.iinc 1 1, 3) := by decide +kernel
theorem dX1_startWithAllThere_32 : decode cX1_startWithAllThere 32 = .ok (.goto (-30), 3) := by decide +kernel
theorem dX1_startWithAllThere_35 : decode cX1_startWithAllThere 35 = .ok (.aload_n 0, 1) := by decide +kernel
theorem dX1_startWithAllThere_36 : decode cX1_startWithAllThere 36 = .ok (.aload_n 0, 1) := by decide +kernel
theorem dX1_startWithAllThere_37 : decode cX1_startWithAllThere 37 = .ok (.getfield 42, 3) := by decide +kernel
theorem dX1_startWithAllThere_40 : decode cX1_startWithAllThere 40 = .ok (.putfield 60, 3) := by decide +kernel
theorem dX1_startWithAllThere_43 : decode cX1_startWithAllThere 43 = .ok (.return_, 1) := by decide +kernel
theorem dX1_dropHopeless_0 : decode cX1_dropHopeless 0 = .ok (.aload_n 0, 1) := by decide +kernel
theorem dX1_dropHopeless_1 : decode cX1_dropHopeless 1 = .ok (.invokevirtual 96, 3) := by decide +kernel
theorem dX1_dropHopeless_4 : decode cX1_dropHopeless 4 = .ok (.aload_n 0, 1) := by decide +kernel
theorem dX1_dropHopeless_5 : decode cX1_dropHopeless 5 = .ok (.invokevirtual 99, 3) := by decide +kernel
theorem dX1_dropHopeless_8 : decode cX1_dropHopeless 8 = .ok (.aload_n 0, 1) := by decide +kernel
theorem dX1_dropHopeless_9 : decode cX1_dropHopeless 9 = .ok (.getfield 60, 3) := by decide +kernel
theorem dX1_dropHopeless_12 : decode cX1_dropHopeless 12 = .ok (.istore_n 1, 1) := by decide +kernel
theorem dX1_dropHopeless_13 : decode cX1_dropHopeless 13 = .ok (.iconst 0, 1) := by decide +kernel
theorem dX1_dropHopeless_14 : decode cX1_dropHopeless 14 = .ok (.istore_n 2, 1) := by decide +kernel
theorem dX1_dropHopeless_15 : decode cX1_dropHopeless 15 = .ok (.iload_n 2, 1) := by decide +kernel
theorem dX1_dropHopeless_16 : decode cX1_dropHopeless 16 = .ok (.aload_n 0, 1) := by decide +kernel
theorem dX1_dropHopeless_17 : decode cX1_dropHopeless 17 = .ok (.getfield 37, 3) := by decide +kernel
theorem dX1_dropHopeless_20 : decode cX1_dropHopeless 20 = .ok (.if_icmp .ge 58, 3) := by decide +kernel
theorem dX1_dropHopeless_23 : decode cX1_dropHopeless 23 = .ok (.aload_n 0, 1) := by decide +kernel
theorem dX1_dropHopeless_24 : decode cX1_dropHopeless 24 = .ok (.getfield 18, 3) := by decide +kernel
theorem dX1_dropHopeless_27 : decode cX1_dropHopeless 27 = .ok (.iload_n 2, 1) := by decide +kernel
theorem dX1_dropHopeless_28 : decode cX1_dropHopeless 28 = .ok (.aaload, 1) := by decide +kernel
theorem dX1_dropHopeless_29 : decode cX1_dropHopeless 29 = .ok (.astore_n 3, 1) := by decide +kernel
theorem dX1_dropHopeless_30 : decode cX1_dropHopeless 30 = .ok (.aload_n 3, 1) := by decide +kernel
theorem dX1_dropHopeless_31 : decode cX1_dropHopeless 31 = .ok (.ifnull 41, 3) := by decide +kernel
theorem dX1_dropHopeless_34 : decode cX1_dropHopeless 34 = .ok (.aload_n 3, 1) := by decide +kernel
theorem dX1_dropHopeless_35 : decode cX1_dropHopeless 35 = .ok (.getfield 53, 3) := by decide +kernel
theorem dX1_dropHopeless_38 : decode cX1_dropHopeless 38 = .ok (.ifCond .ne 6, 3) := by decide +kernel
theorem dX1_dropHopeless_41 : decode cX1_dropHopeless 41 = .ok (.goto 31, 3) := by decide +kernel
theorem dX1_dropHopeless_44 : decode cX1_dropHopeless 44 = .ok (.aload_n 3, 1) := by decide +kernel
theorem dX1_dropHopeless_45 : decode cX1_dropHopeless 45 = .ok (.getfield 66, 3) := by decide +kernel
theorem dX1_dropHopeless_48 : decode cX1_dropHopeless 48 = .ok (.ifCond .eq 19, 3) := by decide +kernel
theorem dX1_dropHopeless_51 : decode cX1_dropHopeless 51 = .ok (.aload_n 0, 1) := by decide +kernel
theorem dX1_dropHopeless_52 : decode cX1_dropHopeless 52 = .ok (.aload_n 3, 1) := by decide +kernel
theorem dX1_dropHopeless_53 : decode cX1_dropHopeless 53 = .ok (.invokevirtual 102, 3) := by decide +kernel
theorem dX1_dropHopeless_56 : decode cX1_dropHopeless 56 = .ok (.ifCond .eq 11, 3) := by decide +kernel
theorem dX1_dropHopeless_59 : decode cX1_dropHopeless 59 = .ok (.aload_n 0, 1) := by decide +kernel
theorem dX1_dropHopeless_60 : decode cX1_dropHopeless 60 = .ok (.aload_n 3, 1) := by decide +kernel
theorem dX1_dropHopeless_61 : decode cX1_dropHopeless 61 = .ok (.invokevirtual 106, 3) := by decide +kernel
theorem dX1_dropHopeless_64 : decode cX1_dropHopeless 64 = .ok (.goto 8, 3) := by decide +kernel
theorem dX1_dropHopeless_67 : decode cX1_dropHopeless 67 = .ok (.aload_n 0, 1) := by decide +kernel
theorem dX1_dropHopeless_68 : decode cX1_dropHopeless 68 = .ok (.aload_n 3, 1) := by decide +kernel
theorem dX1_dropHopeless_69 : decode cX1_dropHopeless 69 = .ok (.invokevirtual 110, 3) := by decide +kernel
theorem dX1_dropHopeless_72 : decode cX1_dropHopeless 72 = .ok (.iinc 2 1, 3) := by decide +kernel
theorem dX1_dropHopeless_75 : decode cX1_dropHopeless 75 = .ok (.goto (-60), 3) := by decide +kernel
theorem dX1_dropHopeless_78 : decode cX1_dropHopeless 78 = .ok (.aload_n 0, 1) := by decide +kernel
theorem dX1_dropHopeless_79 : decode cX1_dropHopeless 79 = .ok (.getfield 60, 3) := by decide +kernel
theorem dX1_dropHopeless_82 : decode cX1_dropHopeless 82 = .ok (.iload_n 1, 1) := by decide +kernel
theorem dX1_dropHopeless_83 : decode cX1_dropHopeless 83 = .ok (.if_icmp .ge 7, 3) := by decide +kernel
theorem dX1_dropHopeless_86 : decode cX1_dropHopeless 86 = .ok (.iconst 1, 1) := by decide +kernel
theorem dX1_dropHopeless_87 : decode cX1_dropHopeless 87 = .ok (.goto 4, 3) := by decide +kernel
theorem dX1_dropHopeless_90 : decode cX1_dropHopeless 90 = .ok (.iconst 0, 1) := by decide +kernel
theorem dX1_dropHopeless_91 : decode cX1_dropHopeless 91 = .ok (.ireturn, 1) := by decide +kernel
theorem dX1_startRows_0 : decode cX1_startRows 0 = .ok (.iconst 0, 1) := by decide +kernel
theorem dX1_startRows_1 : decode cX1_startRows 1 = .ok (.istore_n 1, 1) := by decide +kernel
theorem dX1_startRows_2 : decode cX1_startRows 2 = .ok (.iload_n 1, 1) := by decide +kernel
theorem dX1_startRows_3 : decode cX1_startRows 3 = .ok (.sipush 300, 3) := by decide +kernel
theorem dX1_startRows_6 : decode cX1_startRows 6 = .ok (.if_icmp .ge 28, 3) := by decide +kernel
theorem dX1_startRows_9 : decode cX1_startRows 9 = .ok (.aload_n 0, 1) := by decide +kernel
theorem dX1_startRows_10 : decode cX1_startRows 10 = .ok (.getfield 22, 3) := by decide +kernel
theorem dX1_startRows_13 : decode cX1_startRows 13 = .ok (.iload_n 1, 1) := by decide +kernel
theorem dX1_startRows_14 : decode cX1_startRows 14 = .ok (.aload_n 0, 1) := by decide +kernel
theorem dX1_startRows_15 : decode cX1_startRows 15 = .ok (.getfield 9, 3) := by decide +kernel
theorem dX1_startRows_18 : decode cX1_startRows 18 = .ok (.iload_n 1, 1) := by decide +kernel
theorem dX1_startRows_19 : decode cX1_startRows 19 = .ok (.laload, 1) := by decide +kernel
theorem dX1_startRows_20 : decode cX1_startRows 20 = .ok (.lastore, 1) := by decide +kernel
theorem dX1_startRows_21 : decode cX1_startRows 21 = .ok (.aload_n 0, 1) := by decide +kernel
theorem dX1_startRows_22 : decode cX1_startRows 22 = .ok (.getfield 25, 3) := by decide +kernel
theorem dX1_startRows_25 : decode cX1_startRows 25 = .ok (.iload_n 1, 1) := by decide +kernel
theorem dX1_startRows_26 : decode cX1_startRows 26 = .ok (.iconst 0, 1) := by decide +kernel
theorem dX1_startRows_27 : decode cX1_startRows 27 = .ok (.bastore, 1) := by decide +kernel
theorem dX1_startRows_28 : decode cX1_startRows 28 = .ok (.iinc 1 1, 3) := by decide +kernel
theorem dX1_startRows_31 : decode cX1_startRows 31 = .ok (.goto (-29), 3) := by decide +kernel
theorem dX1_startRows_34 : decode cX1_startRows 34 = .ok (.return_, 1) := by decide +kernel
theorem dX1_giveAll_0 : decode cX1_giveAll 0 = .ok (.iconst 0, 1) := by decide +kernel
theorem dX1_giveAll_1 : decode cX1_giveAll 1 = .ok (.istore_n 1, 1) := by decide +kernel
theorem dX1_giveAll_2 : decode cX1_giveAll 2 = .ok (.iload_n 1, 1) := by decide +kernel
theorem dX1_giveAll_3 : decode cX1_giveAll 3 = .ok (.aload_n 0, 1) := by decide +kernel
theorem dX1_giveAll_4 : decode cX1_giveAll 4 = .ok (.getfield 37, 3) := by decide +kernel
theorem dX1_giveAll_7 : decode cX1_giveAll 7 = .ok (.if_icmp .ge 77, 3) := by decide +kernel
theorem dX1_giveAll_10 : decode cX1_giveAll 10 = .ok (.aload_n 0, 1) := by decide +kernel
theorem dX1_giveAll_11 : decode cX1_giveAll 11 = .ok (.getfield 18, 3) := by decide +kernel
theorem dX1_giveAll_14 : decode cX1_giveAll 14 = .ok (.iload_n 1, 1) := by decide +kernel
theorem dX1_giveAll_15 : decode cX1_giveAll 15 = .ok (.aaload, 1) := by decide +kernel
theorem dX1_giveAll_16 : decode cX1_giveAll 16 = .ok (.astore_n 2, 1) := by decide +kernel
theorem dX1_giveAll_17 : decode cX1_giveAll 17 = .ok (.aload_n 2, 1) := by decide +kernel
theorem dX1_giveAll_18 : decode cX1_giveAll 18 = .ok (.ifnull 60, 3) := by decide +kernel
theorem dX1_giveAll_21 : decode cX1_giveAll 21 = .ok (.aload_n 2, 1) := by decide +kernel
theorem dX1_giveAll_22 : decode cX1_giveAll 22 = .ok (.getfield 66, 3) := by decide +kernel
theorem dX1_giveAll_25 : decode cX1_giveAll 25 = .ok (.ifCond .ne 6, 3) := by decide +kernel
theorem dX1_giveAll_28 : decode cX1_giveAll 28 = .ok (.goto 50, 3) := by decide +kernel
theorem dX1_giveAll_31 : decode cX1_giveAll 31 = .ok (.iconst 0, 1) := by decide +kernel
theorem dX1_giveAll_32 : decode cX1_giveAll 32 = .ok (.istore_n 3, 1) := by decide +kernel
theorem dX1_giveAll_33 : decode cX1_giveAll 33 = .ok (.iload_n 3, 1) := by decide +kernel
theorem dX1_giveAll_34 : decode cX1_giveAll 34 = .ok (.aload_n 2, 1) := by decide +kernel
theorem dX1_giveAll_35 : decode cX1_giveAll 35 = .ok (.getfield 113, 3) := by decide +kernel
theorem dX1_giveAll_38 : decode cX1_giveAll 38 = .ok (.if_icmp .ge 40, 3) := by decide +kernel
theorem dX1_giveAll_41 : decode cX1_giveAll 41 = .ok (.aload_n 2, 1) := by decide +kernel
theorem dX1_giveAll_42 : decode cX1_giveAll 42 = .ok (.getfield 116, 3) := by decide +kernel
theorem dX1_giveAll_45 : decode cX1_giveAll 45 = .ok (.iload_n 3, 1) := by decide +kernel
theorem dX1_giveAll_46 : decode cX1_giveAll 46 = .ok (.laload, 1) := by decide +kernel
theorem dX1_giveAll_47 : decode cX1_giveAll 47 = .ok (.lconst 0, 1) := by decide +kernel
theorem dX1_giveAll_48 : decode cX1_giveAll 48 = .ok (.lcmp, 1) := by decide +kernel
theorem dX1_giveAll_49 : decode cX1_giveAll 49 = .ok (.ifCond .le 23, 3) := by decide +kernel
theorem dX1_giveAll_52 : decode cX1_giveAll 52 = .ok (.aload_n 0, 1) := by decide +kernel
theorem dX1_giveAll_53 : decode cX1_giveAll 53 = .ok (.getfield 22, 3) := by decide +kernel
theorem dX1_giveAll_56 : decode cX1_giveAll 56 = .ok (.aload_n 2, 1) := by decide +kernel
theorem dX1_giveAll_57 : decode cX1_giveAll 57 = .ok (.getfield 119, 3) := by decide +kernel
theorem dX1_giveAll_60 : decode cX1_giveAll 60 = .ok (.iload_n 3, 1) := by decide +kernel
theorem dX1_giveAll_61 : decode cX1_giveAll 61 = .ok (.iaload, 1) := by decide +kernel
theorem dX1_giveAll_62 : decode cX1_giveAll 62 = .ok (.dup2, 1) := by decide +kernel
theorem dX1_giveAll_63 : decode cX1_giveAll 63 = .ok (.laload, 1) := by decide +kernel
theorem dX1_giveAll_64 : decode cX1_giveAll 64 = .ok (.aload_n 2, 1) := by decide +kernel
theorem dX1_giveAll_65 : decode cX1_giveAll 65 = .ok (.getfield 116, 3) := by decide +kernel
theorem dX1_giveAll_68 : decode cX1_giveAll 68 = .ok (.iload_n 3, 1) := by decide +kernel
theorem dX1_giveAll_69 : decode cX1_giveAll 69 = .ok (.laload, 1) := by decide +kernel
theorem dX1_giveAll_70 : decode cX1_giveAll 70 = .ok (.ladd, 1) := by decide +kernel
theorem dX1_giveAll_71 : decode cX1_giveAll 71 = .ok (.lastore, 1) := by decide +kernel
theorem dX1_giveAll_72 : decode cX1_giveAll 72 = .ok (.iinc 3 1, 3) := by decide +kernel
theorem dX1_giveAll_75 : decode cX1_giveAll 75 = .ok (.goto (-42), 3) := by decide +kernel
theorem dX1_giveAll_78 : decode cX1_giveAll 78 = .ok (.iinc 1 1, 3) := by decide +kernel
theorem dX1_giveAll_81 : decode cX1_giveAll 81 = .ok (.goto (-79), 3) := by decide +kernel
theorem dX1_giveAll_84 : decode cX1_giveAll 84 = .ok (.return_, 1) := by decide +kernel
theorem dX1_canTake_0 : decode cX1_canTake 0 = .ok (.iconst 0, 1) := by decide +kernel
theorem dX1_canTake_1 : decode cX1_canTake 1 = .ok (.istore_n 2, 1) := by decide +kernel
theorem dX1_canTake_2 : decode cX1_canTake 2 = .ok (.iload_n 2, 1) := by decide +kernel
theorem dX1_canTake_3 : decode cX1_canTake 3 = .ok (.aload_n 1, 1) := by decide +kernel
theorem dX1_canTake_4 : decode cX1_canTake 4 = .ok (.getfield 113, 3) := by decide +kernel
theorem dX1_canTake_7 : decode cX1_canTake 7 = .ok (.if_icmp .ge 61, 3) := by decide +kernel
theorem dX1_canTake_10 : decode cX1_canTake 10 = .ok (.aload_n 1, 1) := by decide +kernel
theorem dX1_canTake_11 : decode cX1_canTake 11 = .ok (.getfield 119, 3) := by decide +kernel
theorem dX1_canTake_14 : decode cX1_canTake 14 = .ok (.iload_n 2, 1) := by decide +kernel
theorem dX1_canTake_15 : decode cX1_canTake 15 = .ok (.iaload, 1) := by decide +kernel
theorem dX1_canTake_16 : decode cX1_canTake 16 = .ok (.istore_n 3, 1) := by decide +kernel
theorem dX1_canTake_17 : decode cX1_canTake 17 = .ok (.aload_n 1, 1) := by decide +kernel
theorem dX1_canTake_18 : decode cX1_canTake 18 = .ok (.getfield 116, 3) := by decide +kernel
theorem dX1_canTake_21 : decode cX1_canTake 21 = .ok (.iload_n 2, 1) := by decide +kernel
theorem dX1_canTake_22 : decode cX1_canTake 22 = .ok (.laload, 1) := by decide +kernel
theorem dX1_canTake_23 : decode cX1_canTake 23 = .ok (.lstore 4, 2) := by decide +kernel
theorem dX1_canTake_25 : decode cX1_canTake 25 = .ok (.lload 4, 2) := by decide +kernel
theorem dX1_canTake_27 : decode cX1_canTake 27 = .ok (.lconst 0, 1) := by decide +kernel
theorem dX1_canTake_28 : decode cX1_canTake 28 = .ok (.lcmp, 1) := by decide +kernel
theorem dX1_canTake_29 : decode cX1_canTake 29 = .ok (.ifCond .ge 33, 3) := by decide +kernel
theorem dX1_canTake_32 : decode cX1_canTake 32 = .ok (.aload_n 0, 1) := by decide +kernel
theorem dX1_canTake_33 : decode cX1_canTake 33 = .ok (.getfield 25, 3) := by decide +kernel
theorem dX1_canTake_36 : decode cX1_canTake 36 = .ok (.iload_n 3, 1) := by decide +kernel
theorem dX1_canTake_37 : decode cX1_canTake 37 = .ok (.baload, 1) := by decide +kernel
theorem dX1_canTake_38 : decode cX1_canTake 38 = .ok (.ifCond .ne 22, 3) := by decide +kernel
theorem dX1_canTake_41 : decode cX1_canTake 41 = .ok (.aload_n 0, 1) := by decide +kernel
theorem dX1_canTake_42 : decode cX1_canTake 42 = .ok (.getfield 22, 3) := by decide +kernel
theorem dX1_canTake_45 : decode cX1_canTake 45 = .ok (.iload_n 3, 1) := by decide +kernel
theorem dX1_canTake_46 : decode cX1_canTake 46 = .ok (.laload, 1) := by decide +kernel
theorem dX1_canTake_47 : decode cX1_canTake 47 = .ok (.lload 4, 2) := by decide +kernel
theorem dX1_canTake_49 : decode cX1_canTake 49 = .ok (.ladd, 1) := by decide +kernel
theorem dX1_canTake_50 : decode cX1_canTake 50 = .ok (.aload_n 0, 1) := by decide +kernel
theorem dX1_canTake_51 : decode cX1_canTake 51 = .ok (.getfield 13, 3) := by decide +kernel
theorem dX1_canTake_54 : decode cX1_canTake 54 = .ok (.iload_n 3, 1) := by decide +kernel
theorem dX1_canTake_55 : decode cX1_canTake 55 = .ok (.laload, 1) := by decide +kernel
theorem dX1_canTake_56 : decode cX1_canTake 56 = .ok (.lcmp, 1) := by decide +kernel
theorem dX1_canTake_57 : decode cX1_canTake 57 = .ok (.ifCond .ge 5, 3) := by decide +kernel
theorem dX1_canTake_60 : decode cX1_canTake 60 = .ok (.iconst 0, 1) := by decide +kernel
theorem dX1_canTake_61 : decode cX1_canTake 61 = .ok (.ireturn, 1) := by decide +kernel
theorem dX1_canTake_62 : decode cX1_canTake 62 = .ok (.iinc 2 1, 3) := by decide +kernel
theorem dX1_canTake_65 : decode cX1_canTake 65 = .ok (.goto (-63), 3) := by decide +kernel
theorem dX1_canTake_68 : decode cX1_canTake 68 = .ok (.iconst 1, 1) := by decide +kernel
theorem dX1_canTake_69 : decode cX1_canTake 69 = .ok (.ireturn, 1) := by decide +kernel
theorem dX1_take_0 : decode cX1_take 0 = .ok (.iconst 0, 1) := by decide +kernel
theorem dX1_take_1 : decode cX1_take 1 = .ok (.istore_n 2, 1) := by decide +kernel
theorem dX1_take_2 : decode cX1_take 2 = .ok (.iload_n 2, 1) := by decide +kernel
theorem dX1_take_3 : decode cX1_take 3 = .ok (.aload_n 1, 1) := by decide +kernel
theorem dX1_take_4 : decode cX1_take 4 = .ok (.getfield 113, 3) := by decide +kernel
theorem dX1_take_7 : decode cX1_take 7 = .ok (.if_icmp .ge 40, 3) := by decide +kernel
theorem dX1_take_10 : decode cX1_take 10 = .ok (.aload_n 1, 1) := by decide +kernel
theorem dX1_take_11 : decode cX1_take 11 = .ok (.getfield 116, 3) := by decide +kernel
theorem dX1_take_14 : decode cX1_take 14 = .ok (.iload_n 2, 1) := by decide +kernel
theorem dX1_take_15 : decode cX1_take 15 = .ok (.laload, 1) := by decide +kernel
theorem dX1_take_16 : decode cX1_take 16 = .ok (.lconst 0, 1) := by decide +kernel
theorem dX1_take_17 : decode cX1_take 17 = .ok (.lcmp, 1) := by decide +kernel
theorem dX1_take_18 : decode cX1_take 18 = .ok (.ifCond .ge 23, 3) := by decide +kernel
theorem dX1_take_21 : decode cX1_take 21 = .ok (.aload_n 0, 1) := by decide +kernel
theorem dX1_take_22 : decode cX1_take 22 = .ok (.getfield 22, 3) := by decide +kernel
theorem dX1_take_25 : decode cX1_take 25 = .ok (.aload_n 1, 1) := by decide +kernel
theorem dX1_take_26 : decode cX1_take 26 = .ok (.getfield 119, 3) := by decide +kernel
theorem dX1_take_29 : decode cX1_take 29 = .ok (.iload_n 2, 1) := by decide +kernel
theorem dX1_take_30 : decode cX1_take 30 = .ok (.iaload, 1) := by decide +kernel
theorem dX1_take_31 : decode cX1_take 31 = .ok (.dup2, 1) := by decide +kernel
theorem dX1_take_32 : decode cX1_take 32 = .ok (.laload, 1) := by decide +kernel
theorem dX1_take_33 : decode cX1_take 33 = .ok (.aload_n 1, 1) := by decide +kernel
theorem dX1_take_34 : decode cX1_take 34 = .ok (.getfield 116, 3) := by decide +kernel
theorem dX1_take_37 : decode cX1_take 37 = .ok (.iload_n 2, 1) := by decide +kernel
theorem dX1_take_38 : decode cX1_take 38 = .ok (.laload, 1) := by decide +kernel
theorem dX1_take_39 : decode cX1_take 39 = .ok (.ladd, 1) := by decide +kernel
theorem dX1_take_40 : decode cX1_take 40 = .ok (.lastore, 1) := by decide +kernel
theorem dX1_take_41 : decode cX1_take 41 = .ok (.iinc 2 1, 3) := by decide +kernel
theorem dX1_take_44 : decode cX1_take 44 = .ok (.goto (-42), 3) := by decide +kernel
theorem dX1_take_47 : decode cX1_take 47 = .ok (.return_, 1) := by decide +kernel
theorem dX1_drop_0 : decode cX1_drop 0 = .ok (.iconst 0, 1) := by decide +kernel
theorem dX1_drop_1 : decode cX1_drop 1 = .ok (.istore_n 2, 1) := by decide +kernel
theorem dX1_drop_2 : decode cX1_drop 2 = .ok (.iload_n 2, 1) := by decide +kernel
theorem dX1_drop_3 : decode cX1_drop 3 = .ok (.aload_n 1, 1) := by decide +kernel
theorem dX1_drop_4 : decode cX1_drop 4 = .ok (.getfield 113, 3) := by decide +kernel
theorem dX1_drop_7 : decode cX1_drop 7 = .ok (.if_icmp .ge 32, 3) := by decide +kernel
theorem dX1_drop_10 : decode cX1_drop 10 = .ok (.aload_n 1, 1) := by decide +kernel
theorem dX1_drop_11 : decode cX1_drop 11 = .ok (.getfield 116, 3) := by decide +kernel
theorem dX1_drop_14 : decode cX1_drop 14 = .ok (.iload_n 2, 1) := by decide +kernel
theorem dX1_drop_15 : decode cX1_drop 15 = .ok (.laload, 1) := by decide +kernel
theorem dX1_drop_16 : decode cX1_drop 16 = .ok (.lconst 0, 1) := by decide +kernel
theorem dX1_drop_17 : decode cX1_drop 17 = .ok (.lcmp, 1) := by decide +kernel
theorem dX1_drop_18 : decode cX1_drop 18 = .ok (.ifCond .ge 15, 3) := by decide +kernel
theorem dX1_drop_21 : decode cX1_drop 21 = .ok (.aload_n 0, 1) := by decide +kernel
theorem dX1_drop_22 : decode cX1_drop 22 = .ok (.getfield 25, 3) := by decide +kernel
theorem dX1_drop_25 : decode cX1_drop 25 = .ok (.aload_n 1, 1) := by decide +kernel
theorem dX1_drop_26 : decode cX1_drop 26 = .ok (.getfield 119, 3) := by decide +kernel
theorem dX1_drop_29 : decode cX1_drop 29 = .ok (.iload_n 2, 1) := by decide +kernel
theorem dX1_drop_30 : decode cX1_drop 30 = .ok (.iaload, 1) := by decide +kernel
theorem dX1_drop_31 : decode cX1_drop 31 = .ok (.iconst 1, 1) := by decide +kernel
theorem dX1_drop_32 : decode cX1_drop 32 = .ok (.bastore, 1) := by decide +kernel
theorem dX1_drop_33 : decode cX1_drop 33 = .ok (.iinc 2 1, 3) := by decide +kernel
theorem dX1_drop_36 : decode cX1_drop 36 = .ok (.goto (-34), 3) := by decide +kernel
theorem dX1_drop_39 : decode cX1_drop 39 = .ok (.aload_n 1, 1) := by decide +kernel
theorem dX1_drop_40 : decode cX1_drop 40 = .ok (.getfield 66, 3) := by decide +kernel
theorem dX1_drop_43 : decode cX1_drop 43 = .ok (.ifCond .eq 18, 3) := by decide +kernel
theorem dX1_drop_46 : decode cX1_drop 46 = .ok (.aload_n 1, 1) := by decide +kernel
theorem dX1_drop_47 : decode cX1_drop 47 = .ok (.iconst 0, 1) := by decide +kernel
theorem dX1_drop_48 : decode cX1_drop 48 = .ok (.putfield 66, 3) := by decide +kernel
theorem dX1_drop_51 : decode cX1_drop 51 = .ok (.aload_n 0, 1) := by decide +kernel
theorem dX1_drop_52 : decode cX1_drop 52 = .ok (.dup, 1) := by decide +kernel
theorem dX1_drop_53 : decode cX1_drop 53 = .ok (.getfield 60, 3) := by decide +kernel
theorem dX1_drop_56 : decode cX1_drop 56 = .ok (.iconst 1, 1) := by decide +kernel
theorem dX1_drop_57 : decode cX1_drop 57 = .ok (.isub, 1) := by decide +kernel
theorem dX1_drop_58 : decode cX1_drop 58 = .ok (.putfield 60, 3) := by decide +kernel
theorem dX1_drop_61 : decode cX1_drop 61 = .ok (.return_, 1) := by decide +kernel
theorem dX1_valuesFit_0 : decode cX1_valuesFit 0 = .ok (.iconst 0, 1) := by decide +kernel
theorem dX1_valuesFit_1 : decode cX1_valuesFit 1 = .ok (.istore_n 1, 1) := by decide +kernel
theorem dX1_valuesFit_2 : decode cX1_valuesFit 2 = .ok (.iload_n 1, 1) := by decide +kernel
theorem dX1_valuesFit_3 : decode cX1_valuesFit 3 = .ok (.sipush 300, 3) := by decide +kernel
theorem dX1_valuesFit_6 : decode cX1_valuesFit 6 = .ok (.if_icmp .ge 24, 3) := by decide +kernel
theorem dX1_valuesFit_9 : decode cX1_valuesFit 9 = .ok (.aload_n 0, 1) := by decide +kernel
theorem dX1_valuesFit_10 : decode cX1_valuesFit 10 = .ok (.getfield 22, 3) := by decide +kernel
theorem dX1_valuesFit_13 : decode cX1_valuesFit 13 = .ok (.iload_n 1, 1) := by decide +kernel
theorem dX1_valuesFit_14 : decode cX1_valuesFit 14 = .ok (.laload, 1) := by decide +kernel
theorem dX1_valuesFit_15 : decode cX1_valuesFit 15 = .ok (.ldc2_w 88, 3) := by decide +kernel
theorem dX1_valuesFit_18 : decode cX1_valuesFit 18 = .ok (.lcmp, 1) := by decide +kernel
theorem dX1_valuesFit_19 : decode cX1_valuesFit 19 = .ok (.ifCond .le 5, 3) := by decide +kernel
theorem dX1_valuesFit_22 : decode cX1_valuesFit 22 = .ok (.iconst 0, 1) := by decide +kernel
theorem dX1_valuesFit_23 : decode cX1_valuesFit 23 = .ok (.ireturn, 1) := by decide +kernel
theorem dX1_valuesFit_24 : decode cX1_valuesFit 24 = .ok (.iinc 1 1, 3) := by decide +kernel
theorem dX1_valuesFit_27 : decode cX1_valuesFit 27 = .ok (.goto (-25), 3) := by decide +kernel
theorem dX1_valuesFit_30 : decode cX1_valuesFit 30 = .ok (.iconst 1, 1) := by decide +kernel
theorem dX1_valuesFit_31 : decode cX1_valuesFit 31 = .ok (.ireturn, 1) := by decide +kernel
theorem dX1_endItemsOfSet_0 : decode cX1_endItemsOfSet 0 = .ok (.iconst 0, 1) := by decide +kernel
theorem dX1_endItemsOfSet_1 : decode cX1_endItemsOfSet 1 = .ok (.istore_n 1, 1) := by decide +kernel
theorem dX1_endItemsOfSet_2 : decode cX1_endItemsOfSet 2 = .ok (.iload_n 1, 1) := by decide +kernel
theorem dX1_endItemsOfSet_3 : decode cX1_endItemsOfSet 3 = .ok (.aload_n 0, 1) := by decide +kernel
theorem dX1_endItemsOfSet_4 : decode cX1_endItemsOfSet 4 = .ok (.getfield 37, 3) := by decide +kernel
theorem dX1_endItemsOfSet_7 : decode cX1_endItemsOfSet 7 = .ok (.if_icmp .ge 32, 3) := by decide +kernel
theorem dX1_endItemsOfSet_10 : decode cX1_endItemsOfSet 10 = .ok (.aload_n 0, 1) := by decide +kernel
theorem dX1_endItemsOfSet_11 : decode cX1_endItemsOfSet 11 = .ok (.getfield 18, 3) := by decide +kernel
theorem dX1_endItemsOfSet_14 : decode cX1_endItemsOfSet 14 = .ok (.iload_n 1, 1) := by decide +kernel
theorem dX1_endItemsOfSet_15 : decode cX1_endItemsOfSet 15 = .ok (.aaload, 1) := by decide +kernel
theorem dX1_endItemsOfSet_16 : decode cX1_endItemsOfSet 16 = .ok (.astore_n 2, 1) := by decide +kernel
theorem dX1_endItemsOfSet_17 : decode cX1_endItemsOfSet 17 = .ok (.aload_n 2, 1) := by decide +kernel
theorem dX1_endItemsOfSet_18 : decode cX1_endItemsOfSet 18 = .ok (.ifnull 15, 3) := by decide +kernel
theorem dX1_endItemsOfSet_21 : decode cX1_endItemsOfSet 21 = .ok (.aload_n 2, 1) := by decide +kernel
theorem dX1_endItemsOfSet_22 : decode cX1_endItemsOfSet 22 = .ok (.getfield 66, 3) := by decide +kernel
theorem dX1_endItemsOfSet_25 : decode cX1_endItemsOfSet 25 = .ok (.ifCond .eq 8, 3) := by decide +kernel
theorem dX1_endItemsOfSet_28 : decode cX1_endItemsOfSet 28 = .ok (.aload_n 2, 1) := by decide +kernel
theorem dX1_endItemsOfSet_29 : decode cX1_endItemsOfSet 29 = .ok (.iconst 0, 1) := by decide +kernel
theorem dX1_endItemsOfSet_30 : decode cX1_endItemsOfSet 30 = .ok (.putfield 53, 3) := by decide +kernel
theorem dX1_endItemsOfSet_33 : decode cX1_endItemsOfSet 33 = .ok (.iinc 1 1, 3) := by decide +kernel
theorem dX1_endItemsOfSet_36 : decode cX1_endItemsOfSet 36 = .ok (.goto (-34), 3) := by decide +kernel
theorem dX1_endItemsOfSet_39 : decode cX1_endItemsOfSet 39 = .ok (.aload_n 0, 1) := by decide +kernel
theorem dX1_endItemsOfSet_40 : decode cX1_endItemsOfSet 40 = .ok (.dup, 1) := by decide +kernel
theorem dX1_endItemsOfSet_41 : decode cX1_endItemsOfSet 41 = .ok (.getfield 42, 3) := by decide +kernel
theorem dX1_endItemsOfSet_44 : decode cX1_endItemsOfSet 44 = .ok (.aload_n 0, 1) := by decide +kernel
theorem dX1_endItemsOfSet_45 : decode cX1_endItemsOfSet 45 = .ok (.getfield 60, 3) := by decide +kernel
theorem dX1_endItemsOfSet_48 : decode cX1_endItemsOfSet 48 = .ok (.isub, 1) := by decide +kernel
theorem dX1_endItemsOfSet_49 : decode cX1_endItemsOfSet 49 = .ok (.putfield 42, 3) := by decide +kernel
theorem dX1_endItemsOfSet_52 : decode cX1_endItemsOfSet 52 = .ok (.return_, 1) := by decide +kernel
end
section
/-! decode rows, printed by wip/whole/tools/names.py -/
theorem dL_law_0 : decode code 0 = .ok (.new 7, 3) := by decide +kernel
theorem dL_law_3 : decode code 3 = .ok (.dup, 1) := by decide +kernel
theorem dL_law_4 : decode code 4 = .ok (.invokespecial 9, 3) := by decide +kernel
theorem dL_law_7 : decode code 7 = .ok (.astore_n 1, 1) := by decide +kernel
theorem dL_law_8 : decode code 8 = .ok (.new 10, 3) := by decide +kernel
theorem dL_law_11 : decode code 11 = .ok (.dup, 1) := by decide +kernel
theorem dL_law_12 : decode code 12 = .ok (.invokespecial 12, 3) := by decide +kernel
theorem dL_law_15 : decode code 15 = .ok (.astore_n 2, 1) := by decide +kernel
theorem dL_law_16 : decode code 16 = .ok (.iconst 0, 1) := by decide +kernel
theorem dL_law_17 : decode code 17 = .ok (.istore_n 3, 1) := by decide +kernel
theorem dL_law_18 : decode code 18 = .ok (.iload_n 3, 1) := by decide +kernel
theorem dL_law_19 : decode code 19 = .ok (.aload_n 0, 1) := by decide +kernel
theorem dL_law_20 : decode code 20 = .ok (.arraylength, 1) := by decide +kernel
theorem dL_law_21 : decode code 21 = .ok (.bipush 6, 2) := by decide +kernel
theorem dL_law_23 : decode code 23 = .ok (.isub, 1) := by decide +kernel
theorem dL_law_24 : decode code 24 = .ok (.if_icmp .gt 412, 3) := by decide +kernel
theorem dL_law_27 : decode code 27 = .ok (.aload_n 0, 1) := by decide +kernel
theorem dL_law_28 : decode code 28 = .ok (.iload_n 3, 1) := by decide +kernel
theorem dL_law_29 : decode code 29 = .ok (.iaload, 1) := by decide +kernel
theorem dL_law_30 : decode code 30 = .ok (.bipush 15, 2) := by decide +kernel
theorem dL_law_32 : decode code 32 = .ok (.iand, 1) := by decide +kernel
theorem dL_law_33 : decode code 33 = .ok (.tableswitch 397 0 9 #[55, 158, 171, 244, 267, 280, 303, 316, 340, 374], 55) := by decide +kernel
theorem dL_law_88 : decode code 88 = .ok (.aload_n 1, 1) := by decide +kernel
theorem dL_law_89 : decode code 89 = .ok (.aload_n 0, 1) := by decide +kernel
theorem dL_law_90 : decode code 90 = .ok (.iload_n 3, 1) := by decide +kernel
theorem dL_law_91 : decode code 91 = .ok (.iconst 1, 1) := by decide +kernel
theorem dL_law_92 : decode code 92 = .ok (.iadd, 1) := by decide +kernel
theorem dL_law_93 : decode code 93 = .ok (.iaload, 1) := by decide +kernel
theorem dL_law_94 : decode code 94 = .ok (.aload_n 0, 1) := by decide +kernel
theorem dL_law_95 : decode code 95 = .ok (.iload_n 3, 1) := by decide +kernel
theorem dL_law_96 : decode code 96 = .ok (.iconst 2, 1) := by decide +kernel
theorem dL_law_97 : decode code 97 = .ok (.iadd, 1) := by decide +kernel
theorem dL_law_98 : decode code 98 = .ok (.iaload, 1) := by decide +kernel
theorem dL_law_99 : decode code 99 = .ok (.i2l, 1) := by decide +kernel
theorem dL_law_100 : decode code 100 = .ok (.bipush 32, 2) := by decide +kernel
theorem dL_law_102 : decode code 102 = .ok (.lshl, 1) := by decide +kernel
theorem dL_law_103 : decode code 103 = .ok (.aload_n 0, 1) := by decide +kernel
theorem dL_law_104 : decode code 104 = .ok (.iload_n 3, 1) := by decide +kernel
theorem dL_law_105 : decode code 105 = .ok (.iconst 3, 1) := by decide +kernel
theorem dL_law_106 : decode code 106 = .ok (.iadd, 1) := by decide +kernel
theorem dL_law_107 : decode code 107 = .ok (.iaload, 1) := by decide +kernel
theorem dL_law_108 : decode code 108 = .ok (.i2l, 1) := by decide +kernel
theorem dL_law_109 : decode code 109 = .ok (.ldc2_w 13, 3) := by decide +kernel
theorem dL_law_112 : decode code 112 = .ok (.land, 1) := by decide +kernel
theorem dL_law_113 : decode code 113 = .ok (.lor, 1) := by decide +kernel
theorem dL_law_114 : decode code 114 = .ok (.aload_n 0, 1) := by decide +kernel
theorem dL_law_115 : decode code 115 = .ok (.iload_n 3, 1) := by decide +kernel
theorem dL_law_116 : decode code 116 = .ok (.iconst 4, 1) := by decide +kernel
theorem dL_law_117 : decode code 117 = .ok (.iadd, 1) := by decide +kernel
theorem dL_law_118 : decode code 118 = .ok (.iaload, 1) := by decide +kernel
theorem dL_law_119 : decode code 119 = .ok (.i2l, 1) := by decide +kernel
theorem dL_law_120 : decode code 120 = .ok (.bipush 32, 2) := by decide +kernel
theorem dL_law_122 : decode code 122 = .ok (.lshl, 1) := by decide +kernel
theorem dL_law_123 : decode code 123 = .ok (.aload_n 0, 1) := by decide +kernel
theorem dL_law_124 : decode code 124 = .ok (.iload_n 3, 1) := by decide +kernel
theorem dL_law_125 : decode code 125 = .ok (.iconst 5, 1) := by decide +kernel
theorem dL_law_126 : decode code 126 = .ok (.iadd, 1) := by decide +kernel
theorem dL_law_127 : decode code 127 = .ok (.iaload, 1) := by decide +kernel
theorem dL_law_128 : decode code 128 = .ok (.i2l, 1) := by decide +kernel
theorem dL_law_129 : decode code 129 = .ok (.ldc2_w 13, 3) := by decide +kernel
theorem dL_law_132 : decode code 132 = .ok (.land, 1) := by decide +kernel
theorem dL_law_133 : decode code 133 = .ok (.lor, 1) := by decide +kernel
theorem dL_law_134 : decode code 134 = .ok (.invokevirtual 15, 3) := by decide +kernel
theorem dL_law_137 : decode code 137 = .ok (.aload_n 2, 1) := by decide +kernel
theorem dL_law_138 : decode code 138 = .ok (.aload_n 0, 1) := by decide +kernel
theorem dL_law_139 : decode code 139 = .ok (.iload_n 3, 1) := by decide +kernel
theorem dL_law_140 : decode code 140 = .ok (.iconst 1, 1) := by decide +kernel
theorem dL_law_141 : decode code 141 = .ok (.iadd, 1) := by decide +kernel
theorem dL_law_142 : decode code 142 = .ok (.iaload, 1) := by decide +kernel
theorem dL_law_143 : decode code 143 = .ok (.aload_n 0, 1) := by decide +kernel
theorem dL_law_144 : decode code 144 = .ok (.iload_n 3, 1) := by decide +kernel
theorem dL_law_145 : decode code 145 = .ok (.iconst 2, 1) := by decide +kernel
theorem dL_law_146 : decode code 146 = .ok (.iadd, 1) := by decide +kernel
theorem dL_law_147 : decode code 147 = .ok (.iaload, 1) := by decide +kernel
theorem dL_law_148 : decode code 148 = .ok (.i2l, 1) := by decide +kernel
theorem dL_law_149 : decode code 149 = .ok (.bipush 32, 2) := by decide +kernel
theorem dL_law_151 : decode code 151 = .ok (.lshl, 1) := by decide +kernel
theorem dL_law_152 : decode code 152 = .ok (.aload_n 0, 1) := by decide +kernel
theorem dL_law_153 : decode code 153 = .ok (.iload_n 3, 1) := by decide +kernel
theorem dL_law_154 : decode code 154 = .ok (.iconst 3, 1) := by decide +kernel
theorem dL_law_155 : decode code 155 = .ok (.iadd, 1) := by decide +kernel
theorem dL_law_156 : decode code 156 = .ok (.iaload, 1) := by decide +kernel
theorem dL_law_157 : decode code 157 = .ok (.i2l, 1) := by decide +kernel
theorem dL_law_158 : decode code 158 = .ok (.ldc2_w 13, 3) := by decide +kernel
theorem dL_law_161 : decode code 161 = .ok (.land, 1) := by decide +kernel
theorem dL_law_162 : decode code 162 = .ok (.lor, 1) := by decide +kernel
theorem dL_law_163 : decode code 163 = .ok (.aload_n 0, 1) := by decide +kernel
theorem dL_law_164 : decode code 164 = .ok (.iload_n 3, 1) := by decide +kernel
theorem dL_law_165 : decode code 165 = .ok (.iconst 4, 1) := by decide +kernel
theorem dL_law_166 : decode code 166 = .ok (.iadd, 1) := by decide +kernel
theorem dL_law_167 : decode code 167 = .ok (.iaload, 1) := by decide +kernel
theorem dL_law_168 : decode code 168 = .ok (.i2l, 1) := by decide +kernel
theorem dL_law_169 : decode code 169 = .ok (.bipush 32, 2) := by decide +kernel
theorem dL_law_171 : decode code 171 = .ok (.lshl, 1) := by decide +kernel
theorem dL_law_172 : decode code 172 = .ok (.aload_n 0, 1) := by decide +kernel
theorem dL_law_173 : decode code 173 = .ok (.iload_n 3, 1) := by decide +kernel
theorem dL_law_174 : decode code 174 = .ok (.iconst 5, 1) := by decide +kernel
theorem dL_law_175 : decode code 175 = .ok (.iadd, 1) := by decide +kernel
theorem dL_law_176 : decode code 176 = .ok (.iaload, 1) := by decide +kernel
theorem dL_law_177 : decode code 177 = .ok (.i2l, 1) := by decide +kernel
theorem dL_law_178 : decode code 178 = .ok (.ldc2_w 13, 3) := by decide +kernel
theorem dL_law_181 : decode code 181 = .ok (.land, 1) := by decide +kernel
theorem dL_law_182 : decode code 182 = .ok (.lor, 1) := by decide +kernel
theorem dL_law_183 : decode code 183 = .ok (.invokevirtual 19, 3) := by decide +kernel
theorem dL_law_186 : decode code 186 = .ok (.if_icmp .eq 244, 3) := by decide +kernel
theorem dL_law_189 : decode code 189 = .ok (.iconst 0, 1) := by decide +kernel
theorem dL_law_190 : decode code 190 = .ok (.ireturn, 1) := by decide +kernel
theorem dL_law_191 : decode code 191 = .ok (.aload_n 1, 1) := by decide +kernel
theorem dL_law_192 : decode code 192 = .ok (.invokevirtual 20, 3) := by decide +kernel
theorem dL_law_195 : decode code 195 = .ok (.aload_n 2, 1) := by decide +kernel
theorem dL_law_196 : decode code 196 = .ok (.invokevirtual 24, 3) := by decide +kernel
theorem dL_law_199 : decode code 199 = .ok (.if_icmp .eq 231, 3) := by decide +kernel
theorem dL_law_202 : decode code 202 = .ok (.iconst 0, 1) := by decide +kernel
theorem dL_law_203 : decode code 203 = .ok (.ireturn, 1) := by decide +kernel
theorem dL_law_204 : decode code 204 = .ok (.aload_n 1, 1) := by decide +kernel
theorem dL_law_205 : decode code 205 = .ok (.aload_n 0, 1) := by decide +kernel
theorem dL_law_206 : decode code 206 = .ok (.iload_n 3, 1) := by decide +kernel
theorem dL_law_207 : decode code 207 = .ok (.iconst 1, 1) := by decide +kernel
theorem dL_law_208 : decode code 208 = .ok (.iadd, 1) := by decide +kernel
theorem dL_law_209 : decode code 209 = .ok (.iaload, 1) := by decide +kernel
theorem dL_law_210 : decode code 210 = .ok (.aload_n 0, 1) := by decide +kernel
theorem dL_law_211 : decode code 211 = .ok (.iload_n 3, 1) := by decide +kernel
theorem dL_law_212 : decode code 212 = .ok (.iconst 2, 1) := by decide +kernel
theorem dL_law_213 : decode code 213 = .ok (.iadd, 1) := by decide +kernel
theorem dL_law_214 : decode code 214 = .ok (.iaload, 1) := by decide +kernel
theorem dL_law_215 : decode code 215 = .ok (.aload_n 0, 1) := by decide +kernel
theorem dL_law_216 : decode code 216 = .ok (.iload_n 3, 1) := by decide +kernel
theorem dL_law_217 : decode code 217 = .ok (.iconst 3, 1) := by decide +kernel
theorem dL_law_218 : decode code 218 = .ok (.iadd, 1) := by decide +kernel
theorem dL_law_219 : decode code 219 = .ok (.iaload, 1) := by decide +kernel
theorem dL_law_220 : decode code 220 = .ok (.i2l, 1) := by decide +kernel
theorem dL_law_221 : decode code 221 = .ok (.bipush 32, 2) := by decide +kernel
theorem dL_law_223 : decode code 223 = .ok (.lshl, 1) := by decide +kernel
theorem dL_law_224 : decode code 224 = .ok (.aload_n 0, 1) := by decide +kernel
theorem dL_law_225 : decode code 225 = .ok (.iload_n 3, 1) := by decide +kernel
theorem dL_law_226 : decode code 226 = .ok (.iconst 4, 1) := by decide +kernel
theorem dL_law_227 : decode code 227 = .ok (.iadd, 1) := by decide +kernel
theorem dL_law_228 : decode code 228 = .ok (.iaload, 1) := by decide +kernel
theorem dL_law_229 : decode code 229 = .ok (.i2l, 1) := by decide +kernel
theorem dL_law_230 : decode code 230 = .ok (.ldc2_w 13, 3) := by decide +kernel
theorem dL_law_233 : decode code 233 = .ok (.land, 1) := by decide +kernel
theorem dL_law_234 : decode code 234 = .ok (.lor, 1) := by decide +kernel
theorem dL_law_235 : decode code 235 = .ok (.invokevirtual 25, 3) := by decide +kernel
theorem dL_law_238 : decode code 238 = .ok (.aload_n 2, 1) := by decide +kernel
theorem dL_law_239 : decode code 239 = .ok (.aload_n 0, 1) := by decide +kernel
theorem dL_law_240 : decode code 240 = .ok (.iload_n 3, 1) := by decide +kernel
theorem dL_law_241 : decode code 241 = .ok (.iconst 1, 1) := by decide +kernel
theorem dL_law_242 : decode code 242 = .ok (.iadd, 1) := by decide +kernel
theorem dL_law_243 : decode code 243 = .ok (.iaload, 1) := by decide +kernel
theorem dL_law_244 : decode code 244 = .ok (.aload_n 0, 1) := by decide +kernel
theorem dL_law_245 : decode code 245 = .ok (.iload_n 3, 1) := by decide +kernel
theorem dL_law_246 : decode code 246 = .ok (.iconst 2, 1) := by decide +kernel
theorem dL_law_247 : decode code 247 = .ok (.iadd, 1) := by decide +kernel
theorem dL_law_248 : decode code 248 = .ok (.iaload, 1) := by decide +kernel
theorem dL_law_249 : decode code 249 = .ok (.aload_n 0, 1) := by decide +kernel
theorem dL_law_250 : decode code 250 = .ok (.iload_n 3, 1) := by decide +kernel
theorem dL_law_251 : decode code 251 = .ok (.iconst 3, 1) := by decide +kernel
theorem dL_law_252 : decode code 252 = .ok (.iadd, 1) := by decide +kernel
theorem dL_law_253 : decode code 253 = .ok (.iaload, 1) := by decide +kernel
theorem dL_law_254 : decode code 254 = .ok (.i2l, 1) := by decide +kernel
theorem dL_law_255 : decode code 255 = .ok (.bipush 32, 2) := by decide +kernel
theorem dL_law_257 : decode code 257 = .ok (.lshl, 1) := by decide +kernel
theorem dL_law_258 : decode code 258 = .ok (.aload_n 0, 1) := by decide +kernel
theorem dL_law_259 : decode code 259 = .ok (.iload_n 3, 1) := by decide +kernel
theorem dL_law_260 : decode code 260 = .ok (.iconst 4, 1) := by decide +kernel
theorem dL_law_261 : decode code 261 = .ok (.iadd, 1) := by decide +kernel
theorem dL_law_262 : decode code 262 = .ok (.iaload, 1) := by decide +kernel
theorem dL_law_263 : decode code 263 = .ok (.i2l, 1) := by decide +kernel
theorem dL_law_264 : decode code 264 = .ok (.ldc2_w 13, 3) := by decide +kernel
theorem dL_law_267 : decode code 267 = .ok (.land, 1) := by decide +kernel
theorem dL_law_268 : decode code 268 = .ok (.lor, 1) := by decide +kernel
theorem dL_law_269 : decode code 269 = .ok (.invokevirtual 29, 3) := by decide +kernel
theorem dL_law_272 : decode code 272 = .ok (.if_icmp .eq 158, 3) := by decide +kernel
theorem dL_law_275 : decode code 275 = .ok (.iconst 0, 1) := by decide +kernel
theorem dL_law_276 : decode code 276 = .ok (.ireturn, 1) := by decide +kernel
theorem dL_law_277 : decode code 277 = .ok (.aload_n 1, 1) := by decide +kernel
theorem dL_law_278 : decode code 278 = .ok (.aload_n 0, 1) := by decide +kernel
theorem dL_law_279 : decode code 279 = .ok (.iload_n 3, 1) := by decide +kernel
theorem dL_law_280 : decode code 280 = .ok (.iconst 1, 1) := by decide +kernel
theorem dL_law_281 : decode code 281 = .ok (.iadd, 1) := by decide +kernel
theorem dL_law_282 : decode code 282 = .ok (.iaload, 1) := by decide +kernel
theorem dL_law_283 : decode code 283 = .ok (.invokevirtual 30, 3) := by decide +kernel
theorem dL_law_286 : decode code 286 = .ok (.aload_n 2, 1) := by decide +kernel
theorem dL_law_287 : decode code 287 = .ok (.aload_n 0, 1) := by decide +kernel
theorem dL_law_288 : decode code 288 = .ok (.iload_n 3, 1) := by decide +kernel
theorem dL_law_289 : decode code 289 = .ok (.iconst 1, 1) := by decide +kernel
theorem dL_law_290 : decode code 290 = .ok (.iadd, 1) := by decide +kernel
theorem dL_law_291 : decode code 291 = .ok (.iaload, 1) := by decide +kernel
theorem dL_law_292 : decode code 292 = .ok (.invokevirtual 34, 3) := by decide +kernel
theorem dL_law_295 : decode code 295 = .ok (.if_icmp .eq 135, 3) := by decide +kernel
theorem dL_law_298 : decode code 298 = .ok (.iconst 0, 1) := by decide +kernel
theorem dL_law_299 : decode code 299 = .ok (.ireturn, 1) := by decide +kernel
theorem dL_law_300 : decode code 300 = .ok (.aload_n 1, 1) := by decide +kernel
theorem dL_law_301 : decode code 301 = .ok (.invokevirtual 35, 3) := by decide +kernel
theorem dL_law_304 : decode code 304 = .ok (.aload_n 2, 1) := by decide +kernel
theorem dL_law_305 : decode code 305 = .ok (.invokevirtual 38, 3) := by decide +kernel
theorem dL_law_308 : decode code 308 = .ok (.if_icmp .eq 122, 3) := by decide +kernel
theorem dL_law_311 : decode code 311 = .ok (.iconst 0, 1) := by decide +kernel
theorem dL_law_312 : decode code 312 = .ok (.ireturn, 1) := by decide +kernel
theorem dL_law_313 : decode code 313 = .ok (.aload_n 1, 1) := by decide +kernel
theorem dL_law_314 : decode code 314 = .ok (.aload_n 0, 1) := by decide +kernel
theorem dL_law_315 : decode code 315 = .ok (.iload_n 3, 1) := by decide +kernel
theorem dL_law_316 : decode code 316 = .ok (.iconst 1, 1) := by decide +kernel
theorem dL_law_317 : decode code 317 = .ok (.iadd, 1) := by decide +kernel
theorem dL_law_318 : decode code 318 = .ok (.iaload, 1) := by decide +kernel
theorem dL_law_319 : decode code 319 = .ok (.invokevirtual 39, 3) := by decide +kernel
theorem dL_law_322 : decode code 322 = .ok (.aload_n 2, 1) := by decide +kernel
theorem dL_law_323 : decode code 323 = .ok (.aload_n 0, 1) := by decide +kernel
theorem dL_law_324 : decode code 324 = .ok (.iload_n 3, 1) := by decide +kernel
theorem dL_law_325 : decode code 325 = .ok (.iconst 1, 1) := by decide +kernel
theorem dL_law_326 : decode code 326 = .ok (.iadd, 1) := by decide +kernel
theorem dL_law_327 : decode code 327 = .ok (.iaload, 1) := by decide +kernel
theorem dL_law_328 : decode code 328 = .ok (.invokevirtual 42, 3) := by decide +kernel
theorem dL_law_331 : decode code 331 = .ok (.if_icmp .eq 99, 3) := by decide +kernel
theorem dL_law_334 : decode code 334 = .ok (.iconst 0, 1) := by decide +kernel
theorem dL_law_335 : decode code 335 = .ok (.ireturn, 1) := by decide +kernel
theorem dL_law_336 : decode code 336 = .ok (.aload_n 1, 1) := by decide +kernel
theorem dL_law_337 : decode code 337 = .ok (.invokevirtual 43, 3) := by decide +kernel
theorem dL_law_340 : decode code 340 = .ok (.aload_n 2, 1) := by decide +kernel
theorem dL_law_341 : decode code 341 = .ok (.invokevirtual 46, 3) := by decide +kernel
theorem dL_law_344 : decode code 344 = .ok (.if_icmp .eq 86, 3) := by decide +kernel
theorem dL_law_347 : decode code 347 = .ok (.iconst 0, 1) := by decide +kernel
theorem dL_law_348 : decode code 348 = .ok (.ireturn, 1) := by decide +kernel
theorem dL_law_349 : decode code 349 = .ok (.aload_n 1, 1) := by decide +kernel
theorem dL_law_350 : decode code 350 = .ok (.aload_n 0, 1) := by decide +kernel
theorem dL_law_351 : decode code 351 = .ok (.iload_n 3, 1) := by decide +kernel
theorem dL_law_352 : decode code 352 = .ok (.iconst 1, 1) := by decide +kernel
theorem dL_law_353 : decode code 353 = .ok (.iadd, 1) := by decide +kernel
theorem dL_law_354 : decode code 354 = .ok (.iaload, 1) := by decide +kernel
theorem dL_law_355 : decode code 355 = .ok (.invokevirtual 47, 3) := by decide +kernel
theorem dL_law_358 : decode code 358 = .ok (.aload_n 2, 1) := by decide +kernel
theorem dL_law_359 : decode code 359 = .ok (.aload_n 0, 1) := by decide +kernel
theorem dL_law_360 : decode code 360 = .ok (.iload_n 3, 1) := by decide +kernel
theorem dL_law_361 : decode code 361 = .ok (.iconst 1, 1) := by decide +kernel
theorem dL_law_362 : decode code 362 = .ok (.iadd, 1) := by decide +kernel
theorem dL_law_363 : decode code 363 = .ok (.iaload, 1) := by decide +kernel
theorem dL_law_364 : decode code 364 = .ok (.invokevirtual 51, 3) := by decide +kernel
theorem dL_law_367 : decode code 367 = .ok (.lcmp, 1) := by decide +kernel
theorem dL_law_368 : decode code 368 = .ok (.ifCond .eq 62, 3) := by decide +kernel
theorem dL_law_371 : decode code 371 = .ok (.iconst 0, 1) := by decide +kernel
theorem dL_law_372 : decode code 372 = .ok (.ireturn, 1) := by decide +kernel
theorem dL_law_373 : decode code 373 = .ok (.aload_n 1, 1) := by decide +kernel
theorem dL_law_374 : decode code 374 = .ok (.aload_n 0, 1) := by decide +kernel
theorem dL_law_375 : decode code 375 = .ok (.iload_n 3, 1) := by decide +kernel
theorem dL_law_376 : decode code 376 = .ok (.iconst 1, 1) := by decide +kernel
theorem dL_law_377 : decode code 377 = .ok (.iadd, 1) := by decide +kernel
theorem dL_law_378 : decode code 378 = .ok (.iaload, 1) := by decide +kernel
theorem dL_law_379 : decode code 379 = .ok (.aload_n 0, 1) := by decide +kernel
theorem dL_law_380 : decode code 380 = .ok (.iload_n 3, 1) := by decide +kernel
theorem dL_law_381 : decode code 381 = .ok (.iconst 2, 1) := by decide +kernel
theorem dL_law_382 : decode code 382 = .ok (.iadd, 1) := by decide +kernel
theorem dL_law_383 : decode code 383 = .ok (.iaload, 1) := by decide +kernel
theorem dL_law_384 : decode code 384 = .ok (.invokevirtual 52, 3) := by decide +kernel
theorem dL_law_387 : decode code 387 = .ok (.aload_n 2, 1) := by decide +kernel
theorem dL_law_388 : decode code 388 = .ok (.aload_n 0, 1) := by decide +kernel
theorem dL_law_389 : decode code 389 = .ok (.iload_n 3, 1) := by decide +kernel
theorem dL_law_390 : decode code 390 = .ok (.iconst 1, 1) := by decide +kernel
theorem dL_law_391 : decode code 391 = .ok (.iadd, 1) := by decide +kernel
theorem dL_law_392 : decode code 392 = .ok (.iaload, 1) := by decide +kernel
theorem dL_law_393 : decode code 393 = .ok (.aload_n 0, 1) := by decide +kernel
theorem dL_law_394 : decode code 394 = .ok (.iload_n 3, 1) := by decide +kernel
theorem dL_law_395 : decode code 395 = .ok (.iconst 2, 1) := by decide +kernel
theorem dL_law_396 : decode code 396 = .ok (.iadd, 1) := by decide +kernel
theorem dL_law_397 : decode code 397 = .ok (.iaload, 1) := by decide +kernel
theorem dL_law_398 : decode code 398 = .ok (.invokevirtual 56, 3) := by decide +kernel
theorem dL_law_401 : decode code 401 = .ok (.lcmp, 1) := by decide +kernel
theorem dL_law_402 : decode code 402 = .ok (.ifCond .eq 28, 3) := by decide +kernel
theorem dL_law_405 : decode code 405 = .ok (.iconst 0, 1) := by decide +kernel
theorem dL_law_406 : decode code 406 = .ok (.ireturn, 1) := by decide +kernel
theorem dL_law_407 : decode code 407 = .ok (.aload_n 1, 1) := by decide +kernel
theorem dL_law_408 : decode code 408 = .ok (.aload_n 0, 1) := by decide +kernel
theorem dL_law_409 : decode code 409 = .ok (.iload_n 3, 1) := by decide +kernel
theorem dL_law_410 : decode code 410 = .ok (.iconst 1, 1) := by decide +kernel
theorem dL_law_411 : decode code 411 = .ok (.iadd, 1) := by decide +kernel
theorem dL_law_412 : decode code 412 = .ok (.iaload, 1) := by decide +kernel
theorem dL_law_413 : decode code 413 = .ok (.invokevirtual 57, 3) := by decide +kernel
theorem dL_law_416 : decode code 416 = .ok (.aload_n 2, 1) := by decide +kernel
theorem dL_law_417 : decode code 417 = .ok (.aload_n 0, 1) := by decide +kernel
theorem dL_law_418 : decode code 418 = .ok (.iload_n 3, 1) := by decide +kernel
theorem dL_law_419 : decode code 419 = .ok (.iconst 1, 1) := by decide +kernel
theorem dL_law_420 : decode code 420 = .ok (.iadd, 1) := by decide +kernel
theorem dL_law_421 : decode code 421 = .ok (.iaload, 1) := by decide +kernel
theorem dL_law_422 : decode code 422 = .ok (.invokevirtual 61, 3) := by decide +kernel
theorem dL_law_425 : decode code 425 = .ok (.if_icmp .eq 5, 3) := by decide +kernel
theorem dL_law_428 : decode code 428 = .ok (.iconst 0, 1) := by decide +kernel
theorem dL_law_429 : decode code 429 = .ok (.ireturn, 1) := by decide +kernel
theorem dL_law_430 : decode code 430 = .ok (.iinc 3 6, 3) := by decide +kernel
theorem dL_law_433 : decode code 433 = .ok (.goto (-415), 3) := by decide +kernel
theorem dL_law_436 : decode code 436 = .ok (.iconst 1, 1) := by decide +kernel
theorem dL_law_437 : decode code 437 = .ok (.ireturn, 1) := by decide +kernel
end
section
/-! decode rows, printed by wip/whole/tools/names.py -/
theorem dX2_init_0 : decode cX2_init 0 = .ok (.aload_n 0, 1) := by decide +kernel
theorem dX2_init_1 : decode cX2_init 1 = .ok (.invokespecial 1, 3) := by decide +kernel
theorem dX2_init_4 : decode cX2_init 4 = .ok (.aload_n 0, 1) := by decide +kernel
theorem dX2_init_5 : decode cX2_init 5 = .ok (.sipush 300, 3) := by decide +kernel
theorem dX2_init_8 : decode cX2_init 8 = .ok (.newarray .long, 2) := by decide +kernel
theorem dX2_init_10 : decode cX2_init 10 = .ok (.putfield 7, 3) := by decide +kernel
theorem dX2_init_13 : decode cX2_init 13 = .ok (.aload_n 0, 1) := by decide +kernel
theorem dX2_init_14 : decode cX2_init 14 = .ok (.sipush 300, 3) := by decide +kernel
theorem dX2_init_17 : decode cX2_init 17 = .ok (.newarray .long, 2) := by decide +kernel
theorem dX2_init_19 : decode cX2_init 19 = .ok (.putfield 13, 3) := by decide +kernel
theorem dX2_init_22 : decode cX2_init 22 = .ok (.aload_n 0, 1) := by decide +kernel
theorem dX2_init_23 : decode cX2_init 23 = .ok (.sipush 200, 3) := by decide +kernel
theorem dX2_init_26 : decode cX2_init 26 = .ok (.newarray .boolean, 2) := by decide +kernel
theorem dX2_init_28 : decode cX2_init 28 = .ok (.putfield 16, 3) := by decide +kernel
theorem dX2_init_31 : decode cX2_init 31 = .ok (.aload_n 0, 1) := by decide +kernel
theorem dX2_init_32 : decode cX2_init 32 = .ok (.sipush 200, 3) := by decide +kernel
theorem dX2_init_35 : decode cX2_init 35 = .ok (.newarray .boolean, 2) := by decide +kernel
theorem dX2_init_37 : decode cX2_init 37 = .ok (.putfield 20, 3) := by decide +kernel
theorem dX2_init_40 : decode cX2_init 40 = .ok (.aload_n 0, 1) := by decide +kernel
theorem dX2_init_41 : decode cX2_init 41 = .ok (.sipush 200, 3) := by decide +kernel
theorem dX2_init_44 : decode cX2_init 44 = .ok (.newarray .int, 2) := by decide +kernel
theorem dX2_init_46 : decode cX2_init 46 = .ok (.putfield 23, 3) := by decide +kernel
theorem dX2_init_49 : decode cX2_init 49 = .ok (.aload_n 0, 1) := by decide +kernel
theorem dX2_init_50 : decode cX2_init 50 = .ok (.sipush 3200, 3) := by decide +kernel
theorem dX2_init_53 : decode cX2_init 53 = .ok (.newarray .int, 2) := by decide +kernel
theorem dX2_init_55 : decode cX2_init 55 = .ok (.putfield 27, 3) := by decide +kernel
theorem dX2_init_58 : decode cX2_init 58 = .ok (.aload_n 0, 1) := by decide +kernel
theorem dX2_init_59 : decode cX2_init 59 = .ok (.sipush 3200, 3) := by decide +kernel
theorem dX2_init_62 : decode cX2_init 62 = .ok (.newarray .long, 2) := by decide +kernel
theorem dX2_init_64 : decode cX2_init 64 = .ok (.putfield 30, 3) := by decide +kernel
theorem dX2_init_67 : decode cX2_init 67 = .ok (.return_, 1) := by decide +kernel
theorem dX2_isPosition_0 : decode cX2_isPosition 0 = .ok (.iload_n 0, 1) := by decide +kernel
theorem dX2_isPosition_1 : decode cX2_isPosition 1 = .ok (.ifCond .lt 14, 3) := by decide +kernel
theorem dX2_isPosition_4 : decode cX2_isPosition 4 = .ok (.iload_n 0, 1) := by decide +kernel
theorem dX2_isPosition_5 : decode cX2_isPosition 5 = .ok (.sipush 300, 3) := by decide +kernel
theorem dX2_isPosition_8 : decode cX2_isPosition 8 = .ok (.if_icmp .ge 7, 3) := by decide +kernel
theorem dX2_isPosition_11 : decode cX2_isPosition 11 = .ok (.iconst 1, 1) := by decide +kernel
theorem dX2_isPosition_12 : decode cX2_isPosition 12 = .ok (.goto 4, 3) := by decide +kernel
theorem dX2_isPosition_15 : decode cX2_isPosition 15 = .ok (.iconst 0, 1) := by decide +kernel
theorem dX2_isPosition_16 : decode cX2_isPosition 16 = .ok (.ireturn, 1) := by decide +kernel
theorem dX2_isValue_0 : decode cX2_isValue 0 = .ok (.lload_n 0, 1) := by decide +kernel
theorem dX2_isValue_1 : decode cX2_isValue 1 = .ok (.ldc2_w 33, 3) := by decide +kernel
theorem dX2_isValue_4 : decode cX2_isValue 4 = .ok (.lcmp, 1) := by decide +kernel
theorem dX2_isValue_5 : decode cX2_isValue 5 = .ok (.ifCond .lt 15, 3) := by decide +kernel
theorem dX2_isValue_8 : decode cX2_isValue 8 = .ok (.lload_n 0, 1) := by decide +kernel
theorem dX2_isValue_9 : decode cX2_isValue 9 = .ok (.ldc2_w 35, 3) := by decide +kernel
theorem dX2_isValue_12 : decode cX2_isValue 12 = .ok (.lcmp, 1) := by decide +kernel
theorem dX2_isValue_13 : decode cX2_isValue 13 = .ok (.ifCond .gt 7, 3) := by decide +kernel
theorem dX2_isValue_16 : decode cX2_isValue 16 = .ok (.iconst 1, 1) := by decide +kernel
theorem dX2_isValue_17 : decode cX2_isValue 17 = .ok (.goto 4, 3) := by decide +kernel
theorem dX2_isValue_20 : decode cX2_isValue 20 = .ok (.iconst 0, 1) := by decide +kernel
theorem dX2_isValue_21 : decode cX2_isValue 21 = .ok (.ireturn, 1) := by decide +kernel
theorem dX2_place_0 : decode cX2_place 0 = .ok (.iload_n 1, 1) := by decide +kernel
theorem dX2_place_1 : decode cX2_place 1 = .ok (.invokestatic 37, 3) := by decide +kernel
theorem dX2_place_4 : decode cX2_place 4 = .ok (.ifCond .eq 25, 3) := by decide +kernel
theorem dX2_place_7 : decode cX2_place 7 = .ok (.lload_n 2, 1) := by decide +kernel
theorem dX2_place_8 : decode cX2_place 8 = .ok (.invokestatic 41, 3) := by decide +kernel
theorem dX2_place_11 : decode cX2_place 11 = .ok (.ifCond .eq 18, 3) := by decide +kernel
theorem dX2_place_14 : decode cX2_place 14 = .ok (.lload 4, 2) := by decide +kernel
theorem dX2_place_16 : decode cX2_place 16 = .ok (.invokestatic 41, 3) := by decide +kernel
theorem dX2_place_19 : decode cX2_place 19 = .ok (.ifCond .eq 10, 3) := by decide +kernel
theorem dX2_place_22 : decode cX2_place 22 = .ok (.lload_n 2, 1) := by decide +kernel
theorem dX2_place_23 : decode cX2_place 23 = .ok (.lload 4, 2) := by decide +kernel
theorem dX2_place_25 : decode cX2_place 25 = .ok (.lcmp, 1) := by decide +kernel
theorem dX2_place_26 : decode cX2_place 26 = .ok (.ifCond .ge 5, 3) := by decide +kernel
theorem dX2_place_29 : decode cX2_place 29 = .ok (.iconst 0, 1) := by decide +kernel
theorem dX2_place_30 : decode cX2_place 30 = .ok (.ireturn, 1) := by decide +kernel
theorem dX2_place_31 : decode cX2_place 31 = .ok (.aload_n 0, 1) := by decide +kernel
theorem dX2_place_32 : decode cX2_place 32 = .ok (.getfield 7, 3) := by decide +kernel
theorem dX2_place_35 : decode cX2_place 35 = .ok (.iload_n 1, 1) := by decide +kernel
theorem dX2_place_36 : decode cX2_place 36 = .ok (.lload_n 2, 1) := by decide +kernel
theorem dX2_place_37 : decode cX2_place 37 = .ok (.lastore, 1) := by decide +kernel
theorem dX2_place_38 : decode cX2_place 38 = .ok (.aload_n 0, 1) := by decide +kernel
theorem dX2_place_39 : decode cX2_place 39 = .ok (.getfield 13, 3) := by decide +kernel
theorem dX2_place_42 : decode cX2_place 42 = .ok (.iload_n 1, 1) := by decide +kernel
theorem dX2_place_43 : decode cX2_place 43 = .ok (.lload 4, 2) := by decide +kernel
theorem dX2_place_45 : decode cX2_place 45 = .ok (.lastore, 1) := by decide +kernel
theorem dX2_place_46 : decode cX2_place 46 = .ok (.iconst 1, 1) := by decide +kernel
theorem dX2_place_47 : decode cX2_place 47 = .ok (.ireturn, 1) := by decide +kernel
theorem dX2_item_0 : decode cX2_item 0 = .ok (.aload_n 0, 1) := by decide +kernel
theorem dX2_item_1 : decode cX2_item 1 = .ok (.getfield 45, 3) := by decide +kernel
theorem dX2_item_4 : decode cX2_item 4 = .ok (.sipush 200, 3) := by decide +kernel
theorem dX2_item_7 : decode cX2_item 7 = .ok (.if_icmp .ne 5, 3) := by decide +kernel
theorem dX2_item_10 : decode cX2_item 10 = .ok (.iconst (-1), 1) := by decide +kernel
theorem dX2_item_11 : decode cX2_item 11 = .ok (.ireturn, 1) := by decide +kernel
theorem dX2_item_12 : decode cX2_item 12 = .ok (.aload_n 0, 1) := by decide +kernel
theorem dX2_item_13 : decode cX2_item 13 = .ok (.getfield 16, 3) := by decide +kernel
theorem dX2_item_16 : decode cX2_item 16 = .ok (.aload_n 0, 1) := by decide +kernel
theorem dX2_item_17 : decode cX2_item 17 = .ok (.getfield 45, 3) := by decide +kernel
theorem dX2_item_20 : decode cX2_item 20 = .ok (.iconst 1, 1) := by decide +kernel
theorem dX2_item_21 : decode cX2_item 21 = .ok (.bastore, 1) := by decide +kernel
theorem dX2_item_22 : decode cX2_item 22 = .ok (.aload_n 0, 1) := by decide +kernel
theorem dX2_item_23 : decode cX2_item 23 = .ok (.aload_n 0, 1) := by decide +kernel
theorem dX2_item_24 : decode cX2_item 24 = .ok (.getfield 45, 3) := by decide +kernel
theorem dX2_item_27 : decode cX2_item 27 = .ok (.iconst 1, 1) := by decide +kernel
theorem dX2_item_28 : decode cX2_item 28 = .ok (.iadd, 1) := by decide +kernel
theorem dX2_item_29 : decode cX2_item 29 = .ok (.putfield 45, 3) := by decide +kernel
theorem dX2_item_32 : decode cX2_item 32 = .ok (.aload_n 0, 1) := by decide +kernel
theorem dX2_item_33 : decode cX2_item 33 = .ok (.getfield 45, 3) := by decide +kernel
theorem dX2_item_36 : decode cX2_item 36 = .ok (.iconst 1, 1) := by decide +kernel
theorem dX2_item_37 : decode cX2_item 37 = .ok (.isub, 1) := by decide +kernel
theorem dX2_item_38 : decode cX2_item 38 = .ok (.ireturn, 1) := by decide +kernel
theorem dX2_isThere_0 : decode cX2_isThere 0 = .ok (.iload_n 1, 1) := by decide +kernel
theorem dX2_isThere_1 : decode cX2_isThere 1 = .ok (.ifCond .lt 24, 3) := by decide +kernel
theorem dX2_isThere_4 : decode cX2_isThere 4 = .ok (.iload_n 1, 1) := by decide +kernel
theorem dX2_isThere_5 : decode cX2_isThere 5 = .ok (.aload_n 0, 1) := by decide +kernel
theorem dX2_isThere_6 : decode cX2_isThere 6 = .ok (.getfield 45, 3) := by decide +kernel
theorem dX2_isThere_9 : decode cX2_isThere 9 = .ok (.if_icmp .ge 16, 3) := by decide +kernel
theorem dX2_isThere_12 : decode cX2_isThere 12 = .ok (.aload_n 0, 1) := by decide +kernel
theorem dX2_isThere_13 : decode cX2_isThere 13 = .ok (.getfield 16, 3) := by decide +kernel
theorem dX2_isThere_16 : decode cX2_isThere 16 = .ok (.iload_n 1, 1) := by decide +kernel
theorem dX2_isThere_17 : decode cX2_isThere 17 = .ok (.baload, 1) := by decide +kernel
theorem dX2_isThere_18 : decode cX2_isThere 18 = .ok (.ifCond .eq 7, 3) := by decide +kernel
theorem dX2_isThere_21 : decode cX2_isThere 21 = .ok (.iconst 1, 1) := by decide +kernel
theorem dX2_isThere_22 : decode cX2_isThere 22 = .ok (.goto 4, 3) := by decide +kernel
theorem dX2_isThere_25 : decode cX2_isThere 25 = .ok (.iconst 0, 1) := by decide +kernel
theorem dX2_isThere_26 : decode cX2_isThere 26 = .ok (.ireturn, 1) := by decide +kernel
theorem dX2_find_0 : decode cX2_find 0 = .ok (.bipush 16, 2) := by decide +kernel
theorem dX2_find_2 : decode cX2_find 2 = .ok (.iload_n 1, 1) := by decide +kernel
theorem dX2_find_3 : decode cX2_find 3 = .ok (.imul, 1) := by decide +kernel
theorem dX2_find_4 : decode cX2_find 4 = .ok (.istore_n 3, 1) := by decide +kernel
theorem dX2_find_5 : decode cX2_find 5 = .ok (.iload_n 3, 1) := by decide +kernel
theorem dX2_find_6 : decode cX2_find 6 = .ok (.bipush 16, 2) := by decide +kernel
theorem dX2_find_8 : decode cX2_find 8 = .ok (.iload_n 1, 1) := by decide +kernel
theorem dX2_find_9 : decode cX2_find 9 = .ok (.imul, 1) := by decide +kernel
theorem dX2_find_10 : decode cX2_find 10 = .ok (.aload_n 0, 1) := by decide +kernel
theorem dX2_find_11 : decode cX2_find 11 = .ok (.getfield 23, 3) := by decide +kernel
theorem dX2_find_14 : decode cX2_find 14 = .ok (.iload_n 1, 1) := by decide +kernel
theorem dX2_find_15 : decode cX2_find 15 = .ok (.iaload, 1) := by decide +kernel
theorem dX2_find_16 : decode cX2_find 16 = .ok (.iadd, 1) := by decide +kernel
theorem dX2_find_17 : decode cX2_find 17 = .ok (.if_icmp .ge 20, 3) := by decide +kernel
theorem dX2_find_20 : decode cX2_find 20 = .ok (.aload_n 0, 1) := by decide +kernel
theorem dX2_find_21 : decode cX2_find 21 = .ok (.getfield 27, 3) := by decide +kernel
theorem dX2_find_24 : decode cX2_find 24 = .ok (.iload_n 3, 1) := by decide +kernel
theorem dX2_find_25 : decode cX2_find 25 = .ok (.iaload, 1) := by decide +kernel
theorem dX2_find_26 : decode cX2_find 26 = .ok (.iload_n 2, 1) := by decide +kernel
theorem dX2_find_27 : decode cX2_find 27 = .ok (.if_icmp .eq 10, 3) := by decide +kernel
theorem dX2_find_30 : decode cX2_find 30 = .ok (.iload_n 3, 1) := by decide +kernel
theorem dX2_find_31 : decode cX2_find 31 = .ok (.iconst 1, 1) := by decide +kernel
theorem dX2_find_32 : decode cX2_find 32 = .ok (.iadd, 1) := by decide +kernel
theorem dX2_find_33 : decode cX2_find 33 = .ok (.istore_n 3, 1) := by decide +kernel
theorem dX2_find_34 : decode cX2_find 34 = .ok (.goto (-29), 3) := by decide +kernel
theorem dX2_find_37 : decode cX2_find 37 = .ok (.iload_n 3, 1) := by decide +kernel
theorem dX2_find_38 : decode cX2_find 38 = .ok (.ireturn, 1) := by decide +kernel
theorem dX2_netAt_0 : decode cX2_netAt 0 = .ok (.aload_n 0, 1) := by decide +kernel
theorem dX2_netAt_1 : decode cX2_netAt 1 = .ok (.iload_n 1, 1) := by decide +kernel
theorem dX2_netAt_2 : decode cX2_netAt 2 = .ok (.iload_n 2, 1) := by decide +kernel
theorem dX2_netAt_3 : decode cX2_netAt 3 = .ok (.invokevirtual 49, 3) := by decide +kernel
theorem dX2_netAt_6 : decode cX2_netAt 6 = .ok (.istore_n 3, 1) := by decide +kernel
theorem dX2_netAt_7 : decode cX2_netAt 7 = .ok (.iload_n 3, 1) := by decide +kernel
theorem dX2_netAt_8 : decode cX2_netAt 8 = .ok (.bipush 16, 2) := by decide +kernel
theorem dX2_netAt_10 : decode cX2_netAt 10 = .ok (.iload_n 1, 1) := by decide +kernel
theorem dX2_netAt_11 : decode cX2_netAt 11 = .ok (.imul, 1) := by decide +kernel
theorem dX2_netAt_12 : decode cX2_netAt 12 = .ok (.aload_n 0, 1) := by decide +kernel
theorem dX2_netAt_13 : decode cX2_netAt 13 = .ok (.getfield 23, 3) := by decide +kernel
theorem dX2_netAt_16 : decode cX2_netAt 16 = .ok (.iload_n 1, 1) := by decide +kernel
theorem dX2_netAt_17 : decode cX2_netAt 17 = .ok (.iaload, 1) := by decide +kernel
theorem dX2_netAt_18 : decode cX2_netAt 18 = .ok (.iadd, 1) := by decide +kernel
theorem dX2_netAt_19 : decode cX2_netAt 19 = .ok (.if_icmp .ge 12, 3) := by decide +kernel
theorem dX2_netAt_22 : decode cX2_netAt 22 = .ok (.aload_n 0, 1) := by decide +kernel
theorem dX2_netAt_23 : decode cX2_netAt 23 = .ok (.getfield 30, 3) := by decide +kernel
theorem dX2_netAt_26 : decode cX2_netAt 26 = .ok (.iload_n 3, 1) := by decide +kernel
theorem dX2_netAt_27 : decode cX2_netAt 27 = .ok (.laload, 1) := by decide +kernel
theorem dX2_netAt_28 : decode cX2_netAt 28 = .ok (.goto 4, 3) := by decide +kernel
theorem dX2_netAt_31 : decode cX2_netAt 31 = .ok (.lconst 0, 1) := by decide +kernel
theorem dX2_netAt_32 : decode cX2_netAt 32 = .ok (.lreturn, 1) := by decide +kernel
theorem dX2_net_0 : decode cX2_net 0 = .ok (.aload_n 0, 1) := by decide +kernel
theorem dX2_net_1 : decode cX2_net 1 = .ok (.iload_n 1, 1) := by decide +kernel
theorem dX2_net_2 : decode cX2_net 2 = .ok (.invokevirtual 53, 3) := by decide +kernel
theorem dX2_net_5 : decode cX2_net 5 = .ok (.ifCond .eq 10, 3) := by decide +kernel
theorem dX2_net_8 : decode cX2_net 8 = .ok (.iload_n 2, 1) := by decide +kernel
theorem dX2_net_9 : decode cX2_net 9 = .ok (.invokestatic 37, 3) := by decide +kernel
theorem dX2_net_12 : decode cX2_net 12 = .ok (.ifCond .ne 5, 3) := by decide +kernel
theorem dX2_net_15 : decode cX2_net 15 = .ok (.iconst 0, 1) := by decide +kernel
theorem dX2_net_16 : decode cX2_net 16 = .ok (.ireturn, 1) := by decide +kernel
theorem dX2_net_17 : decode cX2_net 17 = .ok (.lload_n 3, 1) := by decide +kernel
theorem dX2_net_18 : decode cX2_net 18 = .ok (.ldc2_w 56, 3) := by decide +kernel
theorem dX2_net_21 : decode cX2_net 21 = .ok (.lcmp, 1) := by decide +kernel
theorem dX2_net_22 : decode cX2_net 22 = .ok (.ifCond .gt 11, 3) := by decide +kernel
theorem dX2_net_25 : decode cX2_net 25 = .ok (.lload_n 3, 1) := by decide +kernel
theorem dX2_net_26 : decode cX2_net 26 = .ok (.ldc2_w 58, 3) := by decide +kernel
theorem dX2_net_29 : decode cX2_net 29 = .ok (.lcmp, 1) := by decide +kernel
theorem dX2_net_30 : decode cX2_net 30 = .ok (.ifCond .ge 5, 3) := by decide +kernel
theorem dX2_net_33 : decode cX2_net 33 = .ok (.iconst 0, 1) := by decide +kernel
theorem dX2_net_34 : decode cX2_net 34 = .ok (.ireturn, 1) := by decide +kernel
theorem dX2_net_35 : decode cX2_net 35 = .ok (.aload_n 0, 1) := by decide +kernel
theorem dX2_net_36 : decode cX2_net 36 = .ok (.iload_n 1, 1) := by decide +kernel
theorem dX2_net_37 : decode cX2_net 37 = .ok (.iload_n 2, 1) := by decide +kernel
theorem dX2_net_38 : decode cX2_net 38 = .ok (.invokevirtual 60, 3) := by decide +kernel
theorem dX2_net_41 : decode cX2_net 41 = .ok (.lload_n 3, 1) := by decide +kernel
theorem dX2_net_42 : decode cX2_net 42 = .ok (.ladd, 1) := by decide +kernel
theorem dX2_net_43 : decode cX2_net 43 = .ok (.lstore 5, 2) := by decide +kernel
theorem dX2_net_45 : decode cX2_net 45 = .ok (.lload 5, 2) := by decide +kernel
theorem dX2_net_47 : decode cX2_net 47 = .ok (.ldc2_w 64, 3) := by decide +kernel
theorem dX2_net_50 : decode cX2_net 50 = .ok (.lcmp, 1) := by decide +kernel
theorem dX2_net_51 : decode cX2_net 51 = .ok (.ifCond .gt 12, 3) := by decide +kernel
theorem dX2_net_54 : decode cX2_net 54 = .ok (.lload 5, 2) := by decide +kernel
theorem dX2_net_56 : decode cX2_net 56 = .ok (.ldc2_w 66, 3) := by decide +kernel
theorem dX2_net_59 : decode cX2_net 59 = .ok (.lcmp, 1) := by decide +kernel
theorem dX2_net_60 : decode cX2_net 60 = .ok (.ifCond .ge 5, 3) := by decide +kernel
theorem dX2_net_63 : decode cX2_net 63 = .ok (.iconst 0, 1) := by decide +kernel
theorem dX2_net_64 : decode cX2_net 64 = .ok (.ireturn, 1) := by decide +kernel
theorem dX2_net_65 : decode cX2_net 65 = .ok (.aload_n 0, 1) := by decide +kernel
theorem dX2_net_66 : decode cX2_net 66 = .ok (.iload_n 1, 1) := by decide +kernel
theorem dX2_net_67 : decode cX2_net 67 = .ok (.iload_n 2, 1) := by decide +kernel
theorem dX2_net_68 : decode cX2_net 68 = .ok (.invokevirtual 49, 3) := by decide +kernel
theorem dX2_net_71 : decode cX2_net 71 = .ok (.istore 7, 2) := by decide +kernel
theorem dX2_net_73 : decode cX2_net 73 = .ok (.bipush 16, 2) := by decide +kernel
theorem dX2_net_75 : decode cX2_net 75 = .ok (.iload_n 1, 1) := by decide +kernel
theorem dX2_net_76 : decode cX2_net 76 = .ok (.imul, 1) := by decide +kernel
theorem dX2_net_77 : decode cX2_net 77 = .ok (.aload_n 0, 1) := by decide +kernel
theorem dX2_net_78 : decode cX2_net 78 = .ok (.getfield 23, 3) := by decide +kernel
theorem dX2_net_81 : decode cX2_net 81 = .ok (.iload_n 1, 1) := by decide +kernel
theorem dX2_net_82 : decode cX2_net 82 = .ok (.iaload, 1) := by decide +kernel
theorem dX2_net_83 : decode cX2_net 83 = .ok (.iadd, 1) := by decide +kernel
theorem dX2_net_84 : decode cX2_net 84 = .ok (.istore 8, 2) := by decide +kernel
theorem dX2_net_86 : decode cX2_net 86 = .ok (.iload 7, 2) := by decide +kernel
theorem dX2_net_88 : decode cX2_net 88 = .ok (.iload 8, 2) := by decide +kernel
theorem dX2_net_90 : decode cX2_net 90 = .ok (.if_icmp .ge 58, 3) := by decide +kernel
theorem dX2_net_93 : decode cX2_net 93 = .ok (.lload 5, 2) := by decide +kernel
theorem dX2_net_95 : decode cX2_net 95 = .ok (.lconst 0, 1) := by decide +kernel
theorem dX2_net_96 : decode cX2_net 96 = .ok (.lcmp, 1) := by decide +kernel
theorem dX2_net_97 : decode cX2_net 97 = .ok (.ifCond .ne 51, 3) := by decide +kernel
theorem dX2_net_100 : decode cX2_net 100 = .ok (.aload_n 0, 1) := by decide +kernel
theorem dX2_net_101 : decode cX2_net 101 = .ok (.getfield 27, 3) := by decide +kernel
theorem dX2_net_104 : decode cX2_net 104 = .ok (.iload 7, 2) := by decide +kernel
theorem dX2_net_106 : decode cX2_net 106 = .ok (.aload_n 0, 1) := by decide +kernel
theorem dX2_net_107 : decode cX2_net 107 = .ok (.getfield 27, 3) := by decide +kernel
theorem dX2_net_110 : decode cX2_net 110 = .ok (.iload 8, 2) := by decide +kernel
theorem dX2_net_112 : decode cX2_net 112 = .ok (.iconst 1, 1) := by decide +kernel
theorem dX2_net_113 : decode cX2_net 113 = .ok (.isub, 1) := by decide +kernel
theorem dX2_net_114 : decode cX2_net 114 = .ok (.iaload, 1) := by decide +kernel
theorem dX2_net_115 : decode cX2_net 115 = .ok (.iastore, 1) := by decide +kernel
theorem dX2_net_116 : decode cX2_net 116 = .ok (.aload_n 0, 1) := by decide +kernel
theorem dX2_net_117 : decode cX2_net 117 = .ok (.getfield 30, 3) := by decide +kernel
theorem dX2_net_120 : decode cX2_net 120 = .ok (.iload 7, 2) := by decide +kernel
theorem dX2_net_122 : decode cX2_net 122 = .ok (.aload_n 0, 1) := by decide +kernel
theorem dX2_net_123 : decode cX2_net 123 = .ok (.getfield 30, 3) := by decide +kernel
theorem dX2_net_126 : decode cX2_net 126 = .ok (.iload 8, 2) := by decide +kernel
theorem dX2_net_128 : decode cX2_net 128 = .ok (.iconst 1, 1) := by decide +kernel
theorem dX2_net_129 : decode cX2_net 129 = .ok (.isub, 1) := by decide +kernel
theorem dX2_net_130 : decode cX2_net 130 = .ok (.laload, 1) := by decide +kernel
theorem dX2_net_131 : decode cX2_net 131 = .ok (.lastore, 1) := by decide +kernel
theorem dX2_net_132 : decode cX2_net 132 = .ok (.aload_n 0, 1) := by decide +kernel
theorem dX2_net_133 : decode cX2_net 133 = .ok (.getfield 23, 3) := by decide +kernel
theorem dX2_net_136 : decode cX2_net 136 = .ok (.iload_n 1, 1) := by decide +kernel
theorem dX2_net_137 : decode cX2_net 137 = .ok (.aload_n 0, 1) := by decide +kernel
theorem dX2_net_138 : decode cX2_net 138 = .ok (.getfield 23, 3) := by decide +kernel
theorem dX2_net_141 : decode cX2_net 141 = .ok (.iload_n 1, 1) := by decide +kernel
theorem dX2_net_142 : decode cX2_net 142 = .ok (.iaload, 1) := by decide +kernel
theorem dX2_net_143 : decode cX2_net 143 = .ok (.iconst 1, 1) := by decide +kernel
theorem dX2_net_144 : decode cX2_net 144 = .ok (.isub, 1) := by decide +kernel
theorem dX2_net_145 : decode cX2_net 145 = .ok (.iastore, 1) := by decide +kernel
theorem dX2_net_146 : decode cX2_net 146 = .ok (.iconst 1, 1) := by decide +kernel
theorem dX2_net_147 : decode cX2_net 147 = .ok (.ireturn, 1) := by decide +kernel
theorem dX2_net_148 : decode cX2_net 148 = .ok (.lload 5, 2) := by decide +kernel
theorem dX2_net_150 : decode cX2_net 150 = .ok (.lconst 0, 1) := by decide +kernel
theorem dX2_net_151 : decode cX2_net 151 = .ok (.lcmp, 1) := by decide +kernel
theorem dX2_net_152 : decode cX2_net 152 = .ok (.ifCond .ne 5, 3) := by decide +kernel
theorem dX2_net_155 : decode cX2_net 155 = .ok (.iconst 1, 1) := by decide +kernel
theorem dX2_net_156 : decode cX2_net 156 = .ok (.ireturn, 1) := by decide +kernel
theorem dX2_net_157 : decode cX2_net 157 = .ok (.iload 7, 2) := by decide +kernel
theorem dX2_net_159 : decode cX2_net 159 = .ok (.iload 8, 2) := by decide +kernel
theorem dX2_net_161 : decode cX2_net 161 = .ok (.if_icmp .ne 16, 3) := by decide +kernel
theorem dX2_net_164 : decode cX2_net 164 = .ok (.aload_n 0, 1) := by decide +kernel
theorem dX2_net_165 : decode cX2_net 165 = .ok (.getfield 23, 3) := by decide +kernel
theorem dX2_net_168 : decode cX2_net 168 = .ok (.iload_n 1, 1) := by decide +kernel
theorem dX2_net_169 : decode cX2_net 169 = .ok (.iaload, 1) := by decide +kernel
theorem dX2_net_170 : decode cX2_net 170 = .ok (.bipush 16, 2) := by decide +kernel
theorem dX2_net_172 : decode cX2_net 172 = .ok (.if_icmp .ne 5, 3) := by decide +kernel
theorem dX2_net_175 : decode cX2_net 175 = .ok (.iconst 0, 1) := by decide +kernel
theorem dX2_net_176 : decode cX2_net 176 = .ok (.ireturn, 1) := by decide +kernel
theorem dX2_net_177 : decode cX2_net 177 = .ok (.iload 7, 2) := by decide +kernel
theorem dX2_net_179 : decode cX2_net 179 = .ok (.iload 8, 2) := by decide +kernel
theorem dX2_net_181 : decode cX2_net 181 = .ok (.if_icmp .ne 17, 3) := by decide +kernel
theorem dX2_net_184 : decode cX2_net 184 = .ok (.aload_n 0, 1) := by decide +kernel
theorem dX2_net_185 : decode cX2_net 185 = .ok (.getfield 23, 3) := by decide +kernel
theorem dX2_net_188 : decode cX2_net 188 = .ok (.iload_n 1, 1) := by decide +kernel
theorem dX2_net_189 : decode cX2_net 189 = .ok (.aload_n 0, 1) := by decide +kernel
theorem dX2_net_190 : decode cX2_net 190 = .ok (.getfield 23, 3) := by decide +kernel
theorem dX2_net_193 : decode cX2_net 193 = .ok (.iload_n 1, 1) := by decide +kernel
theorem dX2_net_194 : decode cX2_net 194 = .ok (.iaload, 1) := by decide +kernel
theorem dX2_net_195 : decode cX2_net 195 = .ok (.iconst 1, 1) := by decide +kernel
theorem dX2_net_196 : decode cX2_net 196 = .ok (.iadd, 1) := by decide +kernel
theorem dX2_net_197 : decode cX2_net 197 = .ok (.iastore, 1) := by decide +kernel
theorem dX2_net_198 : decode cX2_net 198 = .ok (.aload_n 0, 1) := by decide +kernel
theorem dX2_net_199 : decode cX2_net 199 = .ok (.getfield 27, 3) := by decide +kernel
theorem dX2_net_202 : decode cX2_net 202 = .ok (.iload 7, 2) := by decide +kernel
theorem dX2_net_204 : decode cX2_net 204 = .ok (.iload_n 2, 1) := by decide +kernel
theorem dX2_net_205 : decode cX2_net 205 = .ok (.iastore, 1) := by decide +kernel
theorem dX2_net_206 : decode cX2_net 206 = .ok (.aload_n 0, 1) := by decide +kernel
theorem dX2_net_207 : decode cX2_net 207 = .ok (.getfield 30, 3) := by decide +kernel
theorem dX2_net_210 : decode cX2_net 210 = .ok (.iload 7, 2) := by decide +kernel
theorem dX2_net_212 : decode cX2_net 212 = .ok (.lload 5, 2) := by decide +kernel
theorem dX2_net_214 : decode cX2_net 214 = .ok (.lastore, 1) := by decide +kernel
theorem dX2_net_215 : decode cX2_net 215 = .ok (.iconst 1, 1) := by decide +kernel
theorem dX2_net_216 : decode cX2_net 216 = .ok (.ireturn, 1) := by decide +kernel
theorem dX2_go_0 : decode cX2_go 0 = .ok (.aload_n 0, 1) := by decide +kernel
theorem dX2_go_1 : decode cX2_go 1 = .ok (.iload_n 1, 1) := by decide +kernel
theorem dX2_go_2 : decode cX2_go 2 = .ok (.invokevirtual 53, 3) := by decide +kernel
theorem dX2_go_5 : decode cX2_go 5 = .ok (.ifCond .ne 5, 3) := by decide +kernel
theorem dX2_go_8 : decode cX2_go 8 = .ok (.iconst 0, 1) := by decide +kernel
theorem dX2_go_9 : decode cX2_go 9 = .ok (.ireturn, 1) := by decide +kernel
theorem dX2_go_10 : decode cX2_go 10 = .ok (.aload_n 0, 1) := by decide +kernel
theorem dX2_go_11 : decode cX2_go 11 = .ok (.getfield 16, 3) := by decide +kernel
theorem dX2_go_14 : decode cX2_go 14 = .ok (.iload_n 1, 1) := by decide +kernel
theorem dX2_go_15 : decode cX2_go 15 = .ok (.iconst 0, 1) := by decide +kernel
theorem dX2_go_16 : decode cX2_go 16 = .ok (.bastore, 1) := by decide +kernel
theorem dX2_go_17 : decode cX2_go 17 = .ok (.iconst 1, 1) := by decide +kernel
theorem dX2_go_18 : decode cX2_go 18 = .ok (.ireturn, 1) := by decide +kernel
theorem dX2_total_0 : decode cX2_total 0 = .ok (.aload_n 0, 1) := by decide +kernel
theorem dX2_total_1 : decode cX2_total 1 = .ok (.getfield 7, 3) := by decide +kernel
theorem dX2_total_4 : decode cX2_total 4 = .ok (.iload_n 1, 1) := by decide +kernel
theorem dX2_total_5 : decode cX2_total 5 = .ok (.laload, 1) := by decide +kernel
theorem dX2_total_6 : decode cX2_total 6 = .ok (.lstore_n 2, 1) := by decide +kernel
theorem dX2_total_7 : decode cX2_total 7 = .ok (.iconst 0, 1) := by decide +kernel
theorem dX2_total_8 : decode cX2_total 8 = .ok (.istore 4, 2) := by decide +kernel
theorem dX2_total_10 : decode cX2_total 10 = .ok (.iload 4, 2) := by decide +kernel
theorem dX2_total_12 : decode cX2_total 12 = .ok (.aload_n 0, 1) := by decide +kernel
theorem dX2_total_13 : decode cX2_total 13 = .ok (.getfield 45, 3) := by decide +kernel
theorem dX2_total_16 : decode cX2_total 16 = .ok (.if_icmp .ge 33, 3) := by decide +kernel
theorem dX2_total_19 : decode cX2_total 19 = .ok (.lload_n 2, 1) := by decide +kernel
theorem dX2_total_20 : decode cX2_total 20 = .ok (.aload_n 0, 1) := by decide +kernel
theorem dX2_total_21 : decode cX2_total 21 = .ok (.getfield 20, 3) := by decide +kernel
theorem dX2_total_24 : decode cX2_total 24 = .ok (.iload 4, 2) := by decide +kernel
theorem dX2_total_26 : decode cX2_total 26 = .ok (.baload, 1) := by decide +kernel
theorem dX2_total_27 : decode cX2_total 27 = .ok (.ifCond .eq 13, 3) := by decide +kernel
theorem dX2_total_30 : decode cX2_total 30 = .ok (.aload_n 0, 1) := by decide +kernel
theorem dX2_total_31 : decode cX2_total 31 = .ok (.iload 4, 2) := by decide +kernel
theorem dX2_total_33 : decode cX2_total 33 = .ok (.iload_n 1, 1) := by decide +kernel
theorem dX2_total_34 : decode cX2_total 34 = .ok (.invokevirtual 60, 3) := by decide +kernel
theorem dX2_total_37 : decode cX2_total 37 = .ok (.goto 4, 3) := by decide +kernel
theorem dX2_total_40 : decode cX2_total 40 = .ok (.lconst 0, 1) := by decide +kernel
theorem dX2_total_41 : decode cX2_total 41 = .ok (.ladd, 1) := by decide +kernel
theorem dX2_total_42 : decode cX2_total 42 = .ok (.lstore_n 2, 1) := by decide +kernel
theorem dX2_total_43 : decode cX2_total 43 = .ok (.iinc 4 1, 3) := by decide +kernel
theorem dX2_total_46 : decode cX2_total 46 = .ok (.goto (-36), 3) := by decide +kernel
theorem dX2_total_49 : decode cX2_total 49 = .ok (.lload_n 2, 1) := by decide +kernel
theorem dX2_total_50 : decode cX2_total 50 = .ok (.lreturn, 1) := by decide +kernel
theorem dX2_lastTaker_0 : decode cX2_lastTaker 0 = .ok (.iconst (-1), 1) := by decide +kernel
theorem dX2_lastTaker_1 : decode cX2_lastTaker 1 = .ok (.istore_n 2, 1) := by decide +kernel
theorem dX2_lastTaker_2 : decode cX2_lastTaker 2 = .ok (.iconst 0, 1) := by decide +kernel
theorem dX2_lastTaker_3 : decode cX2_lastTaker 3 = .ok (.istore_n 3, 1) := by decide +kernel
theorem dX2_lastTaker_4 : decode cX2_lastTaker 4 = .ok (.iload_n 3, 1) := by decide +kernel
theorem dX2_lastTaker_5 : decode cX2_lastTaker 5 = .ok (.aload_n 0, 1) := by decide +kernel
theorem dX2_lastTaker_6 : decode cX2_lastTaker 6 = .ok (.getfield 45, 3) := by decide +kernel
theorem dX2_lastTaker_9 : decode cX2_lastTaker 9 = .ok (.if_icmp .ge 35, 3) := by decide +kernel
theorem dX2_lastTaker_12 : decode cX2_lastTaker 12 = .ok (.aload_n 0, 1) := by decide +kernel
theorem dX2_lastTaker_13 : decode cX2_lastTaker 13 = .ok (.getfield 20, 3) := by decide +kernel
theorem dX2_lastTaker_16 : decode cX2_lastTaker 16 = .ok (.iload_n 3, 1) := by decide +kernel
theorem dX2_lastTaker_17 : decode cX2_lastTaker 17 = .ok (.baload, 1) := by decide +kernel
theorem dX2_lastTaker_18 : decode cX2_lastTaker 18 = .ok (.ifCond .eq 18, 3) := by decide +kernel
theorem dX2_lastTaker_21 : decode cX2_lastTaker 21 = .ok (.aload_n 0, 1) := by decide +kernel
theorem dX2_lastTaker_22 : decode cX2_lastTaker 22 = .ok (.iload_n 3, 1) := by decide +kernel
theorem dX2_lastTaker_23 : decode cX2_lastTaker 23 = .ok (.iload_n 1, 1) := by decide +kernel
theorem dX2_lastTaker_24 : decode cX2_lastTaker 24 = .ok (.invokevirtual 60, 3) := by decide +kernel
theorem dX2_lastTaker_27 : decode cX2_lastTaker 27 = .ok (.lconst 0, 1) := by decide +kernel
theorem dX2_lastTaker_28 : decode cX2_lastTaker 28 = .ok (.lcmp, 1) := by decide +kernel
theorem dX2_lastTaker_29 : decode cX2_lastTaker 29 = .ok (.ifCond .ge 7, 3) := by decide +kernel
theorem dX2_lastTaker_32 : decode cX2_lastTaker 32 = .ok (.iload_n 3, 1) := by decide +kernel
theorem dX2_lastTaker_33 : decode cX2_lastTaker 33 = .ok (.goto 4, 3) := by decide +kernel
theorem dX2_lastTaker_36 : decode cX2_lastTaker 36 = .ok (.iload_n 2, 1) := by decide +kernel
theorem dX2_lastTaker_37 : decode cX2_lastTaker 37 = .ok (.istore_n 2, 1) := by decide +kernel
theorem dX2_lastTaker_38 : decode cX2_lastTaker 38 = .ok (.iinc 3 1, 3) := by decide +kernel
theorem dX2_lastTaker_41 : decode cX2_lastTaker 41 = .ok (.goto (-37), 3) := by decide +kernel
theorem dX2_lastTaker_44 : decode cX2_lastTaker 44 = .ok (.iload_n 2, 1) := by decide +kernel
theorem dX2_lastTaker_45 : decode cX2_lastTaker 45 = .ok (.ireturn, 1) := by decide +kernel
theorem dX2_meet_0 : decode cX2_meet 0 = .ok (.iconst 0, 1) := by decide +kernel
theorem dX2_meet_1 : decode cX2_meet 1 = .ok (.istore_n 3, 1) := by decide +kernel
theorem dX2_meet_2 : decode cX2_meet 2 = .ok (.bipush 16, 2) := by decide +kernel
theorem dX2_meet_4 : decode cX2_meet 4 = .ok (.iload_n 1, 1) := by decide +kernel
theorem dX2_meet_5 : decode cX2_meet 5 = .ok (.imul, 1) := by decide +kernel
theorem dX2_meet_6 : decode cX2_meet 6 = .ok (.istore 4, 2) := by decide +kernel
theorem dX2_meet_8 : decode cX2_meet 8 = .ok (.iload 4, 2) := by decide +kernel
theorem dX2_meet_10 : decode cX2_meet 10 = .ok (.bipush 16, 2) := by decide +kernel
theorem dX2_meet_12 : decode cX2_meet 12 = .ok (.iload_n 1, 1) := by decide +kernel
theorem dX2_meet_13 : decode cX2_meet 13 = .ok (.imul, 1) := by decide +kernel
theorem dX2_meet_14 : decode cX2_meet 14 = .ok (.aload_n 0, 1) := by decide +kernel
theorem dX2_meet_15 : decode cX2_meet 15 = .ok (.getfield 23, 3) := by decide +kernel
theorem dX2_meet_18 : decode cX2_meet 18 = .ok (.iload_n 1, 1) := by decide +kernel
theorem dX2_meet_19 : decode cX2_meet 19 = .ok (.iaload, 1) := by decide +kernel
theorem dX2_meet_20 : decode cX2_meet 20 = .ok (.iadd, 1) := by decide +kernel
theorem dX2_meet_21 : decode cX2_meet 21 = .ok (.if_icmp .ge 48, 3) := by decide +kernel
theorem dX2_meet_24 : decode cX2_meet 24 = .ok (.iload_n 3, 1) := by decide +kernel
theorem dX2_meet_25 : decode cX2_meet 25 = .ok (.ifCond .ne 32, 3) := by decide +kernel
theorem dX2_meet_28 : decode cX2_meet 28 = .ok (.aload_n 0, 1) := by decide +kernel
theorem dX2_meet_29 : decode cX2_meet 29 = .ok (.getfield 30, 3) := by decide +kernel
theorem dX2_meet_32 : decode cX2_meet 32 = .ok (.iload 4, 2) := by decide +kernel
theorem dX2_meet_34 : decode cX2_meet 34 = .ok (.laload, 1) := by decide +kernel
theorem dX2_meet_35 : decode cX2_meet 35 = .ok (.lconst 0, 1) := by decide +kernel
theorem dX2_meet_36 : decode cX2_meet 36 = .ok (.lcmp, 1) := by decide +kernel
theorem dX2_meet_37 : decode cX2_meet 37 = .ok (.ifCond .ge 24, 3) := by decide +kernel
theorem dX2_meet_40 : decode cX2_meet 40 = .ok (.aload_n 0, 1) := by decide +kernel
theorem dX2_meet_41 : decode cX2_meet 41 = .ok (.iload_n 2, 1) := by decide +kernel
theorem dX2_meet_42 : decode cX2_meet 42 = .ok (.aload_n 0, 1) := by decide +kernel
theorem dX2_meet_43 : decode cX2_meet 43 = .ok (.getfield 27, 3) := by decide +kernel
theorem dX2_meet_46 : decode cX2_meet 46 = .ok (.iload 4, 2) := by decide +kernel
theorem dX2_meet_48 : decode cX2_meet 48 = .ok (.iaload, 1) := by decide +kernel
theorem dX2_meet_49 : decode cX2_meet 49 = .ok (.invokevirtual 60, 3) := by decide +kernel
theorem dX2_meet_52 : decode cX2_meet 52 = .ok (.lconst 0, 1) := by decide +kernel
theorem dX2_meet_53 : decode cX2_meet 53 = .ok (.lcmp, 1) := by decide +kernel
theorem dX2_meet_54 : decode cX2_meet 54 = .ok (.ifCond .ge 7, 3) := by decide +kernel
theorem dX2_meet_57 : decode cX2_meet 57 = .ok (.iconst 1, 1) := by decide +kernel
theorem dX2_meet_58 : decode cX2_meet 58 = .ok (.goto 4, 3) := by decide +kernel
theorem dX2_meet_61 : decode cX2_meet 61 = .ok (.iconst 0, 1) := by decide +kernel
theorem dX2_meet_62 : decode cX2_meet 62 = .ok (.istore_n 3, 1) := by decide +kernel
theorem dX2_meet_63 : decode cX2_meet 63 = .ok (.iinc 4 1, 3) := by decide +kernel
theorem dX2_meet_66 : decode cX2_meet 66 = .ok (.goto (-58), 3) := by decide +kernel
theorem dX2_meet_69 : decode cX2_meet 69 = .ok (.iload_n 3, 1) := by decide +kernel
theorem dX2_meet_70 : decode cX2_meet 70 = .ok (.ireturn, 1) := by decide +kernel
theorem dX2_lacks_0 : decode cX2_lacks 0 = .ok (.iconst 0, 1) := by decide +kernel
theorem dX2_lacks_1 : decode cX2_lacks 1 = .ok (.istore_n 2, 1) := by decide +kernel
theorem dX2_lacks_2 : decode cX2_lacks 2 = .ok (.iconst 0, 1) := by decide +kernel
theorem dX2_lacks_3 : decode cX2_lacks 3 = .ok (.istore_n 3, 1) := by decide +kernel
theorem dX2_lacks_4 : decode cX2_lacks 4 = .ok (.iload_n 3, 1) := by decide +kernel
theorem dX2_lacks_5 : decode cX2_lacks 5 = .ok (.iload_n 1, 1) := by decide +kernel
theorem dX2_lacks_6 : decode cX2_lacks 6 = .ok (.if_icmp .ge 46, 3) := by decide +kernel
theorem dX2_lacks_9 : decode cX2_lacks 9 = .ok (.iload_n 2, 1) := by decide +kernel
theorem dX2_lacks_10 : decode cX2_lacks 10 = .ok (.ifCond .ne 30, 3) := by decide +kernel
theorem dX2_lacks_13 : decode cX2_lacks 13 = .ok (.aload_n 0, 1) := by decide +kernel
theorem dX2_lacks_14 : decode cX2_lacks 14 = .ok (.getfield 16, 3) := by decide +kernel
theorem dX2_lacks_17 : decode cX2_lacks 17 = .ok (.iload_n 3, 1) := by decide +kernel
theorem dX2_lacks_18 : decode cX2_lacks 18 = .ok (.baload, 1) := by decide +kernel
theorem dX2_lacks_19 : decode cX2_lacks 19 = .ok (.ifCond .eq 25, 3) := by decide +kernel
theorem dX2_lacks_22 : decode cX2_lacks 22 = .ok (.aload_n 0, 1) := by decide +kernel
theorem dX2_lacks_23 : decode cX2_lacks 23 = .ok (.getfield 20, 3) := by decide +kernel
theorem dX2_lacks_26 : decode cX2_lacks 26 = .ok (.iload_n 3, 1) := by decide +kernel
theorem dX2_lacks_27 : decode cX2_lacks 27 = .ok (.baload, 1) := by decide +kernel
theorem dX2_lacks_28 : decode cX2_lacks 28 = .ok (.ifCond .ne 16, 3) := by decide +kernel
theorem dX2_lacks_31 : decode cX2_lacks 31 = .ok (.aload_n 0, 1) := by decide +kernel
theorem dX2_lacks_32 : decode cX2_lacks 32 = .ok (.iload_n 3, 1) := by decide +kernel
theorem dX2_lacks_33 : decode cX2_lacks 33 = .ok (.iload_n 1, 1) := by decide +kernel
theorem dX2_lacks_34 : decode cX2_lacks 34 = .ok (.invokevirtual 68, 3) := by decide +kernel
theorem dX2_lacks_37 : decode cX2_lacks 37 = .ok (.ifCond .eq 7, 3) := by decide +kernel
theorem dX2_lacks_40 : decode cX2_lacks 40 = .ok (.iconst 1, 1) := by decide +kernel
theorem dX2_lacks_41 : decode cX2_lacks 41 = .ok (.goto 4, 3) := by decide +kernel
theorem dX2_lacks_44 : decode cX2_lacks 44 = .ok (.iconst 0, 1) := by decide +kernel
theorem dX2_lacks_45 : decode cX2_lacks 45 = .ok (.istore_n 2, 1) := by decide +kernel
theorem dX2_lacks_46 : decode cX2_lacks 46 = .ok (.iinc 3 1, 3) := by decide +kernel
theorem dX2_lacks_49 : decode cX2_lacks 49 = .ok (.goto (-45), 3) := by decide +kernel
theorem dX2_lacks_52 : decode cX2_lacks 52 = .ok (.iload_n 2, 1) := by decide +kernel
theorem dX2_lacks_53 : decode cX2_lacks 53 = .ok (.ireturn, 1) := by decide +kernel
theorem dX2_solve_0 : decode cX2_solve 0 = .ok (.iconst 0, 1) := by decide +kernel
theorem dX2_solve_1 : decode cX2_solve 1 = .ok (.istore_n 1, 1) := by decide +kernel
theorem dX2_solve_2 : decode cX2_solve 2 = .ok (.iload_n 1, 1) := by decide +kernel
theorem dX2_solve_3 : decode cX2_solve 3 = .ok (.sipush 200, 3) := by decide +kernel
theorem dX2_solve_6 : decode cX2_solve 6 = .ok (.if_icmp .ge 21, 3) := by decide +kernel
theorem dX2_solve_9 : decode cX2_solve 9 = .ok (.aload_n 0, 1) := by decide +kernel
theorem dX2_solve_10 : decode cX2_solve 10 = .ok (.getfield 20, 3) := by decide +kernel
theorem dX2_solve_13 : decode cX2_solve 13 = .ok (.iload_n 1, 1) := by decide +kernel
theorem dX2_solve_14 : decode cX2_solve 14 = .ok (.aload_n 0, 1) := by decide +kernel
theorem dX2_solve_15 : decode cX2_solve 15 = .ok (.getfield 16, 3) := by decide +kernel
theorem dX2_solve_18 : decode cX2_solve 18 = .ok (.iload_n 1, 1) := by decide +kernel
theorem dX2_solve_19 : decode cX2_solve 19 = .ok (.baload, 1) := by decide +kernel
theorem dX2_solve_20 : decode cX2_solve 20 = .ok (.bastore, 1) := by decide +kernel
theorem dX2_solve_21 : decode cX2_solve 21 = .ok (.iinc 1 1, 3) := by decide +kernel
theorem dX2_solve_24 : decode cX2_solve 24 = .ok (.goto (-22), 3) := by decide +kernel
theorem dX2_solve_27 : decode cX2_solve 27 = .ok (.iconst 1, 1) := by decide +kernel
theorem dX2_solve_28 : decode cX2_solve 28 = .ok (.istore_n 1, 1) := by decide +kernel
theorem dX2_solve_29 : decode cX2_solve 29 = .ok (.iload_n 1, 1) := by decide +kernel
theorem dX2_solve_30 : decode cX2_solve 30 = .ok (.ifCond .eq 93, 3) := by decide +kernel
theorem dX2_solve_33 : decode cX2_solve 33 = .ok (.iconst 0, 1) := by decide +kernel
theorem dX2_solve_34 : decode cX2_solve 34 = .ok (.istore_n 1, 1) := by decide +kernel
theorem dX2_solve_35 : decode cX2_solve 35 = .ok (.iconst 0, 1) := by decide +kernel
theorem dX2_solve_36 : decode cX2_solve 36 = .ok (.istore_n 2, 1) := by decide +kernel
theorem dX2_solve_37 : decode cX2_solve 37 = .ok (.iload_n 2, 1) := by decide +kernel
theorem dX2_solve_38 : decode cX2_solve 38 = .ok (.sipush 300, 3) := by decide +kernel
theorem dX2_solve_41 : decode cX2_solve 41 = .ok (.if_icmp .ge 37, 3) := by decide +kernel
theorem dX2_solve_44 : decode cX2_solve 44 = .ok (.aload_n 0, 1) := by decide +kernel
theorem dX2_solve_45 : decode cX2_solve 45 = .ok (.iload_n 2, 1) := by decide +kernel
theorem dX2_solve_46 : decode cX2_solve 46 = .ok (.invokevirtual 72, 3) := by decide +kernel
theorem dX2_solve_49 : decode cX2_solve 49 = .ok (.aload_n 0, 1) := by decide +kernel
theorem dX2_solve_50 : decode cX2_solve 50 = .ok (.getfield 13, 3) := by decide +kernel
theorem dX2_solve_53 : decode cX2_solve 53 = .ok (.iload_n 2, 1) := by decide +kernel
theorem dX2_solve_54 : decode cX2_solve 54 = .ok (.laload, 1) := by decide +kernel
theorem dX2_solve_55 : decode cX2_solve 55 = .ok (.lcmp, 1) := by decide +kernel
theorem dX2_solve_56 : decode cX2_solve 56 = .ok (.ifCond .ge 16, 3) := by decide +kernel
theorem dX2_solve_59 : decode cX2_solve 59 = .ok (.aload_n 0, 1) := by decide +kernel
theorem dX2_solve_60 : decode cX2_solve 60 = .ok (.getfield 20, 3) := by decide +kernel
theorem dX2_solve_63 : decode cX2_solve 63 = .ok (.aload_n 0, 1) := by decide +kernel
theorem dX2_solve_64 : decode cX2_solve 64 = .ok (.iload_n 2, 1) := by decide +kernel
theorem dX2_solve_65 : decode cX2_solve 65 = .ok (.invokevirtual 76, 3) := by decide +kernel
theorem dX2_solve_68 : decode cX2_solve 68 = .ok (.iconst 0, 1) := by decide +kernel
theorem dX2_solve_69 : decode cX2_solve 69 = .ok (.bastore, 1) := by decide +kernel
theorem dX2_solve_70 : decode cX2_solve 70 = .ok (.iconst 1, 1) := by decide +kernel
theorem dX2_solve_71 : decode cX2_solve 71 = .ok (.istore_n 1, 1) := by decide +kernel
theorem dX2_solve_72 : decode cX2_solve 72 = .ok (.iinc 2 1, 3) := by decide +kernel
theorem dX2_solve_75 : decode cX2_solve 75 = .ok (.goto (-38), 3) := by decide +kernel
theorem dX2_solve_78 : decode cX2_solve 78 = .ok (.iconst 0, 1) := by decide +kernel
theorem dX2_solve_79 : decode cX2_solve 79 = .ok (.istore_n 2, 1) := by decide +kernel
theorem dX2_solve_80 : decode cX2_solve 80 = .ok (.iload_n 2, 1) := by decide +kernel
theorem dX2_solve_81 : decode cX2_solve 81 = .ok (.aload_n 0, 1) := by decide +kernel
theorem dX2_solve_82 : decode cX2_solve 82 = .ok (.getfield 45, 3) := by decide +kernel
theorem dX2_solve_85 : decode cX2_solve 85 = .ok (.if_icmp .ge 35, 3) := by decide +kernel
theorem dX2_solve_88 : decode cX2_solve 88 = .ok (.aload_n 0, 1) := by decide +kernel
theorem dX2_solve_89 : decode cX2_solve 89 = .ok (.getfield 20, 3) := by decide +kernel
theorem dX2_solve_92 : decode cX2_solve 92 = .ok (.iload_n 2, 1) := by decide +kernel
theorem dX2_solve_93 : decode cX2_solve 93 = .ok (.baload, 1) := by decide +kernel
theorem dX2_solve_94 : decode cX2_solve 94 = .ok (.ifCond .eq 20, 3) := by decide +kernel
theorem dX2_solve_97 : decode cX2_solve 97 = .ok (.aload_n 0, 1) := by decide +kernel
theorem dX2_solve_98 : decode cX2_solve 98 = .ok (.iload_n 2, 1) := by decide +kernel
theorem dX2_solve_99 : decode cX2_solve 99 = .ok (.invokevirtual 80, 3) := by decide +kernel
theorem dX2_solve_102 : decode cX2_solve 102 = .ok (.ifCond .eq 12, 3) := by decide +kernel
theorem dX2_solve_105 : decode cX2_solve 105 = .ok (.aload_n 0, 1) := by decide +kernel
theorem dX2_solve_106 : decode cX2_solve 106 = .ok (.getfield 20, 3) := by decide +kernel
theorem dX2_solve_109 : decode cX2_solve 109 = .ok (.iload_n 2, 1) := by decide +kernel
theorem dX2_solve_110 : decode cX2_solve 110 = .ok (.iconst 0, 1) := by decide +kernel
theorem dX2_solve_111 : decode cX2_solve 111 = .ok (.bastore, 1) := by decide +kernel
theorem dX2_solve_112 : decode cX2_solve 112 = .ok (.iconst 1, 1) := by decide +kernel
theorem dX2_solve_113 : decode cX2_solve 113 = .ok (.istore_n 1, 1) := by decide +kernel
theorem dX2_solve_114 : decode cX2_solve 114 = .ok (.iinc 2 1, 3) := by decide +kernel
theorem dX2_solve_117 : decode cX2_solve 117 = .ok (.goto (-37), 3) := by decide +kernel
theorem dX2_solve_120 : decode cX2_solve 120 = .ok (.goto (-91), 3) := by decide +kernel
theorem dX2_solve_123 : decode cX2_solve 123 = .ok (.aload_n 0, 1) := by decide +kernel
theorem dX2_solve_124 : decode cX2_solve 124 = .ok (.iconst 2, 1) := by decide +kernel
theorem dX2_solve_125 : decode cX2_solve 125 = .ok (.invokevirtual 83, 3) := by decide +kernel
theorem dX2_solve_128 : decode cX2_solve 128 = .ok (.ireturn, 1) := by decide +kernel
theorem dX2_in_0 : decode cX2_in 0 = .ok (.iload_n 1, 1) := by decide +kernel
theorem dX2_in_1 : decode cX2_in 1 = .ok (.ifCond .lt 23, 3) := by decide +kernel
theorem dX2_in_4 : decode cX2_in 4 = .ok (.iload_n 1, 1) := by decide +kernel
theorem dX2_in_5 : decode cX2_in 5 = .ok (.sipush 200, 3) := by decide +kernel
theorem dX2_in_8 : decode cX2_in 8 = .ok (.if_icmp .ge 16, 3) := by decide +kernel
theorem dX2_in_11 : decode cX2_in 11 = .ok (.aload_n 0, 1) := by decide +kernel
theorem dX2_in_12 : decode cX2_in 12 = .ok (.getfield 20, 3) := by decide +kernel
theorem dX2_in_15 : decode cX2_in 15 = .ok (.iload_n 1, 1) := by decide +kernel
theorem dX2_in_16 : decode cX2_in 16 = .ok (.baload, 1) := by decide +kernel
theorem dX2_in_17 : decode cX2_in 17 = .ok (.ifCond .eq 7, 3) := by decide +kernel
theorem dX2_in_20 : decode cX2_in 20 = .ok (.iconst 1, 1) := by decide +kernel
theorem dX2_in_21 : decode cX2_in 21 = .ok (.goto 4, 3) := by decide +kernel
theorem dX2_in_24 : decode cX2_in 24 = .ok (.iconst 0, 1) := by decide +kernel
theorem dX2_in_25 : decode cX2_in 25 = .ok (.ireturn, 1) := by decide +kernel
theorem dX2_perform_0 : decode cX2_perform 0 = .ok (.aload_n 0, 1) := by decide +kernel
theorem dX2_perform_1 : decode cX2_perform 1 = .ok (.invokevirtual 86, 3) := by decide +kernel
theorem dX2_perform_4 : decode cX2_perform 4 = .ok (.istore_n 1, 1) := by decide +kernel
theorem dX2_perform_5 : decode cX2_perform 5 = .ok (.iconst 0, 1) := by decide +kernel
theorem dX2_perform_6 : decode cX2_perform 6 = .ok (.istore_n 2, 1) := by decide +kernel
theorem dX2_perform_7 : decode cX2_perform 7 = .ok (.iload_n 2, 1) := by decide +kernel
theorem dX2_perform_8 : decode cX2_perform 8 = .ok (.sipush 300, 3) := by decide +kernel
theorem dX2_perform_11 : decode cX2_perform 11 = .ok (.if_icmp .ge 23, 3) := by decide +kernel
theorem dX2_perform_14 : decode cX2_perform 14 = .ok (.aload_n 0, 1) := by decide +kernel
theorem dX2_perform_15 : decode cX2_perform 15 = .ok (.iload_n 2, 1) := by decide +kernel
theorem dX2_perform_16 : decode cX2_perform 16 = .ok (.invokevirtual 72, 3) := by decide +kernel
theorem dX2_perform_19 : decode cX2_perform 19 = .ok (.ldc2_w 35, 3) := by decide +kernel
theorem dX2_perform_22 : decode cX2_perform 22 = .ok (.lcmp, 1) := by decide +kernel
theorem dX2_perform_23 : decode cX2_perform 23 = .ok (.ifCond .le 5, 3) := by decide +kernel
theorem dX2_perform_26 : decode cX2_perform 26 = .ok (.iconst (-1), 1) := by decide +kernel
theorem dX2_perform_27 : decode cX2_perform 27 = .ok (.ireturn, 1) := by decide +kernel
theorem dX2_perform_28 : decode cX2_perform 28 = .ok (.iinc 2 1, 3) := by decide +kernel
theorem dX2_perform_31 : decode cX2_perform 31 = .ok (.goto (-24), 3) := by decide +kernel
theorem dX2_perform_34 : decode cX2_perform 34 = .ok (.iconst 0, 1) := by decide +kernel
theorem dX2_perform_35 : decode cX2_perform 35 = .ok (.istore_n 2, 1) := by decide +kernel
theorem dX2_perform_36 : decode cX2_perform 36 = .ok (.iload_n 2, 1) := by decide +kernel
theorem dX2_perform_37 : decode cX2_perform 37 = .ok (.sipush 300, 3) := by decide +kernel
theorem dX2_perform_40 : decode cX2_perform 40 = .ok (.if_icmp .ge 20, 3) := by decide +kernel
theorem dX2_perform_43 : decode cX2_perform 43 = .ok (.aload_n 0, 1) := by decide +kernel
theorem dX2_perform_44 : decode cX2_perform 44 = .ok (.getfield 7, 3) := by decide +kernel
theorem dX2_perform_47 : decode cX2_perform 47 = .ok (.iload_n 2, 1) := by decide +kernel
theorem dX2_perform_48 : decode cX2_perform 48 = .ok (.aload_n 0, 1) := by decide +kernel
theorem dX2_perform_49 : decode cX2_perform 49 = .ok (.iload_n 2, 1) := by decide +kernel
theorem dX2_perform_50 : decode cX2_perform 50 = .ok (.invokevirtual 72, 3) := by decide +kernel
theorem dX2_perform_53 : decode cX2_perform 53 = .ok (.lastore, 1) := by decide +kernel
theorem dX2_perform_54 : decode cX2_perform 54 = .ok (.iinc 2 1, 3) := by decide +kernel
theorem dX2_perform_57 : decode cX2_perform 57 = .ok (.goto (-21), 3) := by decide +kernel
theorem dX2_perform_60 : decode cX2_perform 60 = .ok (.iconst 0, 1) := by decide +kernel
theorem dX2_perform_61 : decode cX2_perform 61 = .ok (.istore_n 2, 1) := by decide +kernel
theorem dX2_perform_62 : decode cX2_perform 62 = .ok (.iload_n 2, 1) := by decide +kernel
theorem dX2_perform_63 : decode cX2_perform 63 = .ok (.aload_n 0, 1) := by decide +kernel
theorem dX2_perform_64 : decode cX2_perform 64 = .ok (.getfield 45, 3) := by decide +kernel
theorem dX2_perform_67 : decode cX2_perform 67 = .ok (.if_icmp .ge 38, 3) := by decide +kernel
theorem dX2_perform_70 : decode cX2_perform 70 = .ok (.aload_n 0, 1) := by decide +kernel
theorem dX2_perform_71 : decode cX2_perform 71 = .ok (.getfield 16, 3) := by decide +kernel
theorem dX2_perform_74 : decode cX2_perform 74 = .ok (.iload_n 2, 1) := by decide +kernel
theorem dX2_perform_75 : decode cX2_perform 75 = .ok (.aload_n 0, 1) := by decide +kernel
theorem dX2_perform_76 : decode cX2_perform 76 = .ok (.getfield 16, 3) := by decide +kernel
theorem dX2_perform_79 : decode cX2_perform 79 = .ok (.iload_n 2, 1) := by decide +kernel
theorem dX2_perform_80 : decode cX2_perform 80 = .ok (.baload, 1) := by decide +kernel
theorem dX2_perform_81 : decode cX2_perform 81 = .ok (.ifCond .eq 16, 3) := by decide +kernel
theorem dX2_perform_84 : decode cX2_perform 84 = .ok (.aload_n 0, 1) := by decide +kernel
theorem dX2_perform_85 : decode cX2_perform 85 = .ok (.getfield 20, 3) := by decide +kernel
theorem dX2_perform_88 : decode cX2_perform 88 = .ok (.iload_n 2, 1) := by decide +kernel
theorem dX2_perform_89 : decode cX2_perform 89 = .ok (.baload, 1) := by decide +kernel
theorem dX2_perform_90 : decode cX2_perform 90 = .ok (.ifCond .ne 7, 3) := by decide +kernel
theorem dX2_perform_93 : decode cX2_perform 93 = .ok (.iconst 1, 1) := by decide +kernel
theorem dX2_perform_94 : decode cX2_perform 94 = .ok (.goto 4, 3) := by decide +kernel
theorem dX2_perform_97 : decode cX2_perform 97 = .ok (.iconst 0, 1) := by decide +kernel
theorem dX2_perform_98 : decode cX2_perform 98 = .ok (.bastore, 1) := by decide +kernel
theorem dX2_perform_99 : decode cX2_perform 99 = .ok (.iinc 2 1, 3) := by decide +kernel
theorem dX2_perform_102 : decode cX2_perform 102 = .ok (.goto (-40), 3) := by decide +kernel
theorem dX2_perform_105 : decode cX2_perform 105 = .ok (.iload_n 1, 1) := by decide +kernel
theorem dX2_perform_106 : decode cX2_perform 106 = .ok (.ireturn, 1) := by decide +kernel
theorem dX2_value_0 : decode cX2_value 0 = .ok (.iload_n 1, 1) := by decide +kernel
theorem dX2_value_1 : decode cX2_value 1 = .ok (.invokestatic 37, 3) := by decide +kernel
theorem dX2_value_4 : decode cX2_value 4 = .ok (.ifCond .eq 12, 3) := by decide +kernel
theorem dX2_value_7 : decode cX2_value 7 = .ok (.aload_n 0, 1) := by decide +kernel
theorem dX2_value_8 : decode cX2_value 8 = .ok (.getfield 7, 3) := by decide +kernel
theorem dX2_value_11 : decode cX2_value 11 = .ok (.iload_n 1, 1) := by decide +kernel
theorem dX2_value_12 : decode cX2_value 12 = .ok (.laload, 1) := by decide +kernel
theorem dX2_value_13 : decode cX2_value 13 = .ok (.goto 4, 3) := by decide +kernel
theorem dX2_value_16 : decode cX2_value 16 = .ok (.lconst 0, 1) := by decide +kernel
theorem dX2_value_17 : decode cX2_value 17 = .ok (.lreturn, 1) := by decide +kernel
theorem dX2_netOf_0 : decode cX2_netOf 0 = .ok (.aload_n 0, 1) := by decide +kernel
theorem dX2_netOf_1 : decode cX2_netOf 1 = .ok (.iload_n 1, 1) := by decide +kernel
theorem dX2_netOf_2 : decode cX2_netOf 2 = .ok (.invokevirtual 53, 3) := by decide +kernel
theorem dX2_netOf_5 : decode cX2_netOf 5 = .ok (.ifCond .eq 19, 3) := by decide +kernel
theorem dX2_netOf_8 : decode cX2_netOf 8 = .ok (.iload_n 2, 1) := by decide +kernel
theorem dX2_netOf_9 : decode cX2_netOf 9 = .ok (.invokestatic 37, 3) := by decide +kernel
theorem dX2_netOf_12 : decode cX2_netOf 12 = .ok (.ifCond .eq 12, 3) := by decide +kernel
theorem dX2_netOf_15 : decode cX2_netOf 15 = .ok (.aload_n 0, 1) := by decide +kernel
theorem dX2_netOf_16 : decode cX2_netOf 16 = .ok (.iload_n 1, 1) := by decide +kernel
theorem dX2_netOf_17 : decode cX2_netOf 17 = .ok (.iload_n 2, 1) := by decide +kernel
theorem dX2_netOf_18 : decode cX2_netOf 18 = .ok (.invokevirtual 60, 3) := by decide +kernel
theorem dX2_netOf_21 : decode cX2_netOf 21 = .ok (.goto 4, 3) := by decide +kernel
theorem dX2_netOf_24 : decode cX2_netOf 24 = .ok (.lconst 0, 1) := by decide +kernel
theorem dX2_netOf_25 : decode cX2_netOf 25 = .ok (.lreturn, 1) := by decide +kernel
theorem dX2_count_0 : decode cX2_count 0 = .ok (.iconst 0, 1) := by decide +kernel
theorem dX2_count_1 : decode cX2_count 1 = .ok (.istore_n 2, 1) := by decide +kernel
theorem dX2_count_2 : decode cX2_count 2 = .ok (.iconst 0, 1) := by decide +kernel
theorem dX2_count_3 : decode cX2_count 3 = .ok (.istore_n 3, 1) := by decide +kernel
theorem dX2_count_4 : decode cX2_count 4 = .ok (.iconst 0, 1) := by decide +kernel
theorem dX2_count_5 : decode cX2_count 5 = .ok (.istore 4, 2) := by decide +kernel
theorem dX2_count_7 : decode cX2_count 7 = .ok (.iload 4, 2) := by decide +kernel
theorem dX2_count_9 : decode cX2_count 9 = .ok (.sipush 200, 3) := by decide +kernel
theorem dX2_count_12 : decode cX2_count 12 = .ok (.if_icmp .ge 45, 3) := by decide +kernel
theorem dX2_count_15 : decode cX2_count 15 = .ok (.iload_n 2, 1) := by decide +kernel
theorem dX2_count_16 : decode cX2_count 16 = .ok (.aload_n 0, 1) := by decide +kernel
theorem dX2_count_17 : decode cX2_count 17 = .ok (.getfield 16, 3) := by decide +kernel
theorem dX2_count_20 : decode cX2_count 20 = .ok (.iload 4, 2) := by decide +kernel
theorem dX2_count_22 : decode cX2_count 22 = .ok (.baload, 1) := by decide +kernel
theorem dX2_count_23 : decode cX2_count 23 = .ok (.ifCond .eq 7, 3) := by decide +kernel
theorem dX2_count_26 : decode cX2_count 26 = .ok (.iconst 1, 1) := by decide +kernel
theorem dX2_count_27 : decode cX2_count 27 = .ok (.goto 4, 3) := by decide +kernel
theorem dX2_count_30 : decode cX2_count 30 = .ok (.iconst 0, 1) := by decide +kernel
theorem dX2_count_31 : decode cX2_count 31 = .ok (.iadd, 1) := by decide +kernel
theorem dX2_count_32 : decode cX2_count 32 = .ok (.istore_n 2, 1) := by decide +kernel
theorem dX2_count_33 : decode cX2_count 33 = .ok (.iload_n 3, 1) := by decide +kernel
theorem dX2_count_34 : decode cX2_count 34 = .ok (.aload_n 0, 1) := by decide +kernel
theorem dX2_count_35 : decode cX2_count 35 = .ok (.getfield 20, 3) := by decide +kernel
theorem dX2_count_38 : decode cX2_count 38 = .ok (.iload 4, 2) := by decide +kernel
theorem dX2_count_40 : decode cX2_count 40 = .ok (.baload, 1) := by decide +kernel
theorem dX2_count_41 : decode cX2_count 41 = .ok (.ifCond .eq 7, 3) := by decide +kernel
theorem dX2_count_44 : decode cX2_count 44 = .ok (.iconst 1, 1) := by decide +kernel
theorem dX2_count_45 : decode cX2_count 45 = .ok (.goto 4, 3) := by decide +kernel
theorem dX2_count_48 : decode cX2_count 48 = .ok (.iconst 0, 1) := by decide +kernel
theorem dX2_count_49 : decode cX2_count 49 = .ok (.iadd, 1) := by decide +kernel
theorem dX2_count_50 : decode cX2_count 50 = .ok (.istore_n 3, 1) := by decide +kernel
theorem dX2_count_51 : decode cX2_count 51 = .ok (.iinc 4 1, 3) := by decide +kernel
theorem dX2_count_54 : decode cX2_count 54 = .ok (.goto (-47), 3) := by decide +kernel
theorem dX2_count_57 : decode cX2_count 57 = .ok (.iload_n 1, 1) := by decide +kernel
theorem dX2_count_58 : decode cX2_count 58 = .ok (.ifCond .ne 10, 3) := by decide +kernel
theorem dX2_count_61 : decode cX2_count 61 = .ok (.aload_n 0, 1) := by decide +kernel
theorem dX2_count_62 : decode cX2_count 62 = .ok (.getfield 45, 3) := by decide +kernel
theorem dX2_count_65 : decode cX2_count 65 = .ok (.goto 22, 3) := by decide +kernel
theorem dX2_count_68 : decode cX2_count 68 = .ok (.iload_n 1, 1) := by decide +kernel
theorem dX2_count_69 : decode cX2_count 69 = .ok (.iconst 1, 1) := by decide +kernel
theorem dX2_count_70 : decode cX2_count 70 = .ok (.if_icmp .ne 7, 3) := by decide +kernel
theorem dX2_count_73 : decode cX2_count 73 = .ok (.iload_n 2, 1) := by decide +kernel
theorem dX2_count_74 : decode cX2_count 74 = .ok (.goto 13, 3) := by decide +kernel
theorem dX2_count_77 : decode cX2_count 77 = .ok (.iload_n 1, 1) := by decide +kernel
theorem dX2_count_78 : decode cX2_count 78 = .ok (.iconst 2, 1) := by decide +kernel
theorem dX2_count_79 : decode cX2_count 79 = .ok (.if_icmp .ne 7, 3) := by decide +kernel
theorem dX2_count_82 : decode cX2_count 82 = .ok (.iload_n 3, 1) := by decide +kernel
theorem dX2_count_83 : decode cX2_count 83 = .ok (.goto 4, 3) := by decide +kernel
theorem dX2_count_86 : decode cX2_count 86 = .ok (.iconst (-1), 1) := by decide +kernel
theorem dX2_count_87 : decode cX2_count 87 = .ok (.ireturn, 1) := by decide +kernel
end
section
/-! WORDS, CONTEXT, CALLS: one list of words for all methods; what a walk stands on; a call of a method that only answers, a call of one that writes -/
def tIsA : Cond → Bool
  | .arrayClass _ => true
  | _ => false
def tIsN : Cond → Bool
  | .fieldLinkNest _ _ _ _ _ _ => true
  | .methodLinkNest _ _ _ _ => true
  | _ => false
def tGd (w : Cond) : Bool := (w.onTables && w.keeps) || tIsA w
/-- all words of the tables that stay -/
def tT : List Cond := lw_tbl.filter tGd
/-- the words of nest mates -/
def nW : List Cond := lw_tbl.filter tIsN
theorem tT_good : ∀ w ∈ tT, (w.onTables && w.keeps) = true ∨ ∃ ty, w = .arrayClass ty := by
  intro w hw
  have h := (List.mem_filter.mp hw).2
  unfold tGd at h
  rcases Bool.or_eq_true_iff.mp h with h | h
  · exact Or.inl h
  · cases w with
    | arrayClass ty => exact Or.inr ⟨ty, rfl⟩
    | _ => cases h
theorem tT_of {args : Array Value} {s : State} (h : ∀ w ∈ lw_tbl, w.before args s = true) : ∀ w ∈ tT, w.before args s = true := fun w hw => h w (List.mem_filter.mp hw).1
theorem nW_warm {s U : State} (hW : s.WarmedH U.vm) (h : ∀ w ∈ nW, va_Nw w s) : ∀ w ∈ nW, va_Nw w U := by
  intro w hw
  have h1 := h w hw
  have h2 := (List.mem_filter.mp hw).2
  cases w with
  | fieldLinkNest a i b n d k => exact va_Nw.warmF hW h1
  | methodLinkNest a i x k => exact va_Nw.warmM hW h1
  | _ => cases h2
theorem nW_same {u U : State} (e : u.vm = U.vm) (h : ∀ w ∈ nW, va_Nw w u) : ∀ w ∈ nW, va_Nw w U := by
  intro w hw
  have h1 := h w hw
  have h2 := (List.mem_filter.mp hw).2
  cases w with
  | fieldLinkNest a i b n d k => exact va_Nw.same rfl e h1
  | methodLinkNest a i x k => exact va_Nw.same rfl e h1
  | _ => cases h2
theorem in_I : ∀ w ∈ u_ws RIt TI 5, w ∈ tT := by decide +kernel
theorem in_D : ∀ w ∈ u_ws RD TD 8, w ∈ tT := by decide +kernel
theorem in_M : ∀ w ∈ u_ws RM TM 8, w ∈ tT := by decide +kernel
/-- a method's words: its own code first -/
abbrev tC (y : MethodName) (b : ByteArray) (mL : Nat) (ret : Option FieldType) : List Cond := Cond.code y b mL ret :: tT
abbrev tyK (K : Nat → ClassId) : List (ClassId × FieldType) := [(K 0, .long), (K 1, .int), (K 2, .boolean), (K 3, .object RIt)]
/-- what a walk stands on -/
def cx (own : String) (D : va_G) (K : Nat → ClassId) (p : Program) (s : State) (m : MethodId) (args : Array Value) (c : Code) (cc : ByteArray) : Prop :=
  p.tables.exec = Jvm.exec ∧ c.code = cc ∧ s.vm.findClass own = some m.cls ∧ (∀ w ∈ tT, w.before args s = true) ∧ va_K D vwCl (tyK K) s ∧ (∀ w ∈ nW, va_Nw w s) ∧ va_AO RIt s
/-- a start: the arguments, the heap, the tables -/
def kP (D : va_G) (K : Nat → ClassId) (H : Heap) (As : List Value) : Array Value → State → Prop := va_Pc As (fun U => U.heap = H ∧ va_K D vwCl (tyK K) U ∧ (∀ w ∈ nW, va_Nw w U) ∧ va_AO RIt U)
theorem kP_blind {D : va_G} {K : Nat → ClassId} {H : Heap} {As : List Value} : FrameBlind (kP D K H As) := by
  intro a U g mk q
  obtain ⟨q0, q1, q2, q3, q4⟩ := q
  exact ⟨q0, q1, va_K.moved (u := U) (U := U.calling g mk a) (Vm.Alike.refl U.vm) q2, nW_same (u := U) (U := U.calling g mk a) rfl q3, va_AO.moved (u := U) (U := U.calling g mk a) (Vm.Alike.refl U.vm) q4⟩
section BASE
variable {p : Program} {l : Launch} {e : Env} {Rm : Room} {s : State} {m : MethodId} {args : Array Value} {below : List Frame} {meth : Method} {c : Code} {H : Heap} {locs : List Loc} {cells slots : Nat} {Q : State → Prop} {cc : ByteArray} {pc : Nat} {ls : Array Slot} {rest st0 : List Value} {own : String} {D : va_G} {K : Nat → ClassId} {A : Nat → Prop} {H0 : Heap} {As : List Value}
theorem tp_i {x y : Int32} (h : x = y) (kk : W p l e Rm s m args below meth c H locs cells slots Q (F0 m pc ls (.int y :: rest))) : W p l e Rm s m args below meth c H locs cells slots Q (F0 m pc ls (.int x :: rest)) := by
  rw [h]; exact kk
theorem tp_l {x y : Int64} (h : x = y) (kk : W p l e Rm s m args below meth c H locs cells slots Q (F0 m pc ls (.long y :: rest))) : W p l e Rm s m args below meth c H locs cells slots Q (F0 m pc ls (.long x :: rest)) := by
  rw [h]; exact kk
theorem kP_S (C : cx own D K p s m args c cc) : PreS s H (kP D K H As) As := ⟨kP_blind, fun _ hU hW => ⟨rfl, hU, va_K.moved hW.alike C.2.2.2.2.1, nW_warm hW C.2.2.2.2.2.1, va_AO.moved hW.alike C.2.2.2.2.2.2⟩⟩
theorem kP_V {Cn : String} {b : Addr} (C : cx own D K p s m args c cc) (hr : ∃ cellB : Cell, H[b]? = some cellB ∧ cellB.vm.isStatics = false ∧ s.vm.findClass Cn = some cellB.cls) : PreV s H Cn b (kP D K H (.ref b :: As)) As := ⟨kP_blind, hr, fun _ hU hW => ⟨rfl, hU, va_K.moved hW.alike C.2.2.2.2.1, nW_warm hW C.2.2.2.2.2.1, va_AO.moved hW.alike C.2.2.2.2.2.2⟩⟩
/-- a call of a method that only answers -/
theorem pv {r : Value} {a : Array Value} (hr : va_Run p l e Rm s m args below meth c H locs cells slots 0 0 (F0 m pc ls st0) rest (k2_QcV r a) (fun _ => False)) (kk : W p l e Rm s m args below meth c H locs cells slots Q (F0 m (pc + 3) ls (r :: rest))) : W p l e Rm s m args below meth c H locs cells slots Q (F0 m pc ls st0) := by
  intro T hT X
  obtain ⟨v, st₀, t, T', L, h0, X', hL, e1, e2, ⟨hv, hh⟩, st⟩ := hr T hT X
  cases hv
  obtain ⟨t2, a1, b1⟩ := kk T' (by rw [e1, hh, h0]) (Stand.forget X' (fun q h => (hL q h).elim))
  exact ⟨t2, st t2 a1, b1⟩
/-- the end of a method that writes: an answer and a new world -/
abbrev qV {Sg : Type} (D : va_G) (A : Nat → Prop) (post : Sg → Prop) (f : Sg → va_W) : Array Value → State → Outcome → State → Prop := va_Qv post (fun u t => va_P D vwCl (f u) t.heap ∧ va_D A (f u)) A
abbrev qI {Sg : Type} (D : va_G) (A : Nat → Prop) (post : Int32 → Sg → Prop) (f : Sg → va_W) : Array Value → State → Outcome → State → Prop := va_Qi post (fun u t => va_P D vwCl (f u) t.heap ∧ va_D A (f u)) A
theorem wv {Sg : Type} {post : Sg → Prop} {f : Sg → va_W} {mc ms : Nat} {a : Array Value} (hr : va_Run p l e Rm s m args below meth c H locs cells slots mc ms (F0 m pc ls st0) rest (qV D A post f a) A) (hS : va_S A H0 H locs) (kk : ∀ (u : Sg) (H1 : Heap) (locs1 : List Loc), post u → va_P D vwCl (f u) H1 → va_D A (f u) → va_S A H0 H1 locs1 → W p l e Rm s m args below meth c H1 locs1 (cells + mc) (slots + ms) Q (F0 m (pc + 3) ls rest)) : W p l e Rm s m args below meth c H locs cells slots Q (F0 m pc ls st0) :=
  va_callv hr hS (fun _ _ h => h) (fun _ h => h) (fun u t H1 locs1 ht _ hp hB _ _ hS1 => kk u H1 locs1 hp (ht ▸ hB.1) hB.2 hS1)
theorem wi {Sg : Type} {post : Int32 → Sg → Prop} {f : Sg → va_W} {mc ms : Nat} {a : Array Value} (hr : va_Run p l e Rm s m args below meth c H locs cells slots mc ms (F0 m pc ls st0) rest (qI D A post f a) A) (hS : va_S A H0 H locs) (kk : ∀ (r : Int32) (u : Sg) (H1 : Heap) (locs1 : List Loc), post r u → va_P D vwCl (f u) H1 → va_D A (f u) → va_S A H0 H1 locs1 → W p l e Rm s m args below meth c H1 locs1 (cells + mc) (slots + ms) Q (F0 m (pc + 3) ls (.int r :: rest))) : W p l e Rm s m args below meth c H locs cells slots Q (F0 m pc ls st0) :=
  va_calli hr hS (fun _ _ h => h) (fun _ h => h) (fun r u t H1 locs1 ht _ hp hB _ _ hS1 => kk r u H1 locs1 hp (ht ▸ hB.1) hB.2 hS1)
/-- a loop with a counter, that reads -/
theorem lpW {U pcH : Nat} {I : Nat → Array Slot → Prop} (hs : ∀ (k : Nat) (ls : Array Slot), k ≤ U → I k ls → (k < U → ∀ ls' : Array Slot, I (k + 1) ls' → W p l e Rm s m args below meth c H locs cells slots Q (F0 m pcH ls' [])) → W p l e Rm s m args below meth c H locs cells slots Q (F0 m pcH ls [])) : ∀ (k : Nat) (ls : Array Slot), k ≤ U → I k ls → W p l e Rm s m args below meth c H locs cells slots Q (F0 m pcH ls []) := by
  have h : ∀ (f k : Nat) (ls : Array Slot), U - k ≤ f → k ≤ U → I k ls → W p l e Rm s m args below meth c H locs cells slots Q (F0 m pcH ls []) := by
    intro f
    induction f with
    | zero => intro k ls h1 h2 h3; exact hs k ls h2 h3 (fun q => absurd q (by omega))
    | succ f ih => intro k ls h1 h2 h3; exact hs k ls h2 h3 (fun q ls' h4 => ih (k + 1) ls' (by omega) (by omega) h4)
  intro k ls
  exact h (U - k) k ls (Nat.le_refl _)
/-- a loop with a counter, that writes -/
theorem lpM {U pcH : Nat} {I : Nat → Array Slot → Heap → List Loc → Prop} (hs : ∀ (k : Nat) (ls : Array Slot) (H : Heap) (locs : List Loc), k ≤ U → I k ls H locs → (k < U → ∀ (ls' : Array Slot) (H' : Heap) (locs' : List Loc), I (k + 1) ls' H' locs' → W p l e Rm s m args below meth c H' locs' cells slots Q (F0 m pcH ls' [])) → W p l e Rm s m args below meth c H locs cells slots Q (F0 m pcH ls [])) : ∀ (k : Nat) (ls : Array Slot) (H : Heap) (locs : List Loc), k ≤ U → I k ls H locs → W p l e Rm s m args below meth c H locs cells slots Q (F0 m pcH ls []) := by
  have h : ∀ (f k : Nat) (ls : Array Slot) (H : Heap) (locs : List Loc), U - k ≤ f → k ≤ U → I k ls H locs → W p l e Rm s m args below meth c H locs cells slots Q (F0 m pcH ls []) := by
    intro f
    induction f with
    | zero => intro k ls H locs h1 h2 h3; exact hs k ls H locs h2 h3 (fun q => absurd q (by omega))
    | succ f ih => intro k ls H locs h1 h2 h3; exact hs k ls H locs h2 h3 (fun q ls' H' locs' h4 => ih (k + 1) ls' H' locs' (by omega) (by omega) h4)
  intro k ls H locs
  exact h (U - k) k ls H locs (Nat.le_refl _)
/-- a loop with a measure, that writes -/
theorem lpQ {α : Type} {pcH : Nat} {I : α → Array Slot → Heap → List Loc → Prop} (μ : α → Nat) (hs : ∀ (a : α) (ls : Array Slot) (H : Heap) (locs : List Loc), I a ls H locs → (∀ (a' : α) (ls' : Array Slot) (H' : Heap) (locs' : List Loc), μ a' < μ a → I a' ls' H' locs' → W p l e Rm s m args below meth c H' locs' cells slots Q (F0 m pcH ls' [])) → W p l e Rm s m args below meth c H locs cells slots Q (F0 m pcH ls [])) : ∀ (a : α) (ls : Array Slot) (H : Heap) (locs : List Loc), I a ls H locs → W p l e Rm s m args below meth c H locs cells slots Q (F0 m pcH ls []) := by
  have h : ∀ (f : Nat) (a : α) (ls : Array Slot) (H : Heap) (locs : List Loc), μ a < f → I a ls H locs → W p l e Rm s m args below meth c H locs cells slots Q (F0 m pcH ls []) := by
    intro f
    induction f with
    | zero => intro a ls H locs h1; exact absurd h1 (Nat.not_lt_zero _)
    | succ f ih => intro a ls H locs h1 h2; exact hs a ls H locs h2 (fun a' ls' H' locs' h3 h4 => ih a' ls' H' locs' (by omega) h4)
  intro a ls H locs
  exact h (μ a + 1) a ls H locs (Nat.lt_succ_self _)
end BASE
/-- the room of a method whose calls go k deep -/
abbrev rmK (k mc ms : Nat) : Room := { frames := k, cells := mc, slots := ms, locals := 28 * k }
/-- room for calls k deep -/
def rmOk (Rm : Room) (k cells slots : Nat) : Prop := k ≤ Rm.frames ∧ 28 * k ≤ Rm.locals ∧ cells ≤ Rm.cells ∧ slots ≤ Rm.slots
theorem rmF {Rm : Room} {k cells slots j mL mc ms : Nat} (h : rmOk Rm k cells slots) (hj : j + 1 ≤ k) (hm : mL ≤ 9) : (rmK j mc ms).frames + 1 ≤ Rm.frames ∧ 8 + (mL + 11) + (rmK j mc ms).locals ≤ Rm.locals := by
  obtain ⟨h1, h2, -, -⟩ := h
  exact ⟨by show j + 1 ≤ Rm.frames; omega, by show 8 + (mL + 11) + 28 * j ≤ Rm.locals; omega⟩
theorem gdT {ws : List Cond} (h : ∀ w ∈ ws, w ∈ tT) : GoodIn tT (ws ++ tT) := by
  intro w hw
  rcases List.mem_append.mp hw with q | q
  · exact ⟨h w q, tT_good w (h w q)⟩
  · exact ⟨q, tT_good w q⟩
theorem gdC {y : MethodName} {b : ByteArray} {mL : Nat} {ret : Option FieldType} (h : Cond.code y b mL ret ∈ tT) : GoodIn tT (tC y b mL ret) := gdT (ws := [Cond.code y b mL ret]) (fun w q => by rw [List.mem_singleton.mp q]; exact h)
end
section
/-! THE MATHEMATICS: sums over items, good sets, and what both searches keep. No machine here. -/
def sm (f : Nat → Int) : Nat → Int
  | 0 => 0
  | k + 1 => sm f k + f k
theorem sm_succ (f : Nat → Int) (k : Nat) : sm f (k + 1) = sm f k + f k := rfl
theorem sm_le {f g : Nat → Int} {n : Nat} (h : ∀ k, k < n → f k ≤ g k) : sm f n ≤ sm g n := by
  induction n with
  | zero => exact Int.le_refl _
  | succ n ih =>
    have h1 := ih (fun k hk => h k (Nat.lt_succ_of_lt hk))
    have h2 := h n (Nat.lt_succ_self n)
    rw [sm_succ, sm_succ]
    omega
theorem sm_congr {f g : Nat → Int} {n : Nat} (h : ∀ k, k < n → f k = g k) : sm f n = sm g n := by
  induction n with
  | zero => rfl
  | succ n ih =>
    have h1 := ih (fun k hk => h k (Nat.lt_succ_of_lt hk))
    have h2 := h n (Nat.lt_succ_self n)
    rw [sm_succ, sm_succ, h1, h2]
theorem sm_add (f g : Nat → Int) (n : Nat) : sm (fun k => f k + g k) n = sm f n + sm g n := by
  induction n with
  | zero => rfl
  | succ n ih =>
    rw [sm_succ, sm_succ, sm_succ, ih]
    omega
theorem sm_zero {f : Nat → Int} {n : Nat} (h : ∀ k, k < n → f k = 0) : sm f n = 0 := by
  induction n with
  | zero => rfl
  | succ n ih =>
    have h1 := ih (fun k hk => h k (Nat.lt_succ_of_lt hk))
    have h2 := h n (Nat.lt_succ_self n)
    rw [sm_succ, h1, h2]
    rfl
theorem sm_nonneg {f : Nat → Int} {n : Nat} (h : ∀ k, k < n → 0 ≤ f k) : 0 ≤ sm f n := by
  induction n with
  | zero => exact Int.le_refl _
  | succ n ih =>
    have h1 := ih (fun k hk => h k (Nat.lt_succ_of_lt hk))
    have h2 := h n (Nat.lt_succ_self n)
    rw [sm_succ]
    omega
theorem sm_single {f : Nat → Int} {i : Nat} : ∀ n : Nat, i < n → sm (fun k => if k = i then f k else 0) n = f i := by
  intro n
  induction n with
  | zero => intro h; exact absurd h (Nat.not_lt_zero i)
  | succ n ih =>
    intro h
    rw [sm_succ]
    by_cases e : n = i
    · subst e
      rw [if_pos rfl, sm_zero (fun k hk => if_neg (Nat.ne_of_lt hk))]
      omega
    · rw [if_neg e, ih (by omega)]
      omega
theorem sm_upto {f : Nat → Int} {i : Nat} : ∀ n : Nat, i ≤ n → sm (fun k => if k < i then f k else 0) n = sm f i := by
  intro n
  induction n with
  | zero =>
    intro h
    have e : i = 0 := by omega
    subst e
    rfl
  | succ n ih =>
    intro h
    by_cases e : i = n + 1
    · subst e
      exact sm_congr (fun k hk => if_pos hk)
    · rw [sm_succ, if_neg (by omega), ih (by omega)]
      omega
/-- how many of the first k are in a set -/
def cn (S : Nat → Bool) : Nat → Nat
  | 0 => 0
  | k + 1 => cn S k + (if S k = true then 1 else 0)
theorem cn_succ (S : Nat → Bool) (k : Nat) : cn S (k + 1) = cn S k + (if S k = true then 1 else 0) := rfl
theorem cn_le (S : Nat → Bool) (n : Nat) : cn S n ≤ n := by
  induction n with
  | zero => exact Nat.le_refl _
  | succ n ih =>
    rw [cn_succ]
    split <;> omega
theorem cn_congr {S T : Nat → Bool} {n : Nat} (h : ∀ k, k < n → S k = T k) : cn S n = cn T n := by
  induction n with
  | zero => rfl
  | succ n ih =>
    rw [cn_succ, cn_succ, ih (fun k hk => h k (Nat.lt_succ_of_lt hk)), h n (Nat.lt_succ_self n)]
theorem cn_off {S : Nat → Bool} {t : Nat} : ∀ n : Nat, t < n → S t = true → cn (va_up S t false) n + 1 = cn S n := by
  intro n
  induction n with
  | zero => intro h; exact absurd h (Nat.not_lt_zero t)
  | succ n ih =>
    intro h hS
    rw [cn_succ, cn_succ]
    by_cases e : n = t
    · subst e
      rw [va_up_self, hS, if_pos rfl, if_neg (by decide), cn_congr (fun k hk => va_up_ne S false (Nat.ne_of_lt hk))]
    · have := ih (by omega) hS
      rw [va_up_ne S false e]
      omega
theorem cn_tail {S : Nat → Bool} {n : Nat} : ∀ m : Nat, n ≤ m → (∀ k, n ≤ k → k < m → S k = false) → cn S m = cn S n := by
  intro m
  induction m with
  | zero =>
    intro h _
    have e : n = 0 := by omega
    subst e
    rfl
  | succ m ih =>
    intro h hf
    by_cases e : n = m + 1
    · subst e; rfl
    · rw [cn_succ, hf m (by omega) (Nat.lt_succ_self m), if_neg (by decide), ih (by omega) (fun k h1 h2 => hf k h1 (by omega))]
      rfl
theorem cn_mono {S T : Nat → Bool} {n : Nat} (h : ∀ k, k < n → S k = true → T k = true) : cn S n ≤ cn T n := by
  induction n with
  | zero => exact Nat.le_refl _
  | succ n ih =>
    have h1 := ih (fun k hk => h k (Nat.lt_succ_of_lt hk))
    have h2 := h n (Nat.lt_succ_self n)
    rw [cn_succ, cn_succ]
    by_cases e : S n = true
    · rw [if_pos e, if_pos (h2 e)]; omega
    · rw [if_neg e]; omega
theorem cn_sub {S T : Nat → Bool} {n : Nat} (h : ∀ k, k < n → S k = true → T k = true) : cn (fun k => T k && !S k) n + cn S n = cn T n := by
  induction n with
  | zero => rfl
  | succ n ih =>
    have h1 := ih (fun k hk => h k (Nat.lt_succ_of_lt hk))
    have h2 := h n (Nat.lt_succ_self n)
    rw [cn_succ, cn_succ, cn_succ]
    cases hs : S n with
    | false =>
      cases ht : T n with
      | false => simp; omega
      | true => simp; omega
    | true =>
      rw [h2 hs]
      simp
      omega
theorem cn_pos {S : Nat → Bool} {t n : Nat} (ht : t < n) (h : S t = true) : 0 < cn S n := by
  have := cn_off n ht h
  omega
/-- an item's part at a position: all of it, what it gives, what it takes -/
def gd_T (nv : Nat → Nat → Int) (S : Nat → Bool) (p k : Nat) : Int := if S k = true then nv k p else 0
def gd_G (nv : Nat → Nat → Int) (S : Nat → Bool) (p k : Nat) : Int := if S k = true ∧ 0 < nv k p then nv k p else 0
def gd_K (nv : Nat → Nat → Int) (S : Nat → Bool) (p k : Nat) : Int := if S k = true ∧ nv k p < 0 then nv k p else 0
theorem gd_split (nv : Nat → Nat → Int) (S : Nat → Bool) (p n : Nat) : sm (gd_T nv S p) n = sm (gd_G nv S p) n + sm (gd_K nv S p) n := by
  rw [← sm_add]
  refine sm_congr (fun k _ => ?_)
  unfold gd_T gd_G gd_K
  by_cases hs : S k = true
  · rw [if_pos hs]
    by_cases h1 : 0 < nv k p
    · rw [if_pos ⟨hs, h1⟩, if_neg (fun q => by have := q.2; omega)]; omega
    · rw [if_neg (fun q => h1 q.2)]
      by_cases h2 : nv k p < 0
      · rw [if_pos ⟨hs, h2⟩]; omega
      · rw [if_neg (fun q => h2 q.2)]; omega
  · rw [if_neg hs, if_neg (fun q => hs q.1), if_neg (fun q => hs q.1)]; rfl
def gd_closed (n : Nat) (th : Nat → Bool) (nv : Nat → Nat → Int) (S : Nat → Bool) : Prop := ∀ i j p : Nat, i < n → j < i → p < 300 → S i = true → th j = true → nv i p < 0 → nv j p < 0 → S j = true
def gd_good (n : Nat) (th : Nat → Bool) (nv : Nat → Nat → Int) (va fl : Nat → Int) (S : Nat → Bool) : Prop := (∀ i, i < n → S i = true → th i = true) ∧ gd_closed n th nv S ∧ ∀ p, p < 300 → fl p ≤ va p + sm (gd_T nv S p) n
/-- every good set lies in S -/
def gd_sub (n : Nat) (th : Nat → Bool) (nv : Nat → Nat → Int) (va fl : Nat → Int) (S : Nat → Bool) : Prop := ∀ G, gd_good n th nv va fl G → ∀ i, i < n → G i = true → S i = true
theorem gd_unique {n : Nat} {th : Nat → Bool} {nv : Nat → Nat → Int} {va fl : Nat → Int} {S T : Nat → Bool} (h1 : gd_good n th nv va fl S) (h2 : gd_sub n th nv va fl S) (h3 : gd_good n th nv va fl T) (h4 : gd_sub n th nv va fl T) : ∀ i, i < n → S i = T i := by
  intro i hi
  have a := h2 T h3 i hi
  have b := h4 S h1 i hi
  cases hs : S i with
  | true => exact (b hs).symm
  | false =>
    cases ht : T i with
    | false => rfl
    | true => rw [a ht] at hs; cases hs
/-- the good sets and what is asked of them don't depend on what lies beyond n and 300 -/
theorem gd_good_congr {n : Nat} {th th' : Nat → Bool} {nv nv' : Nat → Nat → Int} {va va' fl fl' : Nat → Int} {S S' : Nat → Bool} (ht : ∀ i, i < n → th i = th' i) (hn : ∀ i p, i < n → p < 300 → nv i p = nv' i p) (hv : ∀ p, p < 300 → va p = va' p) (hf : ∀ p, p < 300 → fl p = fl' p) (hS : ∀ i, i < n → S i = S' i) (h : gd_good n th nv va fl S) : gd_good n th' nv' va' fl' S' := by
  obtain ⟨h1, h2, h3⟩ := h
  refine ⟨fun i hi hs => ?_, fun i j p hi hj hp hs hth h4 h5 => ?_, fun p hp => ?_⟩
  · rw [← ht i hi]
    exact h1 i hi (by rw [hS i hi]; exact hs)
  · rw [← hS j (by omega)]
    exact h2 i j p hi hj hp (by rw [hS i hi]; exact hs) (by rw [ht j (by omega)]; exact hth) (by rw [hn i p hi hp]; exact h4) (by rw [hn j p (by omega) hp]; exact h5)
  · rw [← hv p hp, ← hf p hp, ← sm_congr (f := gd_T nv S p) (g := gd_T nv' S' p) (fun k hk => by unfold gd_T; rw [hS k hk, hn k p hk hp])]
    exact h3 p hp
theorem gd_sub_congr {n : Nat} {th th' : Nat → Bool} {nv nv' : Nat → Nat → Int} {va va' fl fl' : Nat → Int} {S S' : Nat → Bool} (ht : ∀ i, i < n → th i = th' i) (hn : ∀ i p, i < n → p < 300 → nv i p = nv' i p) (hv : ∀ p, p < 300 → va p = va' p) (hf : ∀ p, p < 300 → fl p = fl' p) (hS : ∀ i, i < n → S i = S' i) (h : gd_sub n th nv va fl S) : gd_sub n th' nv' va' fl' S' := by
  intro G hG i hi hg
  rw [← hS i hi]
  exact h G (gd_good_congr (fun i hi => (ht i hi).symm) (fun i p hi hp => (hn i p hi hp).symm) (fun p hp => (hv p hp).symm) (fun p hp => (hf p hp).symm) (fun i hi => rfl) hG) i hi hg
theorem gd_sub_off {n : Nat} {th : Nat → Bool} {nv : Nat → Nat → Int} {va fl : Nat → Int} {S : Nat → Bool} {t : Nat} (h : gd_sub n th nv va fl S) (hx : ∀ G, gd_good n th nv va fl G → G t = true → False) : gd_sub n th nv va fl (va_up S t false) := by
  intro G hG i hi hg
  by_cases e : i = t
  · subst e
    exact (hx G hG hg).elim
  · rw [va_up_ne S false e]
    exact h G hG i hi hg
/-- the reference's first step: the last taker of a position that comes below its floor -/
theorem gd_last {n : Nat} {th : Nat → Bool} {nv : Nat → Nat → Int} {va fl : Nat → Int} {S : Nat → Bool} {t p : Nat} (hS : ∀ i, i < n → S i = true → th i = true) (h : gd_sub n th nv va fl S) (hp : p < 300) (hlow : va p + sm (gd_T nv S p) n < fl p) (ht : t < n) (htk : nv t p < 0) (hlast : ∀ j, t < j → j < n → S j = true → nv j p < 0 → False) : gd_sub n th nv va fl (va_up S t false) := by
  refine gd_sub_off h (fun G hG hGt => ?_)
  have h1 : sm (gd_T nv G p) n ≤ sm (gd_T nv S p) n := by
    refine sm_le (fun k hk => ?_)
    unfold gd_T
    by_cases hg : G k = true
    · rw [if_pos hg, if_pos (h G hG k hk hg)]
      exact Int.le_refl _
    · rw [if_neg hg]
      by_cases hs : S k = true
      · rw [if_pos hs]
        by_cases hneg : nv k p < 0
        · rcases Nat.lt_trichotomy k t with q | q | q
          · exact absurd (hG.2.1 t k p ht q hp hGt (hS k hk hs) htk hneg) hg
          · subst q; exact absurd hGt hg
          · exact (hlast k q hk hs hneg).elim
        · omega
      · rw [if_neg hs]
        exact Int.le_refl _
  have h2 := hG.2.2 p hp
  omega
/-- the reference's second step: an item that lacks one before it -/
theorem gd_lack {n : Nat} {th : Nat → Bool} {nv : Nat → Nat → Int} {va fl : Nat → Int} {S : Nat → Bool} {i j p : Nat} (h : gd_sub n th nv va fl S) (hp : p < 300) (hi : i < n) (hj : j < i) (hth : th j = true) (hns : ¬ S j = true) (h1 : nv i p < 0) (h2 : nv j p < 0) : gd_sub n th nv va fl (va_up S i false) :=
  gd_sub_off h (fun G hG hg => hns (h G hG j (by omega) (hG.2.1 i j p hi hj hp hg hth h1 h2)))
/-- a position below its floor has a taker in the set -/
theorem gd_taker {n : Nat} {nv : Nat → Nat → Int} {va fl : Nat → Int} {S : Nat → Bool} {p : Nat} (hvf : fl p ≤ va p) (hlow : va p + sm (gd_T nv S p) n < fl p) (hno : ∀ t, t < n → S t = true → nv t p < 0 → False) : False := by
  have : 0 ≤ sm (gd_T nv S p) n := by
    refine sm_nonneg (fun k hk => ?_)
    unfold gd_T
    by_cases hs : S k = true
    · rw [if_pos hs]
      by_cases hneg : nv k p < 0
      · exact (hno k hk hs hneg).elim
      · omega
    · rw [if_neg hs]
      exact Int.le_refl _
  omega
/-- the class's sweep, at item i: the values with all that C gives and what the ones of S before i take; blocked as it says -/
def gd_can (th : Nat → Bool) (nv : Nat → Nat → Int) (fl : Nat → Int) (S : Nat → Bool) (af : Nat → Int) (i : Nat) : Prop := ∀ p, p < 300 → nv i p < 0 → (∀ j, j < i → th j = true → S j = false → nv j p < 0 → False) ∧ fl p ≤ af p + nv i p
theorem gd_drop {n : Nat} {th : Nat → Bool} {nv : Nat → Nat → Int} {va fl : Nat → Int} {C S : Nat → Bool} {af : Nat → Int} {i : Nat} (hS : ∀ k, k < n → S k = true → th k = true) (hSC : ∀ k, k < n → S k = true → C k = true) (h : gd_sub n th nv va fl S) (hi : i < n) (haf : ∀ p, p < 300 → af p = va p + sm (gd_G nv C p) n + sm (gd_K nv S p) i) (hno : ¬ gd_can th nv fl S af i) : gd_sub n th nv va fl (va_up S i false) := by
  refine gd_sub_off h (fun G hG hGi => hno (fun p hp htk => ⟨fun j hj hth hns hjt => ?_, ?_⟩))
  · have := h G hG j (by omega) (hG.2.1 i j p hi hj hp hGi hth htk hjt)
    rw [hns] at this
    cases this
  · have h2 := hG.2.2 p hp
    have h1 : sm (gd_T nv G p) n ≤ sm (fun k => (gd_G nv C p k + (if k < i then gd_K nv S p k else 0)) + (if k = i then nv k p else 0)) n := by
      refine sm_le (fun k hk => ?_)
      unfold gd_T gd_G gd_K
      by_cases hg : G k = true
      · have hs := h G hG k hk hg
        have hc := hSC k hk hs
        rw [if_pos hg]
        by_cases hpos : 0 < nv k p
        · rw [if_pos ⟨hc, hpos⟩]
          by_cases e : k = i
          · subst e; omega
          · rw [if_neg e]
            by_cases hlt : k < i
            · rw [if_pos hlt, if_neg (fun q => by have := q.2; omega)]; omega
            · rw [if_neg hlt]; omega
        · rw [if_neg (fun q => hpos q.2)]
          by_cases e : k = i
          · subst e
            rw [if_neg (Nat.lt_irrefl k), if_pos rfl]; omega
          · rw [if_neg e]
            by_cases hlt : k < i
            · rw [if_pos hlt]
              by_cases hneg : nv k p < 0
              · rw [if_pos ⟨hs, hneg⟩]; omega
              · rw [if_neg (fun q => hneg q.2)]; omega
            · rw [if_neg hlt]; omega
      · rw [if_neg hg]
        have e : ¬ k = i := fun q => hg (by rw [q]; exact hGi)
        rw [if_neg e]
        have hz : (if k < i then (if S k = true ∧ nv k p < 0 then nv k p else 0) else 0) = 0 := by
          by_cases hlt : k < i
          · rw [if_pos hlt]
            by_cases hq : S k = true ∧ nv k p < 0
            · exact absurd (hG.2.1 i k p hi hlt hp hGi (hS k hk hq.1) htk hq.2) hg
            · rw [if_neg hq]
          · rw [if_neg hlt]
        rw [hz]
        by_cases hq : C k = true ∧ 0 < nv k p
        · rw [if_pos hq]; have := hq.2; omega
        · rw [if_neg hq]; omega
    rw [sm_add, sm_add, sm_upto n (Nat.le_of_lt hi), sm_single (f := fun k => nv k p) n hi] at h1
    have h3 := haf p hp
    omega
/-- a sweep that drops none: the set is good -/
theorem gd_sweep {n : Nat} {th : Nat → Bool} {nv : Nat → Nat → Int} {va fl : Nat → Int} {C : Nat → Bool} (hC : ∀ k, k < n → C k = true → th k = true) (hvf : ∀ p, p < 300 → fl p ≤ va p) (hcan : ∀ i, i < n → C i = true → gd_can th nv fl C (fun p => va p + sm (gd_G nv C p) n + sm (gd_K nv C p) i) i) : gd_good n th nv va fl C := by
  refine ⟨hC, fun i j p hi hj hp hs hth h1 h2 => ?_, fun p hp => ?_⟩
  · cases hc : C j with
    | true => rfl
    | false => exact ((hcan i hi hs p hp h1).1 j hj hth hc h2).elim
  · rw [gd_split]
    have hg : 0 ≤ sm (gd_G nv C p) n := sm_nonneg (fun k _ => by
      unfold gd_G
      by_cases hq : C k = true ∧ 0 < nv k p
      · rw [if_pos hq]; have := hq.2; omega
      · rw [if_neg hq]; omega)
    have key : ∀ i, i ≤ n → fl p ≤ va p + sm (gd_G nv C p) n + sm (gd_K nv C p) i := by
      intro i
      induction i with
      | zero =>
        intro _
        have := hvf p hp
        show fl p ≤ va p + sm (gd_G nv C p) n + 0
        omega
      | succ i ih =>
        intro hi
        have h1 := ih (by omega)
        rw [sm_succ]
        by_cases hq : C i = true ∧ nv i p < 0
        · have h2 := (hcan i (by omega) hq.1 p hp hq.2).2
          have e : gd_K nv C p i = nv i p := if_pos hq
          rw [e]
          have h2 : fl p ≤ va p + sm (gd_G nv C p) n + sm (gd_K nv C p) i + nv i p := h2
          omega
        · have e : gd_K nv C p i = 0 := if_neg hq
          rw [e]
          omega
    have := key n (Nat.le_refl n)
    omega
/-- the reference's end: no position below its floor, none lacks -/
theorem gd_done {n : Nat} {th : Nat → Bool} {nv : Nat → Nat → Int} {va fl : Nat → Int} {S : Nat → Bool} (hS : ∀ k, k < n → S k = true → th k = true) (h1 : ∀ p, p < 300 → fl p ≤ va p + sm (gd_T nv S p) n) (h2 : ∀ i, i < n → S i = true → ∀ j, j < i → th j = true → S j = false → ∀ p, p < 300 → nv i p < 0 → nv j p < 0 → False) : gd_good n th nv va fl S := by
  refine ⟨hS, fun i j p hi hj hp hs hth h3 h4 => ?_, h1⟩
  cases hc : S j with
  | true => rfl
  | false => exact (h2 i hi hs j hj hth hc p hp h3 h4).elim
end
section
/-! SLOTS: an item's nets in slots; the first slot of a position; what the slots say of a position -/
def bI (b : Bool) : Int32 := if b = true then 1 else 0
theorem bI_t : bI true = 1 := rfl
theorem bI_f : bI false = 0 := rfl
theorem bI_z (b : Bool) : (bI b = 0) ↔ b = false := by cases b <;> decide
theorem bI_nz (b : Bool) : (¬ bI b = 0) ↔ b = true := by cases b <;> decide
theorem bI_nar (b : Bool) : vp_nar .boolean (bI b) = bI b := by cases b <;> decide
theorem bI_narrow (b : Bool) : narrow .boolean (.int (bI b)) = .int (bI b) := by cases b <;> decide
theorem bI_fits (b : Bool) : fits .boolean (.int (bI b)) = true := by cases b <;> decide
theorem bI_inj {a b : Bool} : bI a = bI b ↔ a = b := by cases a <;> cases b <;> decide
/-- the first place from k on, of n, that q says; else the end -/
def fs (q : Nat → Bool) : Nat → Nat → Nat
  | 0, k => k
  | n + 1, k => if q k = true then k else fs q n (k + 1)
theorem fs_ge (q : Nat → Bool) : ∀ n k : Nat, k ≤ fs q n k := by
  intro n
  induction n with
  | zero => intro k; exact Nat.le_refl k
  | succ n ih =>
    intro k
    unfold fs
    split
    · exact Nat.le_refl k
    · exact Nat.le_trans (Nat.le_succ k) (ih (k + 1))
theorem fs_le (q : Nat → Bool) : ∀ n k : Nat, fs q n k ≤ k + n := by
  intro n
  induction n with
  | zero => intro k; exact Nat.le_refl k
  | succ n ih =>
    intro k
    unfold fs
    split
    · omega
    · have := ih (k + 1); omega
theorem fs_hit (q : Nat → Bool) : ∀ n k : Nat, fs q n k < k + n → q (fs q n k) = true := by
  intro n
  induction n with
  | zero => intro k h; exact absurd h (by unfold fs; omega)
  | succ n ih =>
    intro k h
    unfold fs at h ⊢
    by_cases e : q k = true
    · rw [if_pos e]; exact e
    · rw [if_neg e] at h ⊢
      exact ih (k + 1) (by omega)
theorem fs_miss (q : Nat → Bool) : ∀ n k j : Nat, k ≤ j → j < fs q n k → q j = false := by
  intro n
  induction n with
  | zero => intro k j h1 h2; unfold fs at h2; omega
  | succ n ih =>
    intro k j h1 h2
    unfold fs at h2
    by_cases e : q k = true
    · rw [if_pos e] at h2; omega
    · rw [if_neg e] at h2
      by_cases ej : j = k
      · subst ej
        cases hq : q j with
        | false => rfl
        | true => exact absurd hq e
      · exact ih (k + 1) j (by omega) h2
theorem fs_congr {q r : Nat → Bool} : ∀ n k : Nat, (∀ j, k ≤ j → j < k + n → q j = r j) → fs q n k = fs r n k := by
  intro n
  induction n with
  | zero => intro k _; rfl
  | succ n ih =>
    intro k h
    unfold fs
    rw [h k (Nat.le_refl k) (by omega), ih (k + 1) (fun j h1 h2 => h j (by omega) (by omega))]
/-- moved by an offset -/
theorem fs_shift {q r : Nat → Bool} (o : Nat) : ∀ n k : Nat, (∀ j, k ≤ j → j < k + n → q (o + j) = r j) → fs q n (o + k) = o + fs r n k := by
  intro n
  induction n with
  | zero => intro k _; rfl
  | succ n ih =>
    intro k h
    unfold fs
    rw [h k (Nat.le_refl k) (by omega)]
    by_cases e : r k = true
    · rw [if_pos e, if_pos e]
    · rw [if_neg e, if_neg e]
      exact ih (k + 1) (fun j h1 h2 => h j (by omega) (by omega))
/-- the net that the slots say -/
def ntq (q : Nat → Bool) (u : Nat) (am : Nat → Int64) : Int64 := if fs q u 0 < u then am (fs q u 0) else 0
def sl_v (ps : Nat → Nat) (am : Nat → Int64) (u p : Nat) : Int := sm (fun k => if ps k = p then (am k).toInt else 0) u
def sl_ok (ps : Nat → Nat) (am : Nat → Int64) (u : Nat) : Prop := u ≤ 16 ∧ (∀ k, k < u → ps k < 300) ∧ (∀ a b, a < u → b < u → ps a = ps b → a = b) ∧ ∀ k, k < u → ¬ am k = 0 ∧ -1000000000000000 ≤ (am k).toInt ∧ (am k).toInt ≤ 1000000000000000
theorem sl_F {ps : Nat → Nat} {g : Nat → Int} {u p : Nat} (F : Int → Int) (h0 : F 0 = 0) (hd : ∀ a b, a < u → b < u → ps a = ps b → a = b) : sm (fun k => if ps k = p then F (g k) else 0) u = F (sm (fun k => if ps k = p then g k else 0) u) := by
  by_cases h : ∃ k, k < u ∧ ps k = p
  · obtain ⟨k, hk, e⟩ := h
    have h1 : ∀ f : Nat → Int, sm (fun j => if ps j = p then f j else 0) u = f k := by
      intro f
      rw [← sm_single (f := f) u hk]
      refine sm_congr (fun j hj => ?_)
      by_cases ej : j = k
      · subst ej; rw [if_pos e, if_pos rfl]
      · rw [if_neg ej, if_neg (fun q => ej (hd j k hj hk (by rw [q, e])))]
    rw [h1, h1]
  · have hn : ∀ k, k < u → ¬ ps k = p := fun k hk q => h ⟨k, hk, q⟩
    rw [sm_zero (fun k hk => if_neg (hn k hk)), sm_zero (fun k hk => if_neg (hn k hk)), h0]
theorem sl_at {ps : Nat → Nat} {am : Nat → Int64} {u k : Nat} (hd : ∀ a b, a < u → b < u → ps a = ps b → a = b) (hk : k < u) : sl_v ps am u (ps k) = (am k).toInt := by
  unfold sl_v
  rw [← sm_single (f := fun j => (am j).toInt) u hk]
  refine sm_congr (fun j hj => ?_)
  by_cases ej : j = k
  · subst ej; rw [if_pos rfl, if_pos rfl]
  · rw [if_neg ej, if_neg (fun q => ej (hd j k hj hk q))]
theorem sl_none {ps : Nat → Nat} {am : Nat → Int64} {u p : Nat} (h : ∀ k, k < u → ¬ ps k = p) : sl_v ps am u p = 0 := sm_zero (fun k hk => if_neg (h k hk))
theorem sl_nt {ps : Nat → Nat} {am : Nat → Int64} {u p : Nat} {q : Nat → Bool} (hd : ∀ a b, a < u → b < u → ps a = ps b → a = b) (hq : ∀ k, k < u → (q k = true ↔ ps k = p)) : (ntq q u am).toInt = sl_v ps am u p := by
  unfold ntq
  have h1 := fs_le q u 0
  by_cases h : fs q u 0 < u
  · rw [if_pos h]
    have h2 := (hq _ h).mp (fs_hit q u 0 (by omega))
    rw [← h2, sl_at hd h]
  · rw [if_neg h, sl_none (fun k hk e => ?_)]
    · rfl
    · have := fs_miss q u 0 k (Nat.zero_le k) (by omega)
      rw [(hq k hk).mpr e] at this
      cases this
theorem sl_bound {ps : Nat → Nat} {am : Nat → Int64} {u p : Nat} (h : sl_ok ps am u) : -1000000000000000 ≤ sl_v ps am u p ∧ sl_v ps am u p ≤ 1000000000000000 := by
  by_cases hx : ∃ k, k < u ∧ ps k = p
  · obtain ⟨k, hk, e⟩ := hx
    rw [← e, sl_at h.2.2.1 hk]
    exact (h.2.2.2 k hk).2
  · rw [sl_none (fun k hk q => hx ⟨k, hk, q⟩)]
    omega
theorem sl_hit {ps : Nat → Nat} {am : Nat → Int64} {u p : Nat} (h : ¬ sl_v ps am u p = 0) : ∃ k, k < u ∧ ps k = p := by
  apply Classical.byContradiction
  intro hx
  exact h (sl_none (fun k hk q => hx ⟨k, hk, q⟩))
theorem sl_congr {ps ps' : Nat → Nat} {am am' : Nat → Int64} {u p : Nat} (h1 : ∀ k, k < u → ps k = ps' k) (h2 : ∀ k, k < u → am k = am' k) : sl_v ps am u p = sl_v ps' am' u p := sm_congr (fun k hk => by rw [h1 k hk, h2 k hk])
theorem i64_add {a b : Int64} (h1 : -9223372036854775808 ≤ a.toInt + b.toInt) (h2 : a.toInt + b.toInt < 9223372036854775808) : (a + b).toInt = a.toInt + b.toInt := by
  rw [Int64.toInt_add]
  exact Int.bmod_eq_of_le (by omega) (by omega)
theorem i64_z {a : Int64} : a = 0 ↔ a.toInt = 0 := by
  rw [← Int64.toInt_inj]
  exact Iff.rfl
theorem i64_lt {a b : Int64} : a < b ↔ a.toInt < b.toInt := Int64.lt_iff_toInt_lt
theorem i64_le {a b : Int64} : a ≤ b ↔ a.toInt ≤ b.toInt := Int64.le_iff_toInt_le
/-- a sum of at most 200 parts of at most 10^15 -/
theorem sm_bound {f : Nat → Int} {n : Nat} (h : ∀ k, k < n → -1000000000000000 ≤ f k ∧ f k ≤ 1000000000000000) : -(1000000000000000 * (n : Int)) ≤ sm f n ∧ sm f n ≤ 1000000000000000 * (n : Int) := by
  induction n with
  | zero => exact ⟨by simp [sm], by simp [sm]⟩
  | succ n ih =>
    have h1 := ih (fun k hk => h k (Nat.lt_succ_of_lt hk))
    have h2 := h n (Nat.lt_succ_self n)
    rw [sm_succ]
    omega
end
section
/-! THE WORLDS: the class's cells, the reference's cells; an item is three cells of a pool -/
abbrev i_ob (a : Nat × Nat × Nat) (t s : Bool) (u : Nat) : Nat × va_E := (a.1, .inr (ciI, [.ref a.2.1, .ref a.2.2, .int (nI u), .int (bI t), .int (bI s)]))
abbrev i_pc (K : Nat → ClassId) (a : Nat × Nat × Nat) (f : Nat → Nat) : Nat × va_E := (a.2.1, .inl (K 1, 16, .inl (fun k => nI (f k))))
abbrev i_ac (K : Nat → ClassId) (a : Nat × Nat × Nat) (f : Nat → Int64) : Nat × va_E := (a.2.2, .inl (K 0, 16, .inr (.inl f)))
/-- there, in the set, slots used; the slots' positions and amounts -/
def it_c (K : Nat → ClassId) (ad : Nat → Nat × Nat × Nat) (T S : Nat → Bool) (us : Nat → Nat) (ps : Nat → Nat → Nat) (am : Nat → Nat → Int64) (j : Nat) : Nat × va_E := if j % 3 = 0 then i_ob (ad (j / 3)) (T (j / 3)) (S (j / 3)) (us (j / 3)) else if j % 3 = 1 then i_pc K (ad (j / 3)) (ps (j / 3)) else i_ac K (ad (j / 3)) (am (j / 3))
def it_w (K : Nat → ClassId) (ad : Nat → Nat × Nat × Nat) (T S : Nat → Bool) (us : Nat → Nat) (ps : Nat → Nat → Nat) (am : Nat → Nat → Int64) (n : Nat) : va_W := (List.range (3 * n)).map (it_c K ad T S us ps am)
theorem up_same {α : Type} (f : Nat → α) (k : Nat) : va_up f k (f k) = f := by
  funext j
  unfold va_up
  by_cases e : j = k
  · rw [if_pos e, e]
  · rw [if_neg e]
section ITW
variable {K : Nat → ClassId} {ad : Nat → Nat × Nat × Nat} {T S T' S' : Nat → Bool} {us us' : Nat → Nat} {ps ps' : Nat → Nat → Nat} {am am' : Nat → Nat → Int64} {n i : Nat}
theorem it_len : (it_w K ad T S us ps am n).length = 3 * n := by simp [it_w]
theorem it_get {j : Nat} (h : j < 3 * n) : (it_w K ad T S us ps am n)[j]? = some (it_c K ad T S us ps am j) := by simp [it_w, h]
theorem it_c0 : it_c K ad T S us ps am (3 * i) = i_ob (ad i) (T i) (S i) (us i) := by
  unfold it_c
  rw [if_pos (by omega), show 3 * i / 3 = i by omega]
theorem it_c1 : it_c K ad T S us ps am (3 * i + 1) = i_pc K (ad i) (ps i) := by
  unfold it_c
  rw [if_neg (by omega), if_pos (by omega), show (3 * i + 1) / 3 = i by omega]
theorem it_c2 : it_c K ad T S us ps am (3 * i + 2) = i_ac K (ad i) (am i) := by
  unfold it_c
  rw [if_neg (by omega), if_neg (by omega), show (3 * i + 2) / 3 = i by omega]
theorem it_set {j : Nat} {v : Nat × va_E} (h : j < 3 * n) (hv : it_c K ad T' S' us' ps' am' j = v) (ho : ∀ k, ¬ k = j → it_c K ad T' S' us' ps' am' k = it_c K ad T S us ps am k) : (it_w K ad T S us ps am n).set j v = it_w K ad T' S' us' ps' am' n := by
  apply List.ext_getElem?
  intro k
  by_cases e : k = j
  · subst e
    rw [List.getElem?_set_self (by rw [it_len]; exact h), it_get h, hv]
  · rw [List.getElem?_set_ne (fun q => e q.symm)]
    by_cases hk : k < 3 * n
    · rw [it_get hk, it_get hk, ho k e]
    · rw [List.getElem?_eq_none (by rw [it_len]; omega), List.getElem?_eq_none (by rw [it_len]; omega)]
theorem it_set0 {t s : Bool} {u : Nat} (hi : i < n) : (it_w K ad T S us ps am n).set (3 * i) (i_ob (ad i) t s u) = it_w K ad (va_up T i t) (va_up S i s) (va_up us i u) ps am n := by
  refine it_set (by omega) (by rw [it_c0, va_up_self, va_up_self, va_up_self]) (fun k hk => ?_)
  unfold it_c
  by_cases e : k / 3 = i
  · rw [if_neg (show ¬ k % 3 = 0 by omega), if_neg (show ¬ k % 3 = 0 by omega)]
  · rw [va_up_ne T t e, va_up_ne S s e, va_up_ne us u e]
theorem it_set1 {f : Nat → Nat} (hi : i < n) : (it_w K ad T S us ps am n).set (3 * i + 1) (i_pc K (ad i) f) = it_w K ad T S us (va_up ps i f) am n := by
  refine it_set (by omega) (by rw [it_c1, va_up_self]) (fun k hk => ?_)
  unfold it_c
  by_cases e : k / 3 = i
  · rw [if_neg (show ¬ k % 3 = 1 by omega), if_neg (show ¬ k % 3 = 1 by omega)]
  · rw [va_up_ne ps f e]
theorem it_set2 {f : Nat → Int64} (hi : i < n) : (it_w K ad T S us ps am n).set (3 * i + 2) (i_ac K (ad i) f) = it_w K ad T S us ps (va_up am i f) n := by
  refine it_set (by omega) (by rw [it_c2, va_up_self]) (fun k hk => ?_)
  unfold it_c
  by_cases e : k / 3 = i
  · by_cases e0 : k % 3 = 0
    · rw [if_pos e0, if_pos e0]
    · rw [if_neg e0, if_neg e0, if_pos (by omega), if_pos (by omega)]
  · rw [va_up_ne am f e]
/-- the pool grows by an item -/
theorem it_push {a : Nat × Nat × Nat} {t s : Bool} {u : Nat} {f : Nat → Nat} {g : Nat → Int64} : it_w K ad T S us ps am n ++ [i_ob a t s u, i_pc K a f, i_ac K a g] = it_w K (va_up ad n a) (va_up T n t) (va_up S n s) (va_up us n u) (va_up ps n f) (va_up am n g) (n + 1) := by
  have h0 : ∀ k, k < 3 * n → it_c K (va_up ad n a) (va_up T n t) (va_up S n s) (va_up us n u) (va_up ps n f) (va_up am n g) k = it_c K ad T S us ps am k := by
    intro k hk
    unfold it_c
    have e : ¬ k / 3 = n := by omega
    rw [va_up_ne ad a e, va_up_ne T t e, va_up_ne S s e, va_up_ne us u e, va_up_ne ps f e, va_up_ne am g e]
  apply List.ext_getElem?
  intro k
  by_cases hk : k < 3 * n
  · rw [List.getElem?_append_left (by rw [it_len]; exact hk), it_get hk, it_get (by omega), h0 k hk]
  · rw [List.getElem?_append_right (by rw [it_len]; omega), it_len]
    by_cases e0 : k = 3 * n
    · subst e0
      rw [it_get (by omega), it_c0, va_up_self, va_up_self, va_up_self, va_up_self, Nat.sub_self]
      rfl
    · by_cases e1 : k = 3 * n + 1
      · subst e1
        rw [it_get (by omega), it_c1, va_up_self, va_up_self, show 3 * n + 1 - 3 * n = 1 by omega]
        rfl
      · by_cases e2 : k = 3 * n + 2
        · subst e2
          rw [it_get (by omega), it_c2, va_up_self, va_up_self, show 3 * n + 2 - 3 * n = 2 by omega]
          rfl
        · rw [List.getElem?_eq_none (by simp; omega), List.getElem?_eq_none (by rw [it_len]; omega)]
end ITW
/-- which object stands in the class's row of items -/
def itf (n : Nat) (ad : Nat → Nat × Nat × Nat) : Nat → Option Nat := fun j => if j < n then some (ad j).1 else none
theorem itf_at {n j : Nat} {ad : Nat → Nat × Nat × Nat} (h : j < n) : itf n ad j = some (ad j).1 := if_pos h
theorem itf_push {n : Nat} {ad : Nat → Nat × Nat × Nat} {a : Nat × Nat × Nat} : va_up (itf n ad) n (some a.1) = itf (n + 1) (va_up ad n a) := by
  funext j
  unfold itf
  by_cases e : j = n
  · subst e
    rw [va_up_self, if_pos (by omega), va_up_self]
  · rw [va_up_ne _ _ e]
    by_cases h : j < n
    · rw [if_pos h, if_pos (by omega), va_up_ne _ _ e]
    · rw [if_neg h, if_neg (by omega)]
/-- the class: six cells, whatever else, the pool -/
def dR (R : va_W) (o : Nat → Nat) (K : Nat → ClassId) (va fl af : Nat → Int64) (bl : Nat → Bool) (im : Nat → Option Nat) (nc tc sc : Nat) (pl : va_W) : va_W :=
  (o 0, .inr (ciD, [.ref (o 1), .ref (o 2), .ref (o 3), .int (nI nc), .int (nI tc), .int (nI sc), .ref (o 4), .ref (o 5)])) ::
  (o 1, .inl (K 0, 300, .inr (.inl va))) :: (o 2, .inl (K 0, 300, .inr (.inl fl))) :: (o 3, .inl (K 3, 200, .inr (.inr (.inr (.inr im))))) ::
  (o 4, .inl (K 0, 300, .inr (.inl af))) :: (o 5, .inl (K 2, 300, .inl (fun k => bI (bl k)))) :: (R ++ pl)
def dW (R : va_W) (o : Nat → Nat) (K : Nat → ClassId) (ad : Nat → Nat × Nat × Nat) (va fl af : Nat → Int64) (bl : Nat → Bool) (n tc sc : Nat) (T S : Nat → Bool) (us : Nat → Nat) (ps : Nat → Nat → Nat) (am : Nat → Nat → Int64) : va_W := dR R o K va fl af bl (itf n ad) n tc sc (it_w K ad T S us ps am n)
/-- the reference: eight cells, whatever else -/
def mW (R : va_W) (o : Nat → Nat) (K : Nat → ClassId) (va fl : Nat → Int64) (n : Nat) (th ch : Nat → Bool) (mn po : Nat → Nat) (am : Nat → Int64) : va_W :=
  (o 0, .inr (ciM, [.ref (o 1), .ref (o 2), .int (nI n), .ref (o 3), .ref (o 4), .ref (o 5), .ref (o 6), .ref (o 7)])) ::
  (o 1, .inl (K 0, 300, .inr (.inl va))) :: (o 2, .inl (K 0, 300, .inr (.inl fl))) :: (o 3, .inl (K 2, 200, .inl (fun k => bI (th k)))) :: (o 4, .inl (K 2, 200, .inl (fun k => bI (ch k)))) ::
  (o 5, .inl (K 1, 200, .inl (fun k => nI (mn k)))) :: (o 6, .inl (K 1, 3200, .inl (fun k => nI (po k)))) :: (o 7, .inl (K 0, 3200, .inr (.inl am))) :: R
section DWL
variable {R : va_W} {o : Nat → Nat} {K : Nat → ClassId} {ad : Nat → Nat × Nat × Nat} {va fl af : Nat → Int64} {bl : Nat → Bool} {n tc sc i : Nat} {T S : Nat → Bool} {us : Nat → Nat} {ps : Nat → Nat → Nat} {am : Nat → Nat → Int64}
theorem dW_pos (j : Nat) (w : va_W) (x0 x1 x2 x3 x4 x5 : Nat × va_E) : (x0 :: x1 :: x2 :: x3 :: x4 :: x5 :: (R ++ w))[6 + (R.length + j)]? = w[j]? := by
  rw [show 6 + (R.length + j) = R.length + j + 1 + 1 + 1 + 1 + 1 + 1 by omega]
  simp only [List.getElem?_cons_succ]
  rw [List.getElem?_append_right (by omega), Nat.add_sub_cancel_left]
theorem dW_upd (j : Nat) (w : va_W) (v x0 x1 x2 x3 x4 x5 : Nat × va_E) : (x0 :: x1 :: x2 :: x3 :: x4 :: x5 :: (R ++ w)).set (6 + (R.length + j)) v = x0 :: x1 :: x2 :: x3 :: x4 :: x5 :: (R ++ w.set j v) := by
  rw [show 6 + (R.length + j) = R.length + j + 1 + 1 + 1 + 1 + 1 + 1 by omega]
  simp only [List.set_cons_succ]
  rw [List.set_append_right _ _ (by omega), Nat.add_sub_cancel_left]
theorem dW_0 (hi : i < n) : (dW R o K ad va fl af bl n tc sc T S us ps am)[6 + (R.length + 3 * i)]? = some (i_ob (ad i) (T i) (S i) (us i)) := by
  refine (dW_pos (3 * i) _ _ _ _ _ _ _).trans ?_
  rw [it_get (by omega), it_c0]
theorem dW_1 (hi : i < n) : (dW R o K ad va fl af bl n tc sc T S us ps am)[6 + (R.length + (3 * i + 1))]? = some (i_pc K (ad i) (ps i)) := by
  refine (dW_pos (3 * i + 1) _ _ _ _ _ _ _).trans ?_
  rw [it_get (by omega), it_c1]
theorem dW_2 (hi : i < n) : (dW R o K ad va fl af bl n tc sc T S us ps am)[6 + (R.length + (3 * i + 2))]? = some (i_ac K (ad i) (am i)) := by
  refine (dW_pos (3 * i + 2) _ _ _ _ _ _ _).trans ?_
  rw [it_get (by omega), it_c2]
theorem dW_s0 {t s : Bool} {u : Nat} (hi : i < n) : (dW R o K ad va fl af bl n tc sc T S us ps am).set (6 + (R.length + 3 * i)) (i_ob (ad i) t s u) = dW R o K ad va fl af bl n tc sc (va_up T i t) (va_up S i s) (va_up us i u) ps am := by
  refine (dW_upd (3 * i) _ _ _ _ _ _ _ _).trans ?_
  rw [it_set0 hi]
  rfl
theorem dW_s1 {f : Nat → Nat} (hi : i < n) : (dW R o K ad va fl af bl n tc sc T S us ps am).set (6 + (R.length + (3 * i + 1))) (i_pc K (ad i) f) = dW R o K ad va fl af bl n tc sc T S us (va_up ps i f) am := by
  refine (dW_upd (3 * i + 1) _ _ _ _ _ _ _ _).trans ?_
  rw [it_set1 hi]
  rfl
theorem dW_s2 {f : Nat → Int64} (hi : i < n) : (dW R o K ad va fl af bl n tc sc T S us ps am).set (6 + (R.length + (3 * i + 2))) (i_ac K (ad i) f) = dW R o K ad va fl af bl n tc sc T S us ps (va_up am i f) := by
  refine (dW_upd (3 * i + 2) _ _ _ _ _ _ _ _).trans ?_
  rw [it_set2 hi]
  rfl
theorem dW_su {u : Nat} (hi : i < n) : (dW R o K ad va fl af bl n tc sc T S us ps am).set (6 + (R.length + 3 * i)) (i_ob (ad i) (T i) (S i) u) = dW R o K ad va fl af bl n tc sc T S (va_up us i u) ps am := by
  have e := dW_s0 (R := R) (o := o) (K := K) (ad := ad) (va := va) (fl := fl) (af := af) (bl := bl) (tc := tc) (sc := sc) (T := T) (S := S) (us := us) (ps := ps) (am := am) (t := T i) (s := S i) (u := u) hi
  rw [up_same T i, up_same S i] at e
  exact e
theorem dW_st {t : Bool} (hi : i < n) : (dW R o K ad va fl af bl n tc sc T S us ps am).set (6 + (R.length + 3 * i)) (i_ob (ad i) t (S i) (us i)) = dW R o K ad va fl af bl n tc sc (va_up T i t) S us ps am := by
  have e := dW_s0 (R := R) (o := o) (K := K) (ad := ad) (va := va) (fl := fl) (af := af) (bl := bl) (tc := tc) (sc := sc) (T := T) (S := S) (us := us) (ps := ps) (am := am) (t := t) (s := S i) (u := us i) hi
  rw [up_same us i, up_same S i] at e
  exact e
theorem dW_ss {t : Bool} (hi : i < n) : (dW R o K ad va fl af bl n tc sc T S us ps am).set (6 + (R.length + 3 * i)) (i_ob (ad i) (T i) t (us i)) = dW R o K ad va fl af bl n tc sc T (va_up S i t) us ps am := by
  have e := dW_s0 (R := R) (o := o) (K := K) (ad := ad) (va := va) (fl := fl) (af := af) (bl := bl) (tc := tc) (sc := sc) (T := T) (S := S) (us := us) (ps := ps) (am := am) (t := T i) (s := t) (u := us i) hi
  rw [up_same us i, up_same T i] at e
  exact e
end DWL
theorem upd_nI (f : Nat → Nat) (k v : Nat) : upd (fun j => nI (f j)) k (nI v) = fun j => nI (va_up f k v j) := by
  funext j
  unfold upd va_up
  by_cases e : j = k
  · rw [if_pos e, if_pos e]
  · rw [if_neg e, if_neg e]
theorem upd_bI (f : Nat → Bool) (k : Nat) (v : Bool) : upd (fun j => bI (f j)) k (vp_nar .boolean (bI v)) = fun j => bI (va_up f k v j) := by
  rw [bI_nar]
  funext j
  unfold upd va_up
  by_cases e : j = k
  · rw [if_pos e, if_pos e]
  · rw [if_neg e, if_neg e]
theorem updL_up (f : Nat → Int64) (k : Nat) (v : Int64) : vp_updL f k v = va_up f k v := rfl
end
section
/-! WHAT THE CLASS'S SEARCH COMPUTES, loop by loop, and what that is -/
def posI (x : Int) : Int := if 0 < x then x else 0
def negI (x : Int) : Int := if x < 0 then x else 0
/-- one item's slots: given, taken, blocked -/
def gv_in (p : Nat → Nat) (a af : Nat → Int64) : Nat → Nat → Int64
  | 0 => af
  | k + 1 => if 0 < a k then va_up (gv_in p a af k) (p k) (gv_in p a af k (p k) + a k) else gv_in p a af k
def tk_in (p : Nat → Nat) (a af : Nat → Int64) : Nat → Nat → Int64
  | 0 => af
  | k + 1 => if a k < 0 then va_up (tk_in p a af k) (p k) (tk_in p a af k (p k) + a k) else tk_in p a af k
def bk_in (p : Nat → Nat) (a : Nat → Int64) (bl : Nat → Bool) : Nat → Nat → Bool
  | 0 => bl
  | k + 1 => if a k < 0 then va_up (bk_in p a bl k) (p k) true else bk_in p a bl k
def gv_out (us : Nat → Nat) (ps : Nat → Nat → Nat) (am : Nat → Nat → Int64) (S : Nat → Bool) (af : Nat → Int64) : Nat → Nat → Int64
  | 0 => af
  | i + 1 => if S i = true then gv_in (ps i) (am i) (gv_out us ps am S af i) (us i) else gv_out us ps am S af i
/-- the rows anew -/
def sr_a (va af : Nat → Int64) : Nat → Nat → Int64
  | 0 => af
  | k + 1 => va_up (sr_a va af k) k (va k)
def sr_b (bl : Nat → Bool) : Nat → Nat → Bool
  | 0 => bl
  | k + 1 => va_up (sr_b bl k) k false
/-- all that are there -/
def st_s (T S : Nat → Bool) : Nat → Nat → Bool
  | 0 => S
  | k + 1 => va_up (st_s T S k) k (T k)
def ct_at (p : Nat → Nat) (a fl af : Nat → Int64) (bl : Nat → Bool) (k : Nat) : Bool := decide (a k < 0) && (bl (p k) || decide (af (p k) + a k < fl (p k)))
def ct (p : Nat → Nat) (a : Nat → Int64) (u : Nat) (fl af : Nat → Int64) (bl : Nat → Bool) : Bool := decide (∀ k, k < u → ct_at p a fl af bl k = false)
/-- the set, the row after, the row blocked, how many -/
abbrev DS : Type := (Nat → Bool) × (Nat → Int64) × (Nat → Bool) × Nat
def dh_step (us : Nat → Nat) (ps : Nat → Nat → Nat) (am : Nat → Nat → Int64) (T : Nat → Bool) (fl : Nat → Int64) (i : Nat) (σ : DS) : DS :=
  if T i = true then
    (if σ.1 i = true ∧ ct (ps i) (am i) (us i) fl σ.2.1 σ.2.2.1 = true then (σ.1, tk_in (ps i) (am i) σ.2.1 (us i), σ.2.2.1, σ.2.2.2)
     else (va_up σ.1 i false, σ.2.1, bk_in (ps i) (am i) σ.2.2.1 (us i), if σ.1 i = true then σ.2.2.2 - 1 else σ.2.2.2))
  else σ
def dh (us : Nat → Nat) (ps : Nat → Nat → Nat) (am : Nat → Nat → Int64) (T : Nat → Bool) (fl : Nat → Int64) (σ : DS) : Nat → DS
  | 0 => σ
  | i + 1 => dh_step us ps am T fl i (dh us ps am T fl σ i)
def swp (us : Nat → Nat) (ps : Nat → Nat → Nat) (am : Nat → Nat → Int64) (T : Nat → Bool) (va fl : Nat → Int64) (n : Nat) (σ : DS) : DS :=
  dh us ps am T fl (σ.1, gv_out us ps am σ.1 (sr_a va σ.2.1 300) n, sr_b σ.2.2.1 300, σ.2.2.2) n
def fg (us : Nat → Nat) (ps : Nat → Nat → Nat) (am : Nat → Nat → Int64) (T : Nat → Bool) (va fl : Nat → Int64) (n : Nat) : Nat → DS → DS
  | 0, σ => σ
  | f + 1, σ => if (swp us ps am T va fl n σ).2.2.2 < σ.2.2.2 then fg us ps am T va fl n f (swp us ps am T va fl n σ) else swp us ps am T va fl n σ
theorem sr_a_at (va af : Nat → Int64) : ∀ k p : Nat, p < k → sr_a va af k p = va p := by
  intro k
  induction k with
  | zero => intro p h; exact absurd h (Nat.not_lt_zero p)
  | succ k ih =>
    intro p h
    unfold sr_a
    by_cases e : p = k
    · subst e; rw [va_up_self]
    · rw [va_up_ne _ _ e]; exact ih p (by omega)
theorem sr_b_at (bl : Nat → Bool) : ∀ k p : Nat, p < k → sr_b bl k p = false := by
  intro k
  induction k with
  | zero => intro p h; exact absurd h (Nat.not_lt_zero p)
  | succ k ih =>
    intro p h
    unfold sr_b
    by_cases e : p = k
    · subst e; rw [va_up_self]
    · rw [va_up_ne _ _ e]; exact ih p (by omega)
theorem st_s_at (T S : Nat → Bool) : ∀ k p : Nat, p < k → st_s T S k p = T p := by
  intro k
  induction k with
  | zero => intro p h; exact absurd h (Nat.not_lt_zero p)
  | succ k ih =>
    intro p h
    unfold st_s
    by_cases e : p = k
    · subst e; rw [va_up_self]
    · rw [va_up_ne _ _ e]; exact ih p (by omega)
theorem posI_b {x : Int} (h : -1000000000000000 ≤ x ∧ x ≤ 1000000000000000) : -1000000000000000 ≤ posI x ∧ posI x ≤ 1000000000000000 := by
  unfold posI; split <;> omega
theorem negI_b {x : Int} (h : -1000000000000000 ≤ x ∧ x ≤ 1000000000000000) : -1000000000000000 ≤ negI x ∧ negI x ≤ 1000000000000000 := by
  unfold negI; split <;> omega
theorem gv_in_v {p : Nat → Nat} {a af : Nat → Int64} {u q : Nat} (hu : u ≤ 16) (ha : ∀ k, k < u → -1000000000000000 ≤ (a k).toInt ∧ (a k).toInt ≤ 1000000000000000) (haf : -5000000000000000000 ≤ (af q).toInt ∧ (af q).toInt ≤ 5000000000000000000) : ∀ k, k ≤ u → (gv_in p a af k q).toInt = (af q).toInt + sm (fun j => if p j = q then posI (a j).toInt else 0) k := by
  intro k
  induction k with
  | zero =>
    intro _
    show (af q).toInt = (af q).toInt + 0
    omega
  | succ k ih =>
    intro hk
    have h1 := ih (by omega)
    have hb := sm_bound (f := fun j => if p j = q then posI (a j).toInt else 0) (n := k) (fun j hj => by
      show -1000000000000000 ≤ (if p j = q then posI (a j).toInt else 0) ∧ (if p j = q then posI (a j).toInt else 0) ≤ 1000000000000000
      split
      · exact posI_b (ha j (by omega))
      · omega)
    have hk1 := ha k (by omega)
    rw [sm_succ]
    unfold gv_in
    by_cases hpos : 0 < a k
    · rw [if_pos hpos]
      have hp' : 0 < (a k).toInt := by
        have := i64_lt.mp hpos
        rw [Int64.toInt_zero] at this
        exact this
      by_cases e : q = p k
      · subst e
        rw [va_up_self, if_pos rfl, i64_add (by omega) (by omega), h1]
        unfold posI
        rw [if_pos hp']
        omega
      · rw [va_up_ne _ _ e, if_neg (fun z => e z.symm), h1]
        omega
    · rw [if_neg hpos, h1]
      have hp' : ¬ 0 < (a k).toInt := fun z => hpos (i64_lt.mpr (by rw [Int64.toInt_zero]; exact z))
      by_cases e : p k = q
      · rw [if_pos e]; unfold posI; rw [if_neg hp']; omega
      · rw [if_neg e]; omega
theorem tk_in_v {p : Nat → Nat} {a af : Nat → Int64} {u q : Nat} (hu : u ≤ 16) (ha : ∀ k, k < u → -1000000000000000 ≤ (a k).toInt ∧ (a k).toInt ≤ 1000000000000000) (haf : -5000000000000000000 ≤ (af q).toInt ∧ (af q).toInt ≤ 5000000000000000000) : ∀ k, k ≤ u → (tk_in p a af k q).toInt = (af q).toInt + sm (fun j => if p j = q then negI (a j).toInt else 0) k := by
  intro k
  induction k with
  | zero =>
    intro _
    show (af q).toInt = (af q).toInt + 0
    omega
  | succ k ih =>
    intro hk
    have h1 := ih (by omega)
    have hb := sm_bound (f := fun j => if p j = q then negI (a j).toInt else 0) (n := k) (fun j hj => by
      show -1000000000000000 ≤ (if p j = q then negI (a j).toInt else 0) ∧ (if p j = q then negI (a j).toInt else 0) ≤ 1000000000000000
      split
      · exact negI_b (ha j (by omega))
      · omega)
    have hk1 := ha k (by omega)
    rw [sm_succ]
    unfold tk_in
    by_cases hpos : a k < 0
    · rw [if_pos hpos]
      have hp' : (a k).toInt < 0 := by
        have := i64_lt.mp hpos
        rw [Int64.toInt_zero] at this
        exact this
      by_cases e : q = p k
      · subst e
        rw [va_up_self, if_pos rfl, i64_add (by omega) (by omega), h1]
        unfold negI
        rw [if_pos hp']
        omega
      · rw [va_up_ne _ _ e, if_neg (fun z => e z.symm), h1]
        omega
    · rw [if_neg hpos, h1]
      have hp' : ¬ (a k).toInt < 0 := fun z => hpos (i64_lt.mpr (by rw [Int64.toInt_zero]; exact z))
      by_cases e : p k = q
      · rw [if_pos e]; unfold negI; rw [if_neg hp']; omega
      · rw [if_neg e]; omega
theorem bk_in_v {p : Nat → Nat} {a : Nat → Int64} {bl : Nat → Bool} {q : Nat} : ∀ k, (bk_in p a bl k q = true ↔ (bl q = true ∨ ∃ j, j < k ∧ p j = q ∧ (a j).toInt < 0)) := by
  intro k
  induction k with
  | zero => exact ⟨fun h => Or.inl h, fun h => h.elim id (fun ⟨j, hj, _⟩ => absurd hj (Nat.not_lt_zero j))⟩
  | succ k ih =>
    unfold bk_in
    by_cases hneg : a k < 0
    · have hp' : (a k).toInt < 0 := by
        have := i64_lt.mp hneg
        rw [Int64.toInt_zero] at this
        exact this
      rw [if_pos hneg]
      by_cases e : q = p k
      · subst e
        rw [va_up_self]
        exact ⟨fun _ => Or.inr ⟨k, Nat.lt_succ_self k, rfl, hp'⟩, fun _ => rfl⟩
      · rw [va_up_ne _ _ e, ih]
        constructor
        · intro h
          rcases h with h | ⟨j, hj, h⟩
          · exact Or.inl h
          · exact Or.inr ⟨j, by omega, h⟩
        · intro h
          rcases h with h | ⟨j, hj, h1, h2⟩
          · exact Or.inl h
          · by_cases ej : j = k
            · subst ej; exact absurd h1.symm e
            · exact Or.inr ⟨j, by omega, h1, h2⟩
    · rw [if_neg hneg, ih]
      have hp' : ¬ (a k).toInt < 0 := fun z => hneg (i64_lt.mpr (by rw [Int64.toInt_zero]; exact z))
      constructor
      · intro h
        rcases h with h | ⟨j, hj, h⟩
        · exact Or.inl h
        · exact Or.inr ⟨j, by omega, h⟩
      · intro h
        rcases h with h | ⟨j, hj, h1, h2⟩
        · exact Or.inl h
        · by_cases ej : j = k
          · subst ej; exact absurd h2 hp'
          · exact Or.inr ⟨j, by omega, h1, h2⟩
/-- the net of item j at q, as the slots say -/
def nvS (us : Nat → Nat) (ps : Nat → Nat → Nat) (am : Nat → Nat → Int64) (j q : Nat) : Int := sl_v (ps j) (am j) (us j) q
theorem gv_in_u {p : Nat → Nat} {a af : Nat → Int64} {u q : Nat} (h : sl_ok p a u) (haf : -5000000000000000000 ≤ (af q).toInt ∧ (af q).toInt ≤ 5000000000000000000) : (gv_in p a af u q).toInt = (af q).toInt + posI (sl_v p a u q) := by
  rw [gv_in_v h.1 (fun k hk => (h.2.2.2 k hk).2) haf u (Nat.le_refl u), sl_F posI (by decide) h.2.2.1]
  rfl
theorem tk_in_u {p : Nat → Nat} {a af : Nat → Int64} {u q : Nat} (h : sl_ok p a u) (haf : -5000000000000000000 ≤ (af q).toInt ∧ (af q).toInt ≤ 5000000000000000000) : (tk_in p a af u q).toInt = (af q).toInt + negI (sl_v p a u q) := by
  rw [tk_in_v h.1 (fun k hk => (h.2.2.2 k hk).2) haf u (Nat.le_refl u), sl_F negI (by decide) h.2.2.1]
  rfl
theorem bk_in_u {p : Nat → Nat} {a : Nat → Int64} {bl : Nat → Bool} {u q : Nat} (h : sl_ok p a u) : (bk_in p a bl u q = true ↔ (bl q = true ∨ sl_v p a u q < 0)) := by
  rw [bk_in_v u]
  constructor
  · intro z
    rcases z with z | ⟨j, hj, h1, h2⟩
    · exact Or.inl z
    · rw [← h1, sl_at h.2.2.1 hj]; exact Or.inr h2
  · intro z
    rcases z with z | z
    · exact Or.inl z
    · obtain ⟨k, hk, e⟩ := sl_hit (ps := p) (am := a) (u := u) (p := q) (by omega)
      rw [← e, sl_at h.2.2.1 hk] at z
      exact Or.inr ⟨k, hk, e, z⟩
theorem ct_u {p : Nat → Nat} {a fl af : Nat → Int64} {bl : Nat → Bool} {u : Nat} (h : sl_ok p a u) (haf : ∀ q, q < 300 → -5000000000000000000 ≤ (af q).toInt ∧ (af q).toInt ≤ 5000000000000000000) : ct p a u fl af bl = true ↔ ∀ q, q < 300 → sl_v p a u q < 0 → bl q = false ∧ (fl q).toInt ≤ (af q).toInt + sl_v p a u q := by
  unfold ct
  rw [decide_eq_true_iff]
  constructor
  · intro hc q hq hneg
    obtain ⟨k, hk, e⟩ := sl_hit (ps := p) (am := a) (u := u) (p := q) (by omega)
    subst e
    rw [sl_at h.2.2.1 hk] at hneg ⊢
    have h1 := hc k hk
    have hb := (h.2.2.2 k hk).2
    have hf := haf (p k) hq
    unfold ct_at at h1
    rw [decide_eq_true (i64_lt.mpr (by rw [Int64.toInt_zero]; exact hneg)), Bool.true_and, Bool.or_eq_false_iff] at h1
    refine ⟨h1.1, ?_⟩
    have h2 := of_decide_eq_false h1.2
    rw [i64_lt, i64_add (by omega) (by omega)] at h2
    omega
  · intro hc k hk
    have hb := (h.2.2.2 k hk).2
    have hf := haf (p k) (h.2.1 k hk)
    unfold ct_at
    by_cases hneg : a k < 0
    · have hp' : (a k).toInt < 0 := by
        have := i64_lt.mp hneg
        rw [Int64.toInt_zero] at this
        exact this
      have h1 := hc (p k) (h.2.1 k hk) (by rw [sl_at h.2.2.1 hk]; exact hp')
      rw [sl_at h.2.2.1 hk] at h1
      rw [h1.1, Bool.false_or, decide_eq_false (p := af (p k) + a k < fl (p k)) (by rw [i64_lt, i64_add (by omega) (by omega)]; have := h1.2; omega), Bool.and_false]
    · rw [decide_eq_false hneg, Bool.false_and]
section SWEEP
variable {us : Nat → Nat} {ps : Nat → Nat → Nat} {am : Nat → Nat → Int64} {T : Nat → Bool} {va fl : Nat → Int64} {n : Nat}
abbrev iV (f : Nat → Int64) : Nat → Int := fun q => (f q).toInt
/-- items' slots are as the document says, values and floors too -/
def cl_ok (us : Nat → Nat) (ps : Nat → Nat → Nat) (am : Nat → Nat → Int64) (va fl : Nat → Int64) (n : Nat) : Prop := n ≤ 200 ∧ (∀ i, i < n → sl_ok (ps i) (am i) (us i)) ∧ ∀ q, q < 300 → -1000000000000000000 ≤ (fl q).toInt ∧ (fl q).toInt ≤ (va q).toInt ∧ (va q).toInt ≤ 1000000000000000000
theorem nv_b (h : cl_ok us ps am va fl n) {i : Nat} (hi : i < n) (q : Nat) : -1000000000000000 ≤ nvS us ps am i q ∧ nvS us ps am i q ≤ 1000000000000000 := sl_bound (h.2.1 i hi)
theorem gG_b (h : cl_ok us ps am va fl n) (S : Nat → Bool) (q : Nat) {i : Nat} (hi : i ≤ n) : -200000000000000000 ≤ sm (gd_G (nvS us ps am) S q) i ∧ sm (gd_G (nvS us ps am) S q) i ≤ 200000000000000000 := by
  have hn := h.1
  have := sm_bound (f := gd_G (nvS us ps am) S q) (n := i) (fun k hk => by
    have := nv_b h (i := k) (by omega) q
    unfold gd_G
    split
    · exact this
    · omega)
  omega
theorem gK_b (h : cl_ok us ps am va fl n) (S : Nat → Bool) (q : Nat) {i : Nat} (hi : i ≤ n) : -200000000000000000 ≤ sm (gd_K (nvS us ps am) S q) i ∧ sm (gd_K (nvS us ps am) S q) i ≤ 200000000000000000 := by
  have hn := h.1
  have := sm_bound (f := gd_K (nvS us ps am) S q) (n := i) (fun k hk => by
    have := nv_b h (i := k) (by omega) q
    unfold gd_K
    split
    · exact this
    · omega)
  omega
theorem gT_b (h : cl_ok us ps am va fl n) (S : Nat → Bool) (q : Nat) {i : Nat} (hi : i ≤ n) : -200000000000000000 ≤ sm (gd_T (nvS us ps am) S q) i ∧ sm (gd_T (nvS us ps am) S q) i ≤ 200000000000000000 := by
  have hn := h.1
  have := sm_bound (f := gd_T (nvS us ps am) S q) (n := i) (fun k hk => by
    have := nv_b h (i := k) (by omega) q
    unfold gd_T
    split
    · exact this
    · omega)
  omega
theorem gv_out_v (h : cl_ok us ps am va fl n) {S : Nat → Bool} {af : Nat → Int64} {q : Nat} (haf : -1000000000000000000 ≤ (af q).toInt ∧ (af q).toInt ≤ 1000000000000000000) : ∀ i, i ≤ n → (gv_out us ps am S af i q).toInt = (af q).toInt + sm (gd_G (nvS us ps am) S q) i := by
  intro i
  induction i with
  | zero =>
    intro _
    show (af q).toInt = (af q).toInt + 0
    omega
  | succ i ih =>
    intro hi
    have h1 := ih (by omega)
    have hb := gG_b h S q (i := i) (by omega)
    rw [sm_succ]
    unfold gv_out
    by_cases hs : S i = true
    · rw [if_pos hs, gv_in_u (h.2.1 i (by omega)) (by omega), h1]
      unfold gd_G posI nvS
      by_cases hp : 0 < sl_v (ps i) (am i) (us i) q
      · rw [if_pos hp, if_pos ⟨hs, hp⟩]; omega
      · rw [if_neg hp, if_neg (fun z => hp z.2)]; omega
    · rw [if_neg hs, h1]
      unfold gd_G
      rw [if_neg (fun z => hs z.1)]
      omega
/-- what holds at item i of a sweep that began with the set C, n items -/
def sw_inv (us : Nat → Nat) (ps : Nat → Nat → Nat) (am : Nat → Nat → Int64) (T : Nat → Bool) (va fl : Nat → Int64) (n : Nat) (C : Nat → Bool) (i : Nat) (σ : DS) : Prop :=
  (∀ k, k < n → σ.1 k = true → C k = true) ∧ gd_sub n T (nvS us ps am) (iV va) (iV fl) σ.1 ∧
  (∀ q, q < 300 → (σ.2.1 q).toInt = (va q).toInt + sm (gd_G (nvS us ps am) C q) n + sm (gd_K (nvS us ps am) σ.1 q) i) ∧
  (∀ q, q < 300 → (σ.2.2.1 q = true ↔ ∃ j, j < i ∧ T j = true ∧ σ.1 j = false ∧ nvS us ps am j q < 0)) ∧
  σ.2.2.2 = cn σ.1 n ∧
  (σ.2.2.2 < cn C n ∨ ((∀ k, k < n → σ.1 k = C k) ∧ ∀ j, j < i → C j = true → gd_can T (nvS us ps am) (iV fl) C (fun q => (va q).toInt + sm (gd_G (nvS us ps am) C q) n + sm (gd_K (nvS us ps am) C q) j) j))
theorem gK_off {nv : Nat → Nat → Int} {S : Nat → Bool} {q i : Nat} {b : Bool} : sm (gd_K nv (va_up S i b) q) i = sm (gd_K nv S q) i := sm_congr (fun k hk => by unfold gd_K; rw [va_up_ne S b (Nat.ne_of_lt hk)])
theorem sw_step (h : cl_ok us ps am va fl n) {C : Nat → Bool} (hCT : ∀ k, k < n → C k = true → T k = true) {i : Nat} (hi : i < n) {σ : DS} (I : sw_inv us ps am T va fl n C i σ) : sw_inv us ps am T va fl n C (i + 1) (dh_step us ps am T fl i σ) := by
  obtain ⟨h1, h2, h3, h4, h5, h6⟩ := I
  have hok := h.2.1 i hi
  have hvb : ∀ q, q < 300 → -5000000000000000000 ≤ (σ.2.1 q).toInt ∧ (σ.2.1 q).toInt ≤ 5000000000000000000 := by
    intro q hq
    have a1 := gG_b h C q (Nat.le_refl n)
    have a2 := gK_b h σ.1 q (i := i) (Nat.le_of_lt hi)
    have a3 := h.2.2 q hq
    have a4 := h3 q hq
    omega
  have hST : ∀ k, k < n → σ.1 k = true → T k = true := fun k hk hs => hCT k hk (h1 k hk hs)
  unfold dh_step
  by_cases hT : T i = true
  · rw [if_pos hT]
    by_cases hc : σ.1 i = true ∧ ct (ps i) (am i) (us i) fl σ.2.1 σ.2.2.1 = true
    · rw [if_pos hc]
      refine ⟨h1, h2, fun q hq => ?_, fun q hq => ?_, h5, ?_⟩
      · show (tk_in (ps i) (am i) σ.2.1 (us i) q).toInt = (va q).toInt + sm (gd_G (nvS us ps am) C q) n + sm (gd_K (nvS us ps am) σ.1 q) (i + 1)
        rw [tk_in_u hok (hvb q hq), h3 q hq, sm_succ]
        have e : gd_K (nvS us ps am) σ.1 q i = negI (sl_v (ps i) (am i) (us i) q) := by
          unfold gd_K negI nvS
          by_cases hn : sl_v (ps i) (am i) (us i) q < 0
          · rw [if_pos hn, if_pos ⟨hc.1, hn⟩]
          · rw [if_neg hn, if_neg (fun z => hn z.2)]
        rw [e]
        omega
      · show σ.2.2.1 q = true ↔ _
        rw [h4 q hq]
        constructor
        · intro ⟨j, hj, z⟩
          exact ⟨j, by omega, z⟩
        · intro ⟨j, hj, z1, z2, z3⟩
          by_cases e : j = i
          · subst e; rw [hc.1] at z2; cases z2
          · exact ⟨j, by omega, z1, z2, z3⟩
      · show σ.2.2.2 < cn C n ∨ _
        rcases h6 with h6 | ⟨h6, h7⟩
        · exact Or.inl h6
        · refine Or.inr ⟨h6, fun j hj hCj => ?_⟩
          by_cases e : j = i
          · subst e
            intro q hq hneg
            have hct := (ct_u hok hvb).mp hc.2 q hq hneg
            refine ⟨fun k hk hTk hCk hkn => ?_, ?_⟩
            · have : σ.2.2.1 q = true := (h4 q hq).mpr ⟨k, hk, hTk, by rw [h6 k (by omega)]; exact hCk, hkn⟩
              rw [hct.1] at this
              cases this
            · have e3 := h3 q hq
              have e4 : sm (gd_K (nvS us ps am) σ.1 q) j = sm (gd_K (nvS us ps am) C q) j := sm_congr (fun k hk => by unfold gd_K; rw [h6 k (by omega)])
              rw [e4] at e3
              have e5 := hct.2
              show (fl q).toInt ≤ (va q).toInt + sm (gd_G (nvS us ps am) C q) n + sm (gd_K (nvS us ps am) C q) j + nvS us ps am j q
              rw [← e3]
              exact e5
          · exact h7 j (by omega) hCj
    · rw [if_neg hc]
      have hsub : gd_sub n T (nvS us ps am) (iV va) (iV fl) (va_up σ.1 i false) := by
        by_cases hs : σ.1 i = true
        · refine gd_drop (C := C) (af := fun q => (σ.2.1 q).toInt) hST h1 h2 hi h3 (fun hcan => hc ⟨hs, (ct_u hok hvb).mpr (fun q hq hneg => ?_)⟩)
          obtain ⟨c1, c2⟩ := hcan q hq hneg
          refine ⟨?_, c2⟩
          cases hb : σ.2.2.1 q with
          | false => rfl
          | true =>
            obtain ⟨j, hj, z1, z2, z3⟩ := (h4 q hq).mp hb
            exact (c1 j hj z1 z2 z3).elim
        · have e : va_up σ.1 i false = σ.1 := by
            have e0 : σ.1 i = false := by
              cases hz : σ.1 i with
              | false => rfl
              | true => exact absurd hz hs
            rw [← e0]
            exact up_same σ.1 i
          rw [e]
          exact h2
      refine ⟨fun k hk hs => ?_, hsub, fun q hq => ?_, fun q hq => ?_, ?_, ?_⟩
      · by_cases e : k = i
        · subst e
          have hs : va_up σ.1 k false k = true := hs
          rw [va_up_self] at hs
          cases hs
        · have hs : va_up σ.1 i false k = true := hs
          rw [va_up_ne _ _ e] at hs
          exact h1 k hk hs
      · show (σ.2.1 q).toInt = _ + sm (gd_K (nvS us ps am) (va_up σ.1 i false) q) (i + 1)
        rw [sm_succ, gK_off]
        have e : gd_K (nvS us ps am) (va_up σ.1 i false) q i = 0 := by
          unfold gd_K
          rw [va_up_self]
          exact if_neg (fun z => by cases z.1)
        rw [e, h3 q hq]
        omega
      · show bk_in (ps i) (am i) σ.2.2.1 (us i) q = true ↔ ∃ j, j < i + 1 ∧ T j = true ∧ va_up σ.1 i false j = false ∧ nvS us ps am j q < 0
        rw [bk_in_u hok, h4 q hq]
        constructor
        · intro z
          rcases z with ⟨j, hj, z1, z2, z3⟩ | z
          · exact ⟨j, by omega, z1, by rw [va_up_ne _ _ (by omega)]; exact z2, z3⟩
          · exact ⟨i, by omega, hT, va_up_self _ _ _, z⟩
        · intro ⟨j, hj, z1, z2, z3⟩
          by_cases e : j = i
          · subst e; exact Or.inr z3
          · rw [va_up_ne _ _ e] at z2
            exact Or.inl ⟨j, by omega, z1, z2, z3⟩
      · show (if σ.1 i = true then σ.2.2.2 - 1 else σ.2.2.2) = cn (va_up σ.1 i false) n
        by_cases hs : σ.1 i = true
        · rw [if_pos hs]
          have := cn_off n hi hs
          omega
        · rw [if_neg hs, h5]
          exact cn_congr (fun k hk => by
            by_cases e : k = i
            · subst e
              rw [va_up_self]
              cases hz : σ.1 k with
              | false => rfl
              | true => exact absurd hz hs
            · rw [va_up_ne _ _ e])
      · show (if σ.1 i = true then σ.2.2.2 - 1 else σ.2.2.2) < cn C n ∨ _
        by_cases hs : σ.1 i = true
        · rw [if_pos hs]
          have hpos := cn_pos (n := n) hi hs
          rcases h6 with h6 | ⟨h6, h7⟩
          · exact Or.inl (by omega)
          · have := cn_congr h6
            exact Or.inl (by omega)
        · rw [if_neg hs]
          rcases h6 with h6 | ⟨h6, h7⟩
          · exact Or.inl h6
          · refine Or.inr ⟨fun k hk => ?_, fun j hj hCj => ?_⟩
            · show va_up σ.1 i false k = C k
              by_cases e : k = i
              · subst e
                rw [va_up_self, ← h6 k hk]
                cases hz : σ.1 k with
                | false => rfl
                | true => exact absurd hz hs
              · rw [va_up_ne _ _ e]; exact h6 k hk
            · by_cases e : j = i
              · subst e
                rw [← h6 j hi] at hCj
                exact absurd hCj hs
              · exact h7 j (by omega) hCj
  · rw [if_neg hT]
    have hsF : σ.1 i = false := by
      cases hz : σ.1 i with
      | false => rfl
      | true => exact absurd (hST i hi hz) hT
    refine ⟨h1, h2, fun q hq => ?_, fun q hq => ?_, h5, ?_⟩
    · have e : gd_K (nvS us ps am) σ.1 q i = 0 := if_neg (fun z => by rw [hsF] at z; cases z.1)
      rw [sm_succ, e, h3 q hq]
      omega
    · rw [h4 q hq]
      constructor
      · intro ⟨j, hj, z⟩
        exact ⟨j, by omega, z⟩
      · intro ⟨j, hj, z1, z⟩
        by_cases e : j = i
        · subst e; exact absurd z1 hT
        · exact ⟨j, by omega, z1, z⟩
    · rcases h6 with h6 | ⟨h6, h7⟩
      · exact Or.inl h6
      · refine Or.inr ⟨h6, fun j hj hCj => ?_⟩
        by_cases e : j = i
        · subst e; exact absurd (hCT j hi hCj) hT
        · exact h7 j (by omega) hCj
/-- what holds of a state between sweeps -/
def fg_inv (us : Nat → Nat) (ps : Nat → Nat → Nat) (am : Nat → Nat → Int64) (T : Nat → Bool) (va fl : Nat → Int64) (n : Nat) (σ : DS) : Prop := (∀ k, k < n → σ.1 k = true → T k = true) ∧ gd_sub n T (nvS us ps am) (iV va) (iV fl) σ.1 ∧ σ.2.2.2 = cn σ.1 n
theorem sw_start (h : cl_ok us ps am va fl n) {σ : DS} (I : fg_inv us ps am T va fl n σ) : sw_inv us ps am T va fl n σ.1 0 (σ.1, gv_out us ps am σ.1 (sr_a va σ.2.1 300) n, sr_b σ.2.2.1 300, σ.2.2.2) := by
  obtain ⟨h1, h2, h3⟩ := I
  refine ⟨fun k hk hs => hs, h2, fun q hq => ?_, fun q hq => ?_, h3, Or.inr ⟨fun k hk => rfl, fun j hj => absurd hj (Nat.not_lt_zero j)⟩⟩
  · show (gv_out us ps am σ.1 (sr_a va σ.2.1 300) n q).toInt = (va q).toInt + sm (gd_G (nvS us ps am) σ.1 q) n + 0
    have e := sr_a_at va σ.2.1 300 q hq
    have hb := h.2.2 q hq
    rw [gv_out_v h (by rw [e]; omega) n (Nat.le_refl n), e]
    omega
  · show sr_b σ.2.2.1 300 q = true ↔ _
    rw [sr_b_at σ.2.2.1 300 q hq]
    exact ⟨fun z => (by cases z), fun ⟨j, hj, _⟩ => absurd hj (Nat.not_lt_zero j)⟩
theorem sw_all (h : cl_ok us ps am va fl n) {σ : DS} (I : fg_inv us ps am T va fl n σ) : ∀ i, i ≤ n → sw_inv us ps am T va fl n σ.1 i (dh us ps am T fl (σ.1, gv_out us ps am σ.1 (sr_a va σ.2.1 300) n, sr_b σ.2.2.1 300, σ.2.2.2) i) := by
  intro i
  induction i with
  | zero => intro _; exact sw_start h I
  | succ i ih => intro hi; exact sw_step h I.1 (by omega) (ih (by omega))
/-- what the search leaves -/
def fg_end (us : Nat → Nat) (ps : Nat → Nat → Nat) (am : Nat → Nat → Int64) (T : Nat → Bool) (va fl : Nat → Int64) (n : Nat) (σ : DS) : Prop := gd_good n T (nvS us ps am) (iV va) (iV fl) σ.1 ∧ gd_sub n T (nvS us ps am) (iV va) (iV fl) σ.1 ∧ σ.2.2.2 = cn σ.1 n ∧ ∀ q, q < 300 → (σ.2.1 q).toInt = (va q).toInt + sm (gd_T (nvS us ps am) σ.1 q) n
theorem sw_next (h : cl_ok us ps am va fl n) {σ : DS} (I : fg_inv us ps am T va fl n σ) : fg_inv us ps am T va fl n (swp us ps am T va fl n σ) ∧ (¬ (swp us ps am T va fl n σ).2.2.2 < σ.2.2.2 → fg_end us ps am T va fl n (swp us ps am T va fl n σ)) := by
  have h0 := sw_all h I n (Nat.le_refl n)
  generalize hσ : swp us ps am T va fl n σ = τ
  have h0 : sw_inv us ps am T va fl n σ.1 n τ := by rw [← hσ]; exact h0
  obtain ⟨h1, h2, h3, h4, h5, h6⟩ := h0
  have hT : ∀ k, k < n → τ.1 k = true → T k = true := fun k hk hs => I.1 k hk (h1 k hk hs)
  refine ⟨⟨hT, h2, h5⟩, fun hno => ?_⟩
  rcases h6 with h6 | ⟨h6, h7⟩
  · rw [← I.2.2] at h6; exact absurd h6 hno
  · have hg : gd_good n T (nvS us ps am) (iV va) (iV fl) σ.1 := gd_sweep I.1 (fun p hp => (h.2.2 p hp).2.1) h7
    refine ⟨gd_good_congr (fun _ _ => rfl) (fun _ _ _ _ => rfl) (fun _ _ => rfl) (fun _ _ => rfl) (fun k hk => (h6 k hk).symm) hg, h2, h5, fun q hq => ?_⟩
    rw [h3 q hq, gd_split, sm_congr (f := gd_G (nvS us ps am) σ.1 q) (g := gd_G (nvS us ps am) τ.1 q) (fun k hk => by unfold gd_G; rw [h6 k hk])]
    omega
theorem fg_all (h : cl_ok us ps am va fl n) : ∀ (f : Nat) (σ : DS), fg_inv us ps am T va fl n σ → σ.2.2.2 < f → fg_end us ps am T va fl n (fg us ps am T va fl n f σ) := by
  intro f
  induction f with
  | zero => intro σ _ hf; exact absurd hf (Nat.not_lt_zero _)
  | succ f ih =>
    intro σ I hf
    obtain ⟨h1, h2⟩ := sw_next h I
    unfold fg
    by_cases hlt : (swp us ps am T va fl n σ).2.2.2 < σ.2.2.2
    · rw [if_pos hlt]
      exact ih _ h1 (by omega)
    · rw [if_neg hlt]
      exact h2 hlt
/-- the search from its start -/
theorem fg_start (S af bl) {tc : Nat} (htc : tc = cn T n) : fg_inv us ps am T va fl n (st_s T S n, af, bl, tc) := by
  have e : ∀ k, k < n → st_s T S n k = T k := fun k hk => st_s_at T S n k hk
  refine ⟨fun k hk hs => ?_, fun G hG i hi hg => ?_, ?_⟩
  · rw [← e k hk]; exact hs
  · show st_s T S n i = true
    rw [e i hi]
    exact hG.1 i hi hg
  · show tc = cn (st_s T S n) n
    rw [htc]
    exact (cn_congr e).symm
end SWEEP
end
section
/-! WHAT THE REFERENCE'S SEARCH COMPUTES, loop by loop, and what that is -/
abbrev psM (po : Nat → Nat) : Nat → Nat → Nat := fun i k => po (16 * i + k)
abbrev amM (am : Nat → Int64) : Nat → Nat → Int64 := fun i k => am (16 * i + k)
def mq (po : Nat → Nat) (p : Nat) : Nat → Bool := fun k => decide (po k = p)
def mfd (mn po : Nat → Nat) (i p : Nat) : Nat := fs (mq po p) (mn i) (16 * i)
def netA (mn po : Nat → Nat) (am : Nat → Int64) (i p : Nat) : Int64 := if mfd mn po i p < 16 * i + mn i then am (mfd mn po i p) else 0
def m_tot (mn po : Nat → Nat) (am va : Nat → Int64) (ch : Nat → Bool) (p : Nat) : Nat → Int64
  | 0 => va p
  | i + 1 => m_tot mn po am va ch p i + (if ch i = true then netA mn po am i p else 0)
def m_last (mn po : Nat → Nat) (am : Nat → Int64) (ch : Nat → Bool) (p : Nat) : Nat → Int32
  | 0 => -1
  | i + 1 => if ch i = true ∧ netA mn po am i p < 0 then nI i else m_last mn po am ch p i
def m_meet (mn po : Nat → Nat) (am : Nat → Int64) (a b : Nat) : Nat → Bool
  | 0 => false
  | k + 1 => m_meet mn po am a b k || (decide (am (16 * a + k) < 0) && decide (netA mn po am b (po (16 * a + k)) < 0))
def m_lack (mn po : Nat → Nat) (am : Nat → Int64) (T ch : Nat → Bool) (i : Nat) : Nat → Bool
  | 0 => false
  | j + 1 => m_lack mn po am T ch i j || (T j && (!ch j && m_meet mn po am j i (mn j)))
abbrev CB : Type := (Nat → Bool) × Bool
def m_p1 (mn po : Nat → Nat) (am va fl : Nat → Int64) (n : Nat) (ch : Nat → Bool) : Nat → CB
  | 0 => (ch, false)
  | p + 1 => if m_tot mn po am va (m_p1 mn po am va fl n ch p).1 p n < fl p then (va_up (m_p1 mn po am va fl n ch p).1 (m_last mn po am (m_p1 mn po am va fl n ch p).1 p n).toNatClampNeg false, true) else m_p1 mn po am va fl n ch p
def m_p2 (mn po : Nat → Nat) (am : Nat → Int64) (T : Nat → Bool) (σ : CB) : Nat → CB
  | 0 => σ
  | i + 1 => if (m_p2 mn po am T σ i).1 i = true ∧ m_lack mn po am T (m_p2 mn po am T σ i).1 i i = true then (va_up (m_p2 mn po am T σ i).1 i false, true) else m_p2 mn po am T σ i
def m_it (mn po : Nat → Nat) (am va fl : Nat → Int64) (n : Nat) (T ch : Nat → Bool) : CB := m_p2 mn po am T (m_p1 mn po am va fl n ch 300) n
theorem netA_v {mn po : Nat → Nat} {am : Nat → Int64} {i p : Nat} (hd : ∀ a b, a < mn i → b < mn i → psM po i a = psM po i b → a = b) : (netA mn po am i p).toInt = nvS mn (psM po) (amM am) i p := by
  have e : mfd mn po i p = 16 * i + fs (fun k => decide (psM po i k = p)) (mn i) 0 := by
    unfold mfd
    exact fs_shift (q := mq po p) (r := fun k => decide (psM po i k = p)) (16 * i) (mn i) 0 (fun j _ _ => rfl)
  have h := sl_nt (ps := psM po i) (am := amM am i) (u := mn i) (p := p) (q := fun k => decide (psM po i k = p)) hd (fun k _ => decide_eq_true_iff)
  unfold nvS
  rw [← h]
  unfold netA ntq
  rw [e]
  by_cases hlt : fs (fun k => decide (psM po i k = p)) (mn i) 0 < mn i
  · rw [if_pos hlt, if_pos (by omega)]
  · rw [if_neg hlt, if_neg (by omega)]
section MODEL
variable {mn po : Nat → Nat} {am va fl : Nat → Int64} {n : Nat} {T : Nat → Bool}
theorem m_net (h : cl_ok mn (psM po) (amM am) va fl n) {i : Nat} (hi : i < n) (p : Nat) : (netA mn po am i p).toInt = nvS mn (psM po) (amM am) i p := netA_v (h.2.1 i hi).2.2.1
theorem m_neg (h : cl_ok mn (psM po) (amM am) va fl n) {i : Nat} (hi : i < n) (p : Nat) : netA mn po am i p < 0 ↔ nvS mn (psM po) (amM am) i p < 0 := by
  rw [i64_lt, m_net h hi, Int64.toInt_zero]
theorem m_tot_v (h : cl_ok mn (psM po) (amM am) va fl n) (ch : Nat → Bool) {p : Nat} (hp : p < 300) : ∀ i, i ≤ n → (m_tot mn po am va ch p i).toInt = (va p).toInt + sm (gd_T (nvS mn (psM po) (amM am)) ch p) i := by
  intro i
  induction i with
  | zero =>
    intro _
    show (va p).toInt = (va p).toInt + 0
    omega
  | succ i ih =>
    intro hi
    have h1 := ih (by omega)
    have hb := gT_b h ch p (i := i) (by omega)
    have hv := h.2.2 p hp
    have hn := nv_b h (i := i) (by omega) p
    have e := m_net h (i := i) (by omega) p
    rw [sm_succ]
    unfold m_tot gd_T
    by_cases hc : ch i = true
    · rw [if_pos hc, if_pos hc, i64_add (by rw [h1, e]; omega) (by rw [h1, e]; omega), h1, e]
      unfold gd_T
      omega
    · rw [if_neg hc, if_neg hc, i64_add (by rw [h1, Int64.toInt_zero]; omega) (by rw [h1, Int64.toInt_zero]; omega), h1, Int64.toInt_zero]
      unfold gd_T
      omega
theorem m_last_v (h : cl_ok mn (psM po) (amM am) va fl n) (ch : Nat → Bool) (p : Nat) : ∀ i, i ≤ n → (∀ t, t < i → ch t = true → nvS mn (psM po) (amM am) t p < 0 → False) ∨ ∃ t, t < i ∧ ch t = true ∧ nvS mn (psM po) (amM am) t p < 0 ∧ m_last mn po am ch p i = nI t ∧ ∀ j, t < j → j < i → ch j = true → nvS mn (psM po) (amM am) j p < 0 → False := by
  intro i
  induction i with
  | zero => intro _; exact Or.inl (fun t ht => absurd ht (Nat.not_lt_zero t))
  | succ i ih =>
    intro hi
    unfold m_last
    by_cases hc : ch i = true ∧ netA mn po am i p < 0
    · rw [if_pos hc]
      exact Or.inr ⟨i, Nat.lt_succ_self i, hc.1, (m_neg h (by omega) p).mp hc.2, rfl, fun j h1 h2 => absurd h1 (by omega)⟩
    · rw [if_neg hc]
      have hno : ch i = true → nvS mn (psM po) (amM am) i p < 0 → False := fun a b => hc ⟨a, (m_neg h (by omega) p).mpr b⟩
      rcases ih (by omega) with h1 | ⟨t, ht, a1, a2, a3, a4⟩
      · refine Or.inl (fun t ht => ?_)
        by_cases e : t = i
        · subst e; exact hno
        · exact h1 t (by omega)
      · refine Or.inr ⟨t, by omega, a1, a2, a3, fun j h1 h2 => ?_⟩
        by_cases e : j = i
        · subst e; exact hno
        · exact a4 j h1 (by omega)
/-- below its floor: the last taker is an item of the set -/
theorem m_last_in (h : cl_ok mn (psM po) (amM am) va fl n) (ch : Nat → Bool) {p : Nat} (hp : p < 300) (hlow : m_tot mn po am va ch p n < fl p) : ∃ t, t < n ∧ ch t = true ∧ nvS mn (psM po) (amM am) t p < 0 ∧ m_last mn po am ch p n = nI t ∧ ∀ j, t < j → j < n → ch j = true → nvS mn (psM po) (amM am) j p < 0 → False := by
  rcases m_last_v h ch p n (Nat.le_refl n) with h1 | h1
  · rw [i64_lt, m_tot_v h ch hp n (Nat.le_refl n)] at hlow
    exact (gd_taker (va := iV va) (fl := iV fl) (h.2.2 p hp).2.1 hlow h1).elim
  · exact h1
theorem m_meet_v (h : cl_ok mn (psM po) (amM am) va fl n) {a b : Nat} (hb : b < n) : ∀ k, (m_meet mn po am a b k = true ↔ ∃ j, j < k ∧ (amM am a j).toInt < 0 ∧ nvS mn (psM po) (amM am) b (psM po a j) < 0) := by
  intro k
  induction k with
  | zero => exact ⟨fun z => (by cases z), fun ⟨j, hj, _⟩ => absurd hj (Nat.not_lt_zero j)⟩
  | succ k ih =>
    unfold m_meet
    rw [Bool.or_eq_true, ih, Bool.and_eq_true, decide_eq_true_iff, decide_eq_true_iff, m_neg h hb, i64_lt, Int64.toInt_zero]
    constructor
    · intro z
      rcases z with ⟨j, hj, z⟩ | z
      · exact ⟨j, by omega, z⟩
      · exact ⟨k, Nat.lt_succ_self k, z⟩
    · intro ⟨j, hj, z⟩
      by_cases e : j = k
      · subst e; exact Or.inr z
      · exact Or.inl ⟨j, by omega, z⟩
theorem m_meet_u (h : cl_ok mn (psM po) (amM am) va fl n) {a b : Nat} (ha : a < n) (hb : b < n) : m_meet mn po am a b (mn a) = true ↔ ∃ q, q < 300 ∧ nvS mn (psM po) (amM am) a q < 0 ∧ nvS mn (psM po) (amM am) b q < 0 := by
  have hok := h.2.1 a ha
  rw [m_meet_v h hb]
  constructor
  · intro ⟨j, hj, z1, z2⟩
    refine ⟨psM po a j, hok.2.1 j hj, ?_, z2⟩
    unfold nvS
    rw [sl_at hok.2.2.1 hj]
    exact z1
  · intro ⟨q, hq, z1, z2⟩
    obtain ⟨k, hk, e⟩ := sl_hit (ps := psM po a) (am := amM am a) (u := mn a) (p := q) (fun z => by
      have : nvS mn (psM po) (amM am) a q = 0 := z
      omega)
    refine ⟨k, hk, ?_, by rw [e]; exact z2⟩
    have z1 : sl_v (psM po a) (amM am a) (mn a) q < 0 := z1
    rw [← e, sl_at hok.2.2.1 hk] at z1
    exact z1
theorem m_lack_v (h : cl_ok mn (psM po) (amM am) va fl n) (ch : Nat → Bool) {i : Nat} (hi : i < n) : ∀ j, j ≤ i → (m_lack mn po am T ch i j = true ↔ ∃ k, k < j ∧ T k = true ∧ ch k = false ∧ ∃ q, q < 300 ∧ nvS mn (psM po) (amM am) k q < 0 ∧ nvS mn (psM po) (amM am) i q < 0) := by
  intro j
  induction j with
  | zero => intro _; exact ⟨fun z => (by cases z), fun ⟨j, hj, _⟩ => absurd hj (Nat.not_lt_zero j)⟩
  | succ j ih =>
    intro hj
    unfold m_lack
    rw [Bool.or_eq_true, ih (by omega), Bool.and_eq_true, Bool.and_eq_true, m_meet_u h (by omega) hi, Bool.not_eq_true']
    constructor
    · intro z
      rcases z with ⟨k, hk, z⟩ | ⟨z1, z2, z3⟩
      · exact ⟨k, by omega, z⟩
      · exact ⟨j, Nat.lt_succ_self j, z1, z2, z3⟩
    · intro ⟨k, hk, z⟩
      by_cases e : k = j
      · subst e; exact Or.inr ⟨z.1, z.2.1, z.2.2⟩
      · exact Or.inl ⟨k, by omega, z⟩
/-- what holds of the reference's set at all times -/
def ms_inv (mn po : Nat → Nat) (am va fl : Nat → Int64) (n : Nat) (T ch : Nat → Bool) : Prop := (∀ k, k < n → ch k = true → T k = true) ∧ gd_sub n T (nvS mn (psM po) (amM am)) (iV va) (iV fl) ch ∧ ∀ k, n ≤ k → ch k = false
theorem ms_off {ch : Nat → Bool} {t : Nat} (I : ms_inv mn po am va fl n T ch) (hs : gd_sub n T (nvS mn (psM po) (amM am)) (iV va) (iV fl) (va_up ch t false)) : ms_inv mn po am va fl n T (va_up ch t false) := by
  refine ⟨fun k hk hc => ?_, hs, fun k hk => ?_⟩
  · by_cases e : k = t
    · subst e; rw [va_up_self] at hc; cases hc
    · rw [va_up_ne _ _ e] at hc; exact I.1 k hk hc
  · by_cases e : k = t
    · subst e; rw [va_up_self]
    · rw [va_up_ne _ _ e]; exact I.2.2 k hk
theorem m_p1_v (h : cl_ok mn (psM po) (amM am) va fl n) {ch : Nat → Bool} (I : ms_inv mn po am va fl n T ch) : ∀ p, p ≤ 300 → ms_inv mn po am va fl n T (m_p1 mn po am va fl n ch p).1 ∧ ((m_p1 mn po am va fl n ch p).2 = false → (m_p1 mn po am va fl n ch p).1 = ch ∧ ∀ q, q < p → (fl q).toInt ≤ (va q).toInt + sm (gd_T (nvS mn (psM po) (amM am)) ch q) n) ∧ cn (m_p1 mn po am va fl n ch p).1 n ≤ cn ch n ∧ ((m_p1 mn po am va fl n ch p).2 = true → cn (m_p1 mn po am va fl n ch p).1 n < cn ch n) := by
  intro p
  induction p with
  | zero => intro _; exact ⟨I, fun _ => ⟨rfl, fun q hq => absurd hq (Nat.not_lt_zero q)⟩, Nat.le_refl _, fun z => (by cases z)⟩
  | succ p ih =>
    intro hp
    obtain ⟨h1, h2, h3, h4⟩ := ih (by omega)
    unfold m_p1
    generalize hσ : m_p1 mn po am va fl n ch p = σ at h1 h2 h3 h4 ⊢
    by_cases hlow : m_tot mn po am va σ.1 p n < fl p
    · rw [if_pos hlow]
      obtain ⟨t, ht, a1, a2, a3, a4⟩ := m_last_in h σ.1 (by omega) hlow
      have e : (m_last mn po am σ.1 p n).toNatClampNeg = t := by rw [a3, nI_clamp (by have := h.1; omega)]
      rw [e]
      have hl := hlow
      rw [i64_lt, m_tot_v h σ.1 (by omega) n (Nat.le_refl n)] at hl
      have hc := cn_off n ht a1
      refine ⟨ms_off h1 (gd_last h1.1 h1.2.1 (show p < 300 by omega) hl ht a2 a4), fun z => (by cases z), ?_, fun _ => ?_⟩
      · show cn (va_up σ.1 t false) n ≤ cn ch n
        omega
      · show cn (va_up σ.1 t false) n < cn ch n
        omega
    · rw [if_neg hlow]
      refine ⟨h1, fun z => ?_, h3, h4⟩
      obtain ⟨b1, b2⟩ := h2 z
      refine ⟨b1, fun q hq => ?_⟩
      by_cases e : q = p
      · subst e
        rw [i64_lt, m_tot_v h σ.1 (by omega) n (Nat.le_refl n), b1] at hlow
        omega
      · exact b2 q (by omega)
theorem m_p2_v (h : cl_ok mn (psM po) (amM am) va fl n) {σ : CB} (I : ms_inv mn po am va fl n T σ.1) : ∀ i, i ≤ n → ms_inv mn po am va fl n T (m_p2 mn po am T σ i).1 ∧ ((m_p2 mn po am T σ i).2 = false → σ.2 = false ∧ (m_p2 mn po am T σ i).1 = σ.1 ∧ ∀ k, k < i → σ.1 k = true → m_lack mn po am T σ.1 k k = false) ∧ cn (m_p2 mn po am T σ i).1 n ≤ cn σ.1 n ∧ ((m_p2 mn po am T σ i).2 = true → σ.2 = true ∨ cn (m_p2 mn po am T σ i).1 n < cn σ.1 n) := by
  intro i
  induction i with
  | zero => intro _; exact ⟨I, fun z => ⟨z, rfl, fun k hk => absurd hk (Nat.not_lt_zero k)⟩, Nat.le_refl _, fun z => Or.inl z⟩
  | succ i ih =>
    intro hi
    obtain ⟨h1, h2, h3, h4⟩ := ih (by omega)
    unfold m_p2
    generalize hτ : m_p2 mn po am T σ i = τ at h1 h2 h3 h4 ⊢
    by_cases hc : τ.1 i = true ∧ m_lack mn po am T τ.1 i i = true
    · rw [if_pos hc]
      obtain ⟨k, hk, z1, z2, q, hq, z3, z4⟩ := (m_lack_v h τ.1 (show i < n by omega) i (Nat.le_refl i)).mp hc.2
      have ho := cn_off n (show i < n by omega) hc.1
      refine ⟨ms_off h1 (gd_lack h1.2.1 hq (show i < n by omega) hk z1 (by rw [z2]; decide) z4 z3), fun z => (by cases z), ?_, fun _ => Or.inr ?_⟩
      · show cn (va_up τ.1 i false) n ≤ cn σ.1 n
        omega
      · show cn (va_up τ.1 i false) n < cn σ.1 n
        omega
    · rw [if_neg hc]
      refine ⟨h1, fun z => ?_, h3, h4⟩
      obtain ⟨b0, b1, b2⟩ := h2 z
      refine ⟨b0, b1, fun k hk hs => ?_⟩
      by_cases e : k = i
      · subst e
        rw [b1] at hc
        cases hz : m_lack mn po am T σ.1 k k with
        | false => rfl
        | true => exact absurd ⟨hs, hz⟩ hc
      · exact b2 k (by omega) hs
/-- one round of the reference's search -/
theorem m_it_v (h : cl_ok mn (psM po) (amM am) va fl n) {ch : Nat → Bool} (I : ms_inv mn po am va fl n T ch) : ms_inv mn po am va fl n T (m_it mn po am va fl n T ch).1 ∧ ((m_it mn po am va fl n T ch).2 = false → gd_good n T (nvS mn (psM po) (amM am)) (iV va) (iV fl) (m_it mn po am va fl n T ch).1) ∧ ((m_it mn po am va fl n T ch).2 = true → cn (m_it mn po am va fl n T ch).1 n < cn ch n) := by
  obtain ⟨h1, h2, h3, h4⟩ := m_p1_v h I 300 (Nat.le_refl 300)
  have hh := m_p2_v h (σ := m_p1 mn po am va fl n ch 300) h1 n (Nat.le_refl n)
  unfold m_it
  generalize m_p1 mn po am va fl n ch 300 = σ at h1 h2 h3 h4 hh ⊢
  obtain ⟨k1, k2, k3, k4⟩ := hh
  generalize m_p2 mn po am T σ n = τ at k1 k2 k3 k4 ⊢
  refine ⟨k1, fun z => ?_, fun z => ?_⟩
  · obtain ⟨b0, b1, b2⟩ := k2 z
    obtain ⟨c1, c2⟩ := h2 b0
    rw [b1, c1]
    rw [c1] at b2
    refine gd_done I.1 c2 (fun i hi hs j hj hT hcj q hq n1 n2 => ?_)
    have := b2 i hi hs
    rw [(m_lack_v h ch hi i (Nat.le_refl i)).mpr ⟨j, hj, hT, hcj, q, hq, n2, n1⟩] at this
    cases this
  · rcases k4 z with k | k
    · have := h4 k; omega
    · omega
end MODEL
end
section
/-! net: what a change of a net does to an item's slots, in the class and in the reference -/
def qx (ps : Nat → Nat) (x : Int32) : Nat → Bool := fun k => decide (nI (ps k) = x)
abbrev NT : Type := Bool × Nat × (Nat → Nat) × (Nat → Int64)
/-- the class's change -/
def chC (p : Nat) (a : Int64) (u : Nat) (ps : Nat → Nat) (am : Nat → Int64) : NT :=
  if a < -2000000000000000 ∨ 2000000000000000 < a then (false, u, ps, am)
  else if ntq (qx ps (nI p)) u am + a < -1000000000000000 ∨ 1000000000000000 < ntq (qx ps (nI p)) u am + a then (false, u, ps, am)
  else if fs (qx ps (nI p)) u 0 < u then
    (if ntq (qx ps (nI p)) u am + a = 0 then (true, u - 1, va_up ps (fs (qx ps (nI p)) u 0) (ps (u - 1)), va_up (va_up am (fs (qx ps (nI p)) u 0) (ntq (qx ps (nI p)) u am + a)) (fs (qx ps (nI p)) u 0) (va_up am (fs (qx ps (nI p)) u 0) (ntq (qx ps (nI p)) u am + a) (u - 1)))
     else (true, u, ps, va_up am (fs (qx ps (nI p)) u 0) (ntq (qx ps (nI p)) u am + a)))
  else if ntq (qx ps (nI p)) u am + a = 0 then (true, u, ps, am)
  else if 16 ≤ u then (false, u, ps, am)
  else (true, u + 1, va_up ps u p, va_up am u (ntq (qx ps (nI p)) u am + a))
abbrev NM : Type := Bool × (Nat → Nat) × (Nat → Nat) × (Nat → Int64)
/-- the reference's net -/
def chM (mn po : Nat → Nat) (an : Nat → Int64) (i p : Nat) (a : Int64) : NM :=
  if 2000000000000000 < a ∨ a < -2000000000000000 then (false, mn, po, an)
  else if 1000000000000000 < netA mn po an i p + a ∨ netA mn po an i p + a < -1000000000000000 then (false, mn, po, an)
  else if mfd mn po i p < 16 * i + mn i ∧ netA mn po an i p + a = 0 then (true, va_up mn i (mn i - 1), va_up po (mfd mn po i p) (po (16 * i + mn i - 1)), va_up an (mfd mn po i p) (an (16 * i + mn i - 1)))
  else if netA mn po an i p + a = 0 then (true, mn, po, an)
  else if mfd mn po i p = 16 * i + mn i ∧ mn i = 16 then (false, mn, po, an)
  else (true, if mfd mn po i p = 16 * i + mn i then va_up mn i (mn i + 1) else mn, va_up po (mfd mn po i p) p, va_up an (mfd mn po i p) (netA mn po an i p + a))
/-- class and reference hold the same slots of item i -/
def ag (us : Nat → Nat) (ps : Nat → Nat → Nat) (am : Nat → Nat → Int64) (mn po : Nat → Nat) (an : Nat → Int64) (i : Nat) : Prop := us i = mn i ∧ ∀ k, k < us i → ps i k = po (16 * i + k) ∧ am i k = an (16 * i + k)
theorem qx_iff {ps : Nat → Nat} {u p k : Nat} (h : ∀ k, k < u → ps k < 300) (hp : p < 300) (hk : k < u) : qx ps (nI p) k = true ↔ ps k = p := by
  unfold qx
  rw [decide_eq_true_iff]
  exact nI_eq (by have := h k hk; omega) (by omega)
theorem net_fd {us : Nat → Nat} {ps : Nat → Nat → Nat} {am : Nat → Nat → Int64} {mn po : Nat → Nat} {an : Nat → Int64} {i p : Nat} (h : ag us ps am mn po an i) (hb : ∀ k, k < us i → ps i k < 300) (hp : p < 300) : mfd mn po i p = 16 * i + fs (qx (ps i) (nI p)) (us i) 0 := by
  unfold mfd
  rw [← h.1]
  refine fs_shift (q := mq po p) (r := qx (ps i) (nI p)) (16 * i) (us i) 0 (fun j _ hj => ?_)
  unfold mq qx
  rw [← (h.2 j (by omega)).1]
  exact decide_eq_decide.mpr (nI_eq (by have := hb j (by omega); omega) (by omega)).symm
theorem net_nt {us : Nat → Nat} {ps : Nat → Nat → Nat} {am : Nat → Nat → Int64} {mn po : Nat → Nat} {an : Nat → Int64} {i p : Nat} (h : ag us ps am mn po an i) (hb : ∀ k, k < us i → ps i k < 300) (hp : p < 300) : netA mn po an i p = ntq (qx (ps i) (nI p)) (us i) (am i) := by
  unfold netA ntq
  rw [net_fd h hb hp, ← h.1]
  by_cases hlt : fs (qx (ps i) (nI p)) (us i) 0 < us i
  · rw [if_pos hlt, if_pos (by omega), (h.2 _ hlt).2]
  · rw [if_neg hlt, if_neg (by omega)]
theorem net_ok {us : Nat → Nat} {ps : Nat → Nat → Nat} {am : Nat → Nat → Int64} {mn po : Nat → Nat} {an : Nat → Int64} {i p : Nat} {a : Int64} (h : ag us ps am mn po an i) (hok : sl_ok (ps i) (am i) (us i)) (hp : p < 300) :
    (chC p a (us i) (ps i) (am i)).1 = (chM mn po an i p a).1 ∧ sl_ok (chC p a (us i) (ps i) (am i)).2.2.1 (chC p a (us i) (ps i) (am i)).2.2.2 (chC p a (us i) (ps i) (am i)).2.1 ∧
    (chM mn po an i p a).2.1 i = (chC p a (us i) (ps i) (am i)).2.1 ∧
    (∀ k, k < (chC p a (us i) (ps i) (am i)).2.1 → (chC p a (us i) (ps i) (am i)).2.2.1 k = (chM mn po an i p a).2.2.1 (16 * i + k) ∧ (chC p a (us i) (ps i) (am i)).2.2.2 k = (chM mn po an i p a).2.2.2 (16 * i + k)) ∧
    (∀ j, ¬ j = i → (chM mn po an i p a).2.1 j = mn j) ∧ (∀ x, x < 16 * i ∨ 16 * i + 16 ≤ x → (chM mn po an i p a).2.2.1 x = po x ∧ (chM mn po an i p a).2.2.2 x = an x) := by
  have hk := net_fd h hok.2.1 hp
  have hn := net_nt h hok.2.1 hp
  have hle := fs_le (qx (ps i) (nI p)) (us i) 0
  have hhit : fs (qx (ps i) (nI p)) (us i) 0 < us i → ps i (fs (qx (ps i) (nI p)) (us i) 0) = p := fun z => (qx_iff hok.2.1 hp z).mp (fs_hit _ _ _ (by omega))
  have hmiss : ¬ fs (qx (ps i) (nI p)) (us i) 0 < us i → ∀ j, j < us i → ¬ ps i j = p := by
    intro z j hj e
    have := fs_miss (qx (ps i) (nI p)) (us i) 0 j (Nat.zero_le j) (by omega)
    rw [(qx_iff hok.2.1 hp hj).mpr e] at this
    cases this
  unfold chC chM
  rw [hk, hn]
  generalize hs : ntq (qx (ps i) (nI p)) (us i) (am i) + a = s
  generalize fs (qx (ps i) (nI p)) (us i) 0 = f at hle hhit hmiss
  obtain ⟨h1, h2⟩ := h
  obtain ⟨o1, o2, o3, o4⟩ := hok
  have same : (us i = mn i) ∧ sl_ok (ps i) (am i) (us i) := ⟨h1, o1, o2, o3, o4⟩
  by_cases c1 : a < -2000000000000000 ∨ 2000000000000000 < a
  · rw [if_pos c1, if_pos c1.symm]
    exact ⟨rfl, same.2, h1.symm, h2, fun _ _ => rfl, fun _ _ => ⟨rfl, rfl⟩⟩
  rw [if_neg c1, if_neg (show ¬ (2000000000000000 < a ∨ a < -2000000000000000) from fun z => c1 z.symm)]
  by_cases c2 : s < -1000000000000000 ∨ 1000000000000000 < s
  · rw [if_pos c2, if_pos c2.symm]
    exact ⟨rfl, same.2, h1.symm, h2, fun _ _ => rfl, fun _ _ => ⟨rfl, rfl⟩⟩
  rw [if_neg c2, if_neg (show ¬ (1000000000000000 < s ∨ s < -1000000000000000) from fun z => c2 z.symm)]
  have hsb : -1000000000000000 ≤ s.toInt ∧ s.toInt ≤ 1000000000000000 := by
    have a1 : ¬ s < -1000000000000000 := fun z => c2 (Or.inl z)
    have a2 : ¬ 1000000000000000 < s := fun z => c2 (Or.inr z)
    rw [i64_lt] at a1 a2
    have e1 : (-1000000000000000 : Int64).toInt = -1000000000000000 := by decide
    have e2 : (1000000000000000 : Int64).toInt = 1000000000000000 := by decide
    rw [e1] at a1
    rw [e2] at a2
    omega
  by_cases c3 : f < us i
  · rw [if_pos c3]
    by_cases c4 : s = 0
    · rw [if_pos c4, if_pos (show 16 * i + f < 16 * i + mn i ∧ s = 0 from ⟨by omega, c4⟩)]
      have e : ∀ j, j < us i - 1 → va_up (va_up (am i) f s) f (va_up (am i) f s (us i - 1)) j = va_up (am i) f (am i (us i - 1)) j := by
        intro j hj
        by_cases ej : j = f
        · subst ej
          rw [va_up_self, va_up_self, va_up_ne _ _ (by omega)]
        · rw [va_up_ne _ _ ej, va_up_ne _ _ ej, va_up_ne _ _ ej]
      refine ⟨rfl, ⟨by show us i - 1 ≤ 16; omega, fun k hk => ?_, fun x y hx hy hxy => ?_, fun k hk => ?_⟩, by show va_up mn i (mn i - 1) i = us i - 1; rw [va_up_self, h1], fun k hk => ?_, fun j hj => va_up_ne _ _ hj, fun x hx => ⟨va_up_ne _ _ (by omega), va_up_ne _ _ (by omega)⟩⟩
      · show va_up (ps i) f (ps i (us i - 1)) k < 300
        have hk : k < us i - 1 := hk
        by_cases ek : k = f
        · subst ek; rw [va_up_self]; exact o2 _ (by omega)
        · rw [va_up_ne _ _ ek]; exact o2 _ (by omega)
      · have hx : x < us i - 1 := hx
        have hy : y < us i - 1 := hy
        have hxy : va_up (ps i) f (ps i (us i - 1)) x = va_up (ps i) f (ps i (us i - 1)) y := hxy
        by_cases ex : x = f
        · by_cases ey : y = f
          · rw [ex, ey]
          · subst ex
            rw [va_up_self, va_up_ne _ _ ey] at hxy
            have := o3 _ _ (by omega) (by omega) hxy
            omega
        · by_cases ey : y = f
          · subst ey
            rw [va_up_self, va_up_ne _ _ ex] at hxy
            have := o3 _ _ (by omega) (by omega) hxy
            omega
          · rw [va_up_ne _ _ ex, va_up_ne _ _ ey] at hxy
            exact o3 _ _ (by omega) (by omega) hxy
      · have hk : k < us i - 1 := hk
        show ¬ va_up (va_up (am i) f s) f (va_up (am i) f s (us i - 1)) k = 0 ∧ -1000000000000000 ≤ (va_up (va_up (am i) f s) f (va_up (am i) f s (us i - 1)) k).toInt ∧ (va_up (va_up (am i) f s) f (va_up (am i) f s (us i - 1)) k).toInt ≤ 1000000000000000
        rw [e k hk]
        by_cases ek : k = f
        · subst ek; rw [va_up_self]; exact o4 _ (by omega)
        · rw [va_up_ne _ _ ek]; exact o4 _ (by omega)
      · have hk : k < us i - 1 := hk
        show va_up (ps i) f (ps i (us i - 1)) k = va_up po (16 * i + f) (po (16 * i + mn i - 1)) (16 * i + k) ∧ va_up (va_up (am i) f s) f (va_up (am i) f s (us i - 1)) k = va_up an (16 * i + f) (an (16 * i + mn i - 1)) (16 * i + k)
        rw [e k hk]
        have hl := h2 (us i - 1) (by omega)
        rw [show 16 * i + (us i - 1) = 16 * i + mn i - 1 by omega] at hl
        by_cases ek : k = f
        · subst ek
          rw [va_up_self, va_up_self, va_up_self, va_up_self]
          exact hl
        · rw [va_up_ne (ps i) _ ek, va_up_ne (am i) _ ek, va_up_ne po _ (show ¬ 16 * i + k = 16 * i + f by omega), va_up_ne an _ (show ¬ 16 * i + k = 16 * i + f by omega)]
          exact h2 k (by omega)
    · rw [if_neg c4, if_neg (show ¬ (16 * i + f < 16 * i + mn i ∧ s = 0) from fun z => c4 z.2), if_neg c4, if_neg (show ¬ (16 * i + f = 16 * i + mn i ∧ mn i = 16) from fun z => by have := z.1; omega), if_neg (show ¬ 16 * i + f = 16 * i + mn i by omega)]
      refine ⟨rfl, ⟨o1, o2, o3, fun k hk => ?_⟩, h1.symm, fun k hk => ?_, fun _ _ => rfl, fun x hx => ⟨va_up_ne _ _ (by omega), va_up_ne _ _ (by omega)⟩⟩
      · show ¬ va_up (am i) f s k = 0 ∧ -1000000000000000 ≤ (va_up (am i) f s k).toInt ∧ (va_up (am i) f s k).toInt ≤ 1000000000000000
        by_cases ek : k = f
        · subst ek; rw [va_up_self]; exact ⟨c4, hsb⟩
        · rw [va_up_ne _ _ ek]; exact o4 k hk
      · show ps i k = va_up po (16 * i + f) p (16 * i + k) ∧ va_up (am i) f s k = va_up an (16 * i + f) s (16 * i + k)
        by_cases ek : k = f
        · subst ek
          rw [va_up_self, va_up_self, va_up_self]
          exact ⟨hhit c3, rfl⟩
        · rw [va_up_ne po p (show ¬ 16 * i + k = 16 * i + f by omega), va_up_ne an s (show ¬ 16 * i + k = 16 * i + f by omega), va_up_ne (am i) s ek]
          exact h2 k hk
  · rw [if_neg c3]
    have ef : f = us i := by omega
    by_cases c4 : s = 0
    · rw [if_pos c4, if_neg (show ¬ (16 * i + f < 16 * i + mn i ∧ s = 0) from fun z => by have := z.1; omega), if_pos c4]
      exact ⟨rfl, same.2, h1.symm, h2, fun _ _ => rfl, fun _ _ => ⟨rfl, rfl⟩⟩
    · rw [if_neg c4, if_neg (show ¬ (16 * i + f < 16 * i + mn i ∧ s = 0) from fun z => c4 z.2), if_neg c4]
      by_cases c5 : 16 ≤ us i
      · rw [if_pos c5, if_pos (show 16 * i + f = 16 * i + mn i ∧ mn i = 16 from ⟨by omega, by omega⟩)]
        exact ⟨rfl, same.2, h1.symm, h2, fun _ _ => rfl, fun _ _ => ⟨rfl, rfl⟩⟩
      · rw [if_neg c5, if_neg (show ¬ (16 * i + f = 16 * i + mn i ∧ mn i = 16) from fun z => by have := z.2; omega), if_pos (show 16 * i + f = 16 * i + mn i by omega)]
        have hno := hmiss c3
        refine ⟨rfl, ⟨by show us i + 1 ≤ 16; omega, fun k hk => ?_, fun x y hx hy hxy => ?_, fun k hk => ?_⟩, by show va_up mn i (mn i + 1) i = us i + 1; rw [va_up_self, h1], fun k hk => ?_, fun j hj => va_up_ne _ _ hj, fun x hx => ⟨va_up_ne _ _ (by omega), va_up_ne _ _ (by omega)⟩⟩
        · show va_up (ps i) (us i) p k < 300
          have hk : k < us i + 1 := hk
          by_cases ek : k = us i
          · subst ek; rw [va_up_self]; exact hp
          · rw [va_up_ne _ _ ek]; exact o2 _ (by omega)
        · have hx : x < us i + 1 := hx
          have hy : y < us i + 1 := hy
          have hxy : va_up (ps i) (us i) p x = va_up (ps i) (us i) p y := hxy
          by_cases ex : x = us i
          · by_cases ey : y = us i
            · rw [ex, ey]
            · rw [ex, va_up_self, va_up_ne _ _ ey] at hxy
              exact absurd hxy.symm (hno y (by omega))
          · by_cases ey : y = us i
            · rw [ey, va_up_self, va_up_ne _ _ ex] at hxy
              exact absurd hxy (hno x (by omega))
            · rw [va_up_ne _ _ ex, va_up_ne _ _ ey] at hxy
              exact o3 _ _ (by omega) (by omega) hxy
        · have hk : k < us i + 1 := hk
          show ¬ va_up (am i) (us i) s k = 0 ∧ -1000000000000000 ≤ (va_up (am i) (us i) s k).toInt ∧ (va_up (am i) (us i) s k).toInt ≤ 1000000000000000
          by_cases ek : k = us i
          · rw [ek, va_up_self]; exact ⟨c4, hsb⟩
          · rw [va_up_ne _ _ ek]; exact o4 k (by omega)
        · have hk : k < us i + 1 := hk
          show va_up (ps i) (us i) p k = va_up po (16 * i + f) p (16 * i + k) ∧ va_up (am i) (us i) s k = va_up an (16 * i + f) s (16 * i + k)
          rw [ef]
          by_cases ek : k = us i
          · subst ek
            rw [va_up_self, va_up_self, va_up_self, va_up_self]
            exact ⟨rfl, rfl⟩
          · rw [va_up_ne (ps i) _ ek, va_up_ne (am i) _ ek, va_up_ne po _ (show ¬ 16 * i + k = 16 * i + us i by omega), va_up_ne an _ (show ¬ 16 * i + k = 16 * i + us i by omega)]
            exact h2 k (by omega)
end
section
/-! CLASS AND REFERENCE SIDE BY SIDE: what holds between two calls, and that each call keeps it -/
def LI (va fl : Nat → Int64) (n tc sc : Nat) (T S : Nat → Bool) (us : Nat → Nat) (ps : Nat → Nat → Nat) (am : Nat → Nat → Int64) (va' fl' : Nat → Int64) (th ch : Nat → Bool) (mn po : Nat → Nat) (an : Nat → Int64) : Prop :=
  cl_ok us ps am va fl n ∧ tc = cn T n ∧ sc = cn S n ∧ (∀ q, q < 300 → va q = va' q ∧ fl q = fl' q) ∧ (∀ i, i < n → T i = th i ∧ S i = ch i ∧ ag us ps am mn po an i) ∧ ∀ i, n ≤ i → th i = false ∧ ch i = false ∧ mn i = 0
theorem sl_ok_congr {p p' : Nat → Nat} {a a' : Nat → Int64} {u : Nat} (h1 : ∀ k, k < u → p k = p' k) (h2 : ∀ k, k < u → a k = a' k) (h : sl_ok p a u) : sl_ok p' a' u := by
  refine ⟨h.1, fun k hk => ?_, fun x y hx hy e => ?_, fun k hk => ?_⟩
  · rw [← h1 k hk]; exact h.2.1 k hk
  · rw [← h1 x hx, ← h1 y hy] at e; exact h.2.2.1 x y hx hy e
  · rw [← h2 k hk]; exact h.2.2.2 k hk
section LAW
variable {va fl : Nat → Int64} {n tc sc : Nat} {T S : Nat → Bool} {us : Nat → Nat} {ps : Nat → Nat → Nat} {am : Nat → Nat → Int64} {va' fl' : Nat → Int64} {th ch : Nat → Bool} {mn po : Nat → Nat} {an : Nat → Int64}
theorem ag_ok {i : Nat} (h : ag us ps am mn po an i) (hok : sl_ok (ps i) (am i) (us i)) : sl_ok (psM po i) (amM an i) (mn i) := by
  rw [← h.1]
  exact sl_ok_congr (fun k hk => (h.2 k hk).1) (fun k hk => (h.2 k hk).2) hok
theorem ag_nv {i : Nat} (h : ag us ps am mn po an i) (q : Nat) : nvS us ps am i q = nvS mn (psM po) (amM an) i q := by
  unfold nvS
  rw [← h.1]
  exact sl_congr (fun k hk => (h.2 k hk).1) (fun k hk => (h.2 k hk).2)
theorem LI_model (L : LI va fl n tc sc T S us ps am va' fl' th ch mn po an) : cl_ok mn (psM po) (amM an) va' fl' n := by
  obtain ⟨h1, -, -, h4, h5, -⟩ := L
  refine ⟨h1.1, fun i hi => ag_ok (h5 i hi).2.2 (h1.2.1 i hi), fun q hq => ?_⟩
  rw [← (h4 q hq).1, ← (h4 q hq).2]
  exact h1.2.2 q hq
/-- the start -/
theorem LI_0 : LI (fun _ => 0) (fun _ => 0) 0 0 0 (fun _ => false) (fun _ => false) (fun _ => 0) (fun _ _ => 0) (fun _ _ => 0) (fun _ => 0) (fun _ => 0) (fun _ => false) (fun _ => false) (fun _ => 0) (fun _ => 0) (fun _ => 0) :=
  ⟨⟨by decide, fun i hi => absurd hi (Nat.not_lt_zero i), fun q _ => by show -1000000000000000000 ≤ (0 : Int64).toInt ∧ (0 : Int64).toInt ≤ (0 : Int64).toInt ∧ (0 : Int64).toInt ≤ 1000000000000000000; rw [Int64.toInt_zero]; omega⟩, rfl, rfl, fun _ _ => ⟨rfl, rfl⟩, fun i hi => absurd hi (Nat.not_lt_zero i), fun _ _ => ⟨rfl, rfl, rfl⟩⟩
theorem LI_place (L : LI va fl n tc sc T S us ps am va' fl' th ch mn po an) {p : Nat} {v f : Int64} (h1 : -1000000000000000000 ≤ f.toInt) (h2 : f.toInt ≤ v.toInt) (h3 : v.toInt ≤ 1000000000000000000) : LI (va_up va p v) (va_up fl p f) n tc sc T S us ps am (va_up va' p v) (va_up fl' p f) th ch mn po an := by
  obtain ⟨⟨a1, a2, a3⟩, b2, b3, b4, b5, b6⟩ := L
  refine ⟨⟨a1, a2, fun q hq => ?_⟩, b2, b3, fun q hq => ?_, b5, b6⟩
  · by_cases e : q = p
    · subst e; rw [va_up_self, va_up_self]; exact ⟨h1, h2, h3⟩
    · rw [va_up_ne _ _ e, va_up_ne _ _ e]; exact a3 q hq
  · by_cases e : q = p
    · subst e; rw [va_up_self, va_up_self, va_up_self, va_up_self]; exact ⟨rfl, rfl⟩
    · rw [va_up_ne _ _ e, va_up_ne _ _ e, va_up_ne _ _ e, va_up_ne _ _ e]; exact b4 q hq
theorem LI_item (L : LI va fl n tc sc T S us ps am va' fl' th ch mn po an) (hn : n < 200) : LI va fl (n + 1) (tc + 1) sc (va_up T n true) (va_up S n false) (va_up us n 0) (va_up ps n (fun _ => 0)) (va_up am n (fun _ => 0)) va' fl' (va_up th n true) ch mn po an := by
  obtain ⟨⟨a1, a2, a3⟩, b2, b3, b4, b5, b6⟩ := L
  have e : ∀ i, i < n → ¬ i = n := fun i hi => by omega
  refine ⟨⟨by omega, fun i hi => ?_, a3⟩, ?_, ?_, b4, fun i hi => ?_, fun i hi => ?_⟩
  · by_cases ei : i = n
    · subst ei
      rw [va_up_self, va_up_self, va_up_self]
      exact ⟨by omega, fun k hk => absurd hk (Nat.not_lt_zero k), fun x y hx => absurd hx (Nat.not_lt_zero x), fun k hk => absurd hk (Nat.not_lt_zero k)⟩
    · rw [va_up_ne _ _ ei, va_up_ne _ _ ei, va_up_ne _ _ ei]
      exact a2 i (by omega)
  · rw [cn_succ, va_up_self, if_pos rfl, cn_congr (fun k hk => va_up_ne T true (e k hk)), b2]
  · rw [cn_succ, va_up_self, if_neg (by decide), cn_congr (fun k hk => va_up_ne S false (e k hk)), b3]
    rfl
  · by_cases ei : i = n
    · subst ei
      have := b6 i (Nat.le_refl i)
      rw [va_up_self, va_up_self, va_up_self]
      refine ⟨rfl, this.2.1.symm, ?_, fun k hk => ?_⟩
      · rw [va_up_self]; exact this.2.2.symm
      · rw [va_up_self] at hk; exact absurd hk (Nat.not_lt_zero k)
    · rw [va_up_ne _ _ ei, va_up_ne _ _ ei, va_up_ne _ _ ei]
      obtain ⟨c1, c2, c3, c4⟩ := b5 i (by omega)
      refine ⟨c1, c2, ?_, fun k hk => ?_⟩
      · rw [va_up_ne _ _ ei]; exact c3
      · rw [va_up_ne _ _ ei] at hk
        rw [va_up_ne _ _ ei, va_up_ne _ _ ei]
        exact c4 k hk
  · have := b6 i (by omega)
    rw [va_up_ne _ _ (by omega)]
    exact this
theorem LI_go (L : LI va fl n tc sc T S us ps am va' fl' th ch mn po an) {i : Nat} (hi : i < n) (hT : T i = true) : LI va fl n (tc - 1) sc (va_up T i false) S us ps am va' fl' (va_up th i false) ch mn po an := by
  obtain ⟨a1, b2, b3, b4, b5, b6⟩ := L
  have hc := cn_off n hi hT
  refine ⟨a1, by omega, b3, b4, fun j hj => ?_, fun j hj => ?_⟩
  · by_cases e : j = i
    · subst e; rw [va_up_self, va_up_self]; exact ⟨rfl, (b5 j hj).2⟩
    · rw [va_up_ne _ _ e, va_up_ne _ _ e]; exact b5 j hj
  · rw [va_up_ne _ _ (by omega)]; exact b6 j hj
theorem LI_net (L : LI va fl n tc sc T S us ps am va' fl' th ch mn po an) {i p : Nat} {a : Int64} (hi : i < n) (hp : p < 300) : (chC p a (us i) (ps i) (am i)).1 = (chM mn po an i p a).1 ∧ LI va fl n tc sc T S (va_up us i (chC p a (us i) (ps i) (am i)).2.1) (va_up ps i (chC p a (us i) (ps i) (am i)).2.2.1) (va_up am i (chC p a (us i) (ps i) (am i)).2.2.2) va' fl' th ch (chM mn po an i p a).2.1 (chM mn po an i p a).2.2.1 (chM mn po an i p a).2.2.2 := by
  obtain ⟨⟨a1, a2, a3⟩, b2, b3, b4, b5, b6⟩ := L
  obtain ⟨h1, h2, h3, h4, h5, h6⟩ := net_ok (a := a) (b5 i hi).2.2 (a2 i hi) hp
  refine ⟨h1, ⟨a1, fun j hj => ?_, a3⟩, b2, b3, b4, fun j hj => ?_, fun j hj => ?_⟩
  · by_cases e : j = i
    · subst e; rw [va_up_self, va_up_self, va_up_self]; exact h2
    · rw [va_up_ne _ _ e, va_up_ne _ _ e, va_up_ne _ _ e]; exact a2 j hj
  · obtain ⟨c1, c2, c3, c4⟩ := b5 j hj
    refine ⟨c1, c2, ?_⟩
    by_cases e : j = i
    · subst e
      unfold ag
      rw [va_up_self, va_up_self, va_up_self]
      exact ⟨h3.symm, h4⟩
    · unfold ag
      rw [va_up_ne _ _ e, va_up_ne _ _ e, va_up_ne _ _ e, h5 j e]
      refine ⟨c3, fun k hk => ?_⟩
      have hu := (a2 j hj).1
      have := h6 (16 * j + k) (by omega)
      rw [this.1, this.2]
      exact c4 k hk
  · have := b6 j hj
    exact ⟨this.1, this.2.1, by rw [h5 j (by omega)]; exact this.2.2⟩
theorem LI_gT (L : LI va fl n tc sc T S us ps am va' fl' th ch mn po an) (q : Nat) : sm (gd_T (nvS us ps am) S q) n = sm (gd_T (nvS mn (psM po) (amM an)) ch q) n := sm_congr (fun k hk => by
  have := L.2.2.2.2.1 k hk
  unfold gd_T
  rw [this.2.1, ag_nv this.2.2 q])
theorem LI_solve (L : LI va fl n tc sc T S us ps am va' fl' th ch mn po an) {σ : DS} {ch2 : Nat → Bool} (hd : fg_end us ps am T va fl n σ) (hm : ms_inv mn po an va' fl' n th ch2) (hg : gd_good n th (nvS mn (psM po) (amM an)) (iV va') (iV fl') ch2) : LI va fl n tc σ.2.2.2 T σ.1 us ps am va' fl' th ch2 mn po an := by
  obtain ⟨a1, b2, b3, b4, b5, b6⟩ := L
  obtain ⟨d1, d2, d3, d4⟩ := hd
  have e1 : ∀ i, i < n → th i = T i := fun i hi => (b5 i hi).1.symm
  have e2 : ∀ i p, i < n → p < 300 → nvS mn (psM po) (amM an) i p = nvS us ps am i p := fun i p hi _ => (ag_nv (b5 i hi).2.2 p).symm
  have e3 : ∀ p, p < 300 → iV va' p = iV va p := fun p hp => by show (va' p).toInt = (va p).toInt; rw [(b4 p hp).1]
  have e4 : ∀ p, p < 300 → iV fl' p = iV fl p := fun p hp => by show (fl' p).toInt = (fl p).toInt; rw [(b4 p hp).2]
  have hu := gd_unique d1 d2 (gd_good_congr e1 e2 e3 e4 (fun _ _ => rfl) hg) (gd_sub_congr e1 e2 e3 e4 (fun _ _ => rfl) hm.2.1)
  refine ⟨a1, b2, d3, b4, fun i hi => ⟨(b5 i hi).1, hu i hi, (b5 i hi).2.2⟩, fun i hi => ⟨(b6 i hi).1, hm.2.2 i hi, (b6 i hi).2.2⟩⟩
theorem LI_perform (L : LI va fl n tc sc T S us ps am va' fl' th ch mn po an) {af va2 va2' : Nat → Int64} {T2 th2 : Nat → Bool} (hg : gd_good n T (nvS us ps am) (iV va) (iV fl) S) (haf : ∀ q, q < 300 → (af q).toInt = (va q).toInt + sm (gd_T (nvS us ps am) S q) n) (hfit : ∀ q, q < 300 → (af q).toInt ≤ 1000000000000000000) (hv : ∀ q, q < 300 → va2 q = af q) (hv' : ∀ q, q < 300 → (va2' q).toInt = (va' q).toInt + sm (gd_T (nvS mn (psM po) (amM an)) ch q) n) (hT : ∀ i, i < n → T2 i = (T i && !S i)) (hth : ∀ i, i < n → th2 i = (th i && !ch i)) (hth2 : ∀ i, n ≤ i → th2 i = false) : LI va2 fl n (tc - sc) sc T2 S us ps am va2' fl' th2 ch mn po an := by
  have eT := LI_gT L
  obtain ⟨⟨a1, a2, a3⟩, b2, b3, b4, b5, b6⟩ := L
  refine ⟨⟨a1, a2, fun q hq => ?_⟩, ?_, b3, fun q hq => ?_, fun i hi => ?_, fun i hi => ?_⟩
  · have h1 := a3 q hq
    have h2 := hg.2.2 q hq
    have h2 : (fl q).toInt ≤ (va q).toInt + sm (gd_T (nvS us ps am) S q) n := h2
    have h3 := haf q hq
    have h4 := hfit q hq
    rw [hv q hq]
    omega
  · have := cn_sub (S := S) (T := T) (n := n) hg.1
    rw [cn_congr hT]
    omega
  · refine ⟨?_, (b4 q hq).2⟩
    rw [hv q hq, ← Int64.toInt_inj, haf q hq, hv' q hq, eT q, (b4 q hq).1]
  · refine ⟨?_, (b5 i hi).2⟩
    rw [hT i hi, hth i hi, (b5 i hi).1, (b5 i hi).2.1]
  · exact ⟨hth2 i hi, (b6 i hi).2⟩
end LAW
end
section
/-! the rest that the methods compute: the reference's perform and start, the class's end of items -/
def m_pv (mn po : Nat → Nat) (am : Nat → Int64) (ch : Nat → Bool) (n : Nat) (va : Nat → Int64) : Nat → Nat → Int64
  | 0 => va
  | p + 1 => va_up (m_pv mn po am ch n va p) p (m_tot mn po am (m_pv mn po am ch n va p) ch p n)
theorem m_tot_congr {mn po : Nat → Nat} {am va va2 : Nat → Int64} {ch : Nat → Bool} {p : Nat} (h : va p = va2 p) : ∀ i, m_tot mn po am va ch p i = m_tot mn po am va2 ch p i := by
  intro i
  induction i with
  | zero => exact h
  | succ i ih => unfold m_tot; rw [ih]
theorem m_pv_at {mn po : Nat → Nat} {am : Nat → Int64} {ch : Nat → Bool} {n : Nat} {va : Nat → Int64} : ∀ k p : Nat, (p < k → m_pv mn po am ch n va k p = m_tot mn po am va ch p n) ∧ (k ≤ p → m_pv mn po am ch n va k p = va p) := by
  intro k
  induction k with
  | zero => intro p; exact ⟨fun h => absurd h (Nat.not_lt_zero p), fun _ => rfl⟩
  | succ k ih =>
    intro p
    unfold m_pv
    constructor
    · intro h
      by_cases e : p = k
      · subst e
        rw [va_up_self]
        exact m_tot_congr ((ih p).2 (Nat.le_refl p)) n
      · rw [va_up_ne _ _ e]; exact (ih p).1 (by omega)
    · intro h
      rw [va_up_ne _ _ (by omega)]
      exact (ih p).2 (by omega)
def m_nt (ch th : Nat → Bool) : Nat → Nat → Bool
  | 0 => th
  | i + 1 => va_up (m_nt ch th i) i (m_nt ch th i i && !ch i)
theorem m_nt_at {ch th : Nat → Bool} : ∀ k p : Nat, (p < k → m_nt ch th k p = (th p && !ch p)) ∧ (k ≤ p → m_nt ch th k p = th p) := by
  intro k
  induction k with
  | zero => intro p; exact ⟨fun h => absurd h (Nat.not_lt_zero p), fun _ => rfl⟩
  | succ k ih =>
    intro p
    unfold m_nt
    constructor
    · intro h
      by_cases e : p = k
      · subst e
        rw [va_up_self, (ih p).2 (Nat.le_refl p)]
      · rw [va_up_ne _ _ e]; exact (ih p).1 (by omega)
    · intro h
      rw [va_up_ne _ _ (by omega)]
      exact (ih p).2 (by omega)
def d_en (S T : Nat → Bool) : Nat → Nat → Bool
  | 0 => T
  | i + 1 => if S i = true then va_up (d_en S T i) i false else d_en S T i
theorem d_en_at {S T : Nat → Bool} : ∀ k p : Nat, (p < k → d_en S T k p = (T p && !S p)) ∧ (k ≤ p → d_en S T k p = T p) := by
  intro k
  induction k with
  | zero => intro p; exact ⟨fun h => absurd h (Nat.not_lt_zero p), fun _ => rfl⟩
  | succ k ih =>
    intro p
    unfold d_en
    constructor
    · intro h
      by_cases e : p = k
      · subst e
        cases hs : S p with
        | true => rw [if_pos rfl, va_up_self]; simp
        | false => rw [if_neg (by decide), (ih p).2 (Nat.le_refl p)]; simp
      · by_cases hs : S k = true
        · rw [if_pos hs, va_up_ne _ _ e]; exact (ih p).1 (by omega)
        · rw [if_neg hs]; exact (ih p).1 (by omega)
    · intro h
      by_cases hs : S k = true
      · rw [if_pos hs, va_up_ne _ _ (by omega)]; exact (ih p).2 (by omega)
      · rw [if_neg hs]; exact (ih p).2 (by omega)
theorem st_s_out (T S : Nat → Bool) : ∀ k p : Nat, k ≤ p → st_s T S k p = S p := by
  intro k
  induction k with
  | zero => intro p _; rfl
  | succ k ih =>
    intro p h
    unfold st_s
    rw [va_up_ne _ _ (by omega)]
    exact ih p (by omega)
/-- the reference's start of its search -/
theorem ms_start {mn po : Nat → Nat} {am va fl : Nat → Int64} {n : Nat} {T S : Nat → Bool} (hn : n ≤ 200) (hT : ∀ i, n ≤ i → T i = false) (hS : ∀ i, n ≤ i → S i = false) : ms_inv mn po am va fl n T (st_s T S 200) := by
  refine ⟨fun k hk h => ?_, fun G hG i hi hg => ?_, fun k hk => ?_⟩
  · rw [st_s_at T S 200 k (by omega)] at h; exact h
  · rw [st_s_at T S 200 i (by omega)]; exact hG.1 i hi hg
  · by_cases h : k < 200
    · rw [st_s_at T S 200 k h]; exact hT k hk
    · rw [st_s_out T S 200 k (by omega)]; exact hS k hk
end
section
/-! ROWS OF ACCESS, printed by wip/whole/tools/rows.py: a field, an array, of the class (D), an item (I), the reference (M) -/
section ROWS
variable {p : Program} {l : Launch} {e : Env} {Rm : Room} {s : State} {m : MethodId} {args : Array Value} {below : List Frame} {meth : Method} {c : Code} {H : Heap} {locs : List Loc} {cells slots : Nat} {Q : State → Prop} {cc : ByteArray} {pc : Nat} {ls : Array Slot} {rest : List Value} {own : String} {D : va_G} {A : Nat → Prop} {H0 : Heap}
variable {R : va_W} {o : Nat → Nat} {K : Nat → ClassId} {ad : Nat → Nat × Nat × Nat} {va fl af : Nat → Int64} {bl : Nat → Bool} {n tc sc i k : Nat} {T S : Nat → Bool} {us : Nat → Nat} {ps : Nat → Nat → Nat} {am : Nat → Nat → Int64}
variable {th ch : Nat → Bool} {mn po : Nat → Nat} {an : Nat → Int64} {im : Nat → Option Nat} {pl : va_W} {nc : Nat}
theorem gD_values (C : cx RD D K p s m args c cc) (hP : va_P D vwCl (dW R o K ad va fl af bl n tc sc T S us ps am) H)  (hdg : decode cc pc = .ok (.getfield 9, 3)) (kk : W p l e Rm s m args below meth c H locs cells slots Q (F0 m (pc + 3) ls (.ref (o 1) :: rest))) : W p l e Rm s m args below meth c H locs cells slots Q (F0 m pc ls (.ref (o 0) :: rest)) :=
  va_get (ci := ciD) (C := RD) (T := TD) (N := 8) C.1 C.2.1 C.2.2.2.1 in_D C.2.2.1 C.2.2.2.2.1 hP 0 rfl rfl 0 (by decide) (C.2.2.2.1 _ (by decide +kernel : Cond.fieldLink RD 9 RD (TD 0).2.1 (TD 0).2.2.1 ∈ tT)) (fun _ h => h) rfl hdg kk
theorem gD_floors (C : cx RD D K p s m args c cc) (hP : va_P D vwCl (dW R o K ad va fl af bl n tc sc T S us ps am) H)  (hdg : decode cc pc = .ok (.getfield 13, 3)) (kk : W p l e Rm s m args below meth c H locs cells slots Q (F0 m (pc + 3) ls (.ref (o 2) :: rest))) : W p l e Rm s m args below meth c H locs cells slots Q (F0 m pc ls (.ref (o 0) :: rest)) :=
  va_get (ci := ciD) (C := RD) (T := TD) (N := 8) C.1 C.2.1 C.2.2.2.1 in_D C.2.2.1 C.2.2.2.2.1 hP 0 rfl rfl 1 (by decide) (C.2.2.2.1 _ (by decide +kernel : Cond.fieldLink RD 13 RD (TD 1).2.1 (TD 1).2.2.1 ∈ tT)) (fun _ h => h) rfl hdg kk
theorem gD_items (C : cx RD D K p s m args c cc) (hP : va_P D vwCl (dW R o K ad va fl af bl n tc sc T S us ps am) H)  (hdg : decode cc pc = .ok (.getfield 18, 3)) (kk : W p l e Rm s m args below meth c H locs cells slots Q (F0 m (pc + 3) ls (.ref (o 3) :: rest))) : W p l e Rm s m args below meth c H locs cells slots Q (F0 m pc ls (.ref (o 0) :: rest)) :=
  va_get (ci := ciD) (C := RD) (T := TD) (N := 8) C.1 C.2.1 C.2.2.2.1 in_D C.2.2.1 C.2.2.2.2.1 hP 0 rfl rfl 2 (by decide) (C.2.2.2.1 _ (by decide +kernel : Cond.fieldLink RD 18 RD (TD 2).2.1 (TD 2).2.2.1 ∈ tT)) (fun _ h => h) rfl hdg kk
theorem gD_itemCount (C : cx RD D K p s m args c cc) (hP : va_P D vwCl (dW R o K ad va fl af bl n tc sc T S us ps am) H)  (hdg : decode cc pc = .ok (.getfield 37, 3)) (kk : W p l e Rm s m args below meth c H locs cells slots Q (F0 m (pc + 3) ls (.int (nI n) :: rest))) : W p l e Rm s m args below meth c H locs cells slots Q (F0 m pc ls (.ref (o 0) :: rest)) :=
  va_get (ci := ciD) (C := RD) (T := TD) (N := 8) C.1 C.2.1 C.2.2.2.1 in_D C.2.2.1 C.2.2.2.2.1 hP 0 rfl rfl 3 (by decide) (C.2.2.2.1 _ (by decide +kernel : Cond.fieldLink RD 37 RD (TD 3).2.1 (TD 3).2.2.1 ∈ tT)) (fun _ h => h) rfl hdg kk
theorem gD_thereCount (C : cx RD D K p s m args c cc) (hP : va_P D vwCl (dW R o K ad va fl af bl n tc sc T S us ps am) H)  (hdg : decode cc pc = .ok (.getfield 42, 3)) (kk : W p l e Rm s m args below meth c H locs cells slots Q (F0 m (pc + 3) ls (.int (nI tc) :: rest))) : W p l e Rm s m args below meth c H locs cells slots Q (F0 m pc ls (.ref (o 0) :: rest)) :=
  va_get (ci := ciD) (C := RD) (T := TD) (N := 8) C.1 C.2.1 C.2.2.2.1 in_D C.2.2.1 C.2.2.2.2.1 hP 0 rfl rfl 4 (by decide) (C.2.2.2.1 _ (by decide +kernel : Cond.fieldLink RD 42 RD (TD 4).2.1 (TD 4).2.2.1 ∈ tT)) (fun _ h => h) rfl hdg kk
theorem gD_setCount (C : cx RD D K p s m args c cc) (hP : va_P D vwCl (dW R o K ad va fl af bl n tc sc T S us ps am) H)  (hdg : decode cc pc = .ok (.getfield 60, 3)) (kk : W p l e Rm s m args below meth c H locs cells slots Q (F0 m (pc + 3) ls (.int (nI sc) :: rest))) : W p l e Rm s m args below meth c H locs cells slots Q (F0 m pc ls (.ref (o 0) :: rest)) :=
  va_get (ci := ciD) (C := RD) (T := TD) (N := 8) C.1 C.2.1 C.2.2.2.1 in_D C.2.2.1 C.2.2.2.2.1 hP 0 rfl rfl 5 (by decide) (C.2.2.2.1 _ (by decide +kernel : Cond.fieldLink RD 60 RD (TD 5).2.1 (TD 5).2.2.1 ∈ tT)) (fun _ h => h) rfl hdg kk
theorem gD_after (C : cx RD D K p s m args c cc) (hP : va_P D vwCl (dW R o K ad va fl af bl n tc sc T S us ps am) H)  (hdg : decode cc pc = .ok (.getfield 22, 3)) (kk : W p l e Rm s m args below meth c H locs cells slots Q (F0 m (pc + 3) ls (.ref (o 4) :: rest))) : W p l e Rm s m args below meth c H locs cells slots Q (F0 m pc ls (.ref (o 0) :: rest)) :=
  va_get (ci := ciD) (C := RD) (T := TD) (N := 8) C.1 C.2.1 C.2.2.2.1 in_D C.2.2.1 C.2.2.2.2.1 hP 0 rfl rfl 6 (by decide) (C.2.2.2.1 _ (by decide +kernel : Cond.fieldLink RD 22 RD (TD 6).2.1 (TD 6).2.2.1 ∈ tT)) (fun _ h => h) rfl hdg kk
theorem gD_blocked (C : cx RD D K p s m args c cc) (hP : va_P D vwCl (dW R o K ad va fl af bl n tc sc T S us ps am) H)  (hdg : decode cc pc = .ok (.getfield 25, 3)) (kk : W p l e Rm s m args below meth c H locs cells slots Q (F0 m (pc + 3) ls (.ref (o 5) :: rest))) : W p l e Rm s m args below meth c H locs cells slots Q (F0 m pc ls (.ref (o 0) :: rest)) :=
  va_get (ci := ciD) (C := RD) (T := TD) (N := 8) C.1 C.2.1 C.2.2.2.1 in_D C.2.2.1 C.2.2.2.2.1 hP 0 rfl rfl 7 (by decide) (C.2.2.2.1 _ (by decide +kernel : Cond.fieldLink RD 25 RD (TD 7).2.1 (TD 7).2.2.1 ∈ tT)) (fun _ h => h) rfl hdg kk
theorem pD_thereCount {v : Nat} (C : cx RD D K p s m args c cc) (hP : va_P D vwCl (dW R o K ad va fl af bl n tc sc T S us ps am) H) (hD : va_D A (dW R o K ad va fl af bl n tc sc T S us ps am)) (hS : va_S A H0 H locs)  (hdg : decode cc pc = .ok (.putfield 42, 3)) (kk : ∀ (H1 : Heap) (locs1 : List Loc), va_P D vwCl (dW R o K ad va fl af bl n v sc T S us ps am) H1 → va_D A (dW R o K ad va fl af bl n v sc T S us ps am) → va_S A H0 H1 locs1 → W p l e Rm s m args below meth c H1 locs1 cells slots Q (F0 m (pc + 3) ls (rest))) : W p l e Rm s m args below meth c H locs cells slots Q (F0 m pc ls (.int (nI v) :: .ref (o 0) :: rest)) := by
  refine va_put (ci := ciD) (C := RD) (T := TD) (N := 8) (ty := .int) C.1 C.2.1 C.2.2.2.1 in_D tyD tyX1_ok nmX1 C.2.2.1 C.2.2.2.2.1 hP hD hS 0 rfl rfl 4 (by decide) (C.2.2.2.1 _ (by decide +kernel : Cond.fieldLink RD 42 RD (TD 4).2.1 (TD 4).2.2.1 ∈ tT)) (fun _ h => h) rfl (by decide +kernel) rfl rfl (Nat.le_of_ble_eq_true rfl) hdg (fun H1 locs1 h1 h2 h3 => ?_)
  exact kk H1 locs1 h1 h2 h3
theorem pD_setCount {v : Nat} (C : cx RD D K p s m args c cc) (hP : va_P D vwCl (dW R o K ad va fl af bl n tc sc T S us ps am) H) (hD : va_D A (dW R o K ad va fl af bl n tc sc T S us ps am)) (hS : va_S A H0 H locs)  (hdg : decode cc pc = .ok (.putfield 60, 3)) (kk : ∀ (H1 : Heap) (locs1 : List Loc), va_P D vwCl (dW R o K ad va fl af bl n tc v T S us ps am) H1 → va_D A (dW R o K ad va fl af bl n tc v T S us ps am) → va_S A H0 H1 locs1 → W p l e Rm s m args below meth c H1 locs1 cells slots Q (F0 m (pc + 3) ls (rest))) : W p l e Rm s m args below meth c H locs cells slots Q (F0 m pc ls (.int (nI v) :: .ref (o 0) :: rest)) := by
  refine va_put (ci := ciD) (C := RD) (T := TD) (N := 8) (ty := .int) C.1 C.2.1 C.2.2.2.1 in_D tyD tyX1_ok nmX1 C.2.2.1 C.2.2.2.2.1 hP hD hS 0 rfl rfl 5 (by decide) (C.2.2.2.1 _ (by decide +kernel : Cond.fieldLink RD 60 RD (TD 5).2.1 (TD 5).2.2.1 ∈ tT)) (fun _ h => h) rfl (by decide +kernel) rfl rfl (Nat.le_of_ble_eq_true rfl) hdg (fun H1 locs1 h1 h2 h3 => ?_)
  exact kk H1 locs1 h1 h2 h3
theorem gR_items (C : cx RD D K p s m args c cc) (hP : va_P D vwCl (dR R o K va fl af bl im nc tc sc pl) H)  (hdg : decode cc pc = .ok (.getfield 18, 3)) (kk : W p l e Rm s m args below meth c H locs cells slots Q (F0 m (pc + 3) ls (.ref (o 3) :: rest))) : W p l e Rm s m args below meth c H locs cells slots Q (F0 m pc ls (.ref (o 0) :: rest)) :=
  va_get (ci := ciD) (C := RD) (T := TD) (N := 8) C.1 C.2.1 C.2.2.2.1 in_D C.2.2.1 C.2.2.2.2.1 hP 0 rfl rfl 2 (by decide) (C.2.2.2.1 _ (by decide +kernel : Cond.fieldLink RD 18 RD (TD 2).2.1 (TD 2).2.2.1 ∈ tT)) (fun _ h => h) rfl hdg kk
theorem gR_itemCount (C : cx RD D K p s m args c cc) (hP : va_P D vwCl (dR R o K va fl af bl im nc tc sc pl) H)  (hdg : decode cc pc = .ok (.getfield 37, 3)) (kk : W p l e Rm s m args below meth c H locs cells slots Q (F0 m (pc + 3) ls (.int (nI nc) :: rest))) : W p l e Rm s m args below meth c H locs cells slots Q (F0 m pc ls (.ref (o 0) :: rest)) :=
  va_get (ci := ciD) (C := RD) (T := TD) (N := 8) C.1 C.2.1 C.2.2.2.1 in_D C.2.2.1 C.2.2.2.2.1 hP 0 rfl rfl 3 (by decide) (C.2.2.2.1 _ (by decide +kernel : Cond.fieldLink RD 37 RD (TD 3).2.1 (TD 3).2.2.1 ∈ tT)) (fun _ h => h) rfl hdg kk
theorem gR_thereCount (C : cx RD D K p s m args c cc) (hP : va_P D vwCl (dR R o K va fl af bl im nc tc sc pl) H)  (hdg : decode cc pc = .ok (.getfield 42, 3)) (kk : W p l e Rm s m args below meth c H locs cells slots Q (F0 m (pc + 3) ls (.int (nI tc) :: rest))) : W p l e Rm s m args below meth c H locs cells slots Q (F0 m pc ls (.ref (o 0) :: rest)) :=
  va_get (ci := ciD) (C := RD) (T := TD) (N := 8) C.1 C.2.1 C.2.2.2.1 in_D C.2.2.1 C.2.2.2.2.1 hP 0 rfl rfl 4 (by decide) (C.2.2.2.1 _ (by decide +kernel : Cond.fieldLink RD 42 RD (TD 4).2.1 (TD 4).2.2.1 ∈ tT)) (fun _ h => h) rfl hdg kk
theorem pR_itemCount {v : Nat} (C : cx RD D K p s m args c cc) (hP : va_P D vwCl (dR R o K va fl af bl im nc tc sc pl) H) (hD : va_D A (dR R o K va fl af bl im nc tc sc pl)) (hS : va_S A H0 H locs)  (hdg : decode cc pc = .ok (.putfield 37, 3)) (kk : ∀ (H1 : Heap) (locs1 : List Loc), va_P D vwCl (dR R o K va fl af bl im v tc sc pl) H1 → va_D A (dR R o K va fl af bl im v tc sc pl) → va_S A H0 H1 locs1 → W p l e Rm s m args below meth c H1 locs1 cells slots Q (F0 m (pc + 3) ls (rest))) : W p l e Rm s m args below meth c H locs cells slots Q (F0 m pc ls (.int (nI v) :: .ref (o 0) :: rest)) := by
  refine va_put (ci := ciD) (C := RD) (T := TD) (N := 8) (ty := .int) C.1 C.2.1 C.2.2.2.1 in_D tyD tyX1_ok nmX1 C.2.2.1 C.2.2.2.2.1 hP hD hS 0 rfl rfl 3 (by decide) (C.2.2.2.1 _ (by decide +kernel : Cond.fieldLink RD 37 RD (TD 3).2.1 (TD 3).2.2.1 ∈ tT)) (fun _ h => h) rfl (by decide +kernel) rfl rfl (Nat.le_of_ble_eq_true rfl) hdg (fun H1 locs1 h1 h2 h3 => ?_)
  exact kk H1 locs1 h1 h2 h3
theorem pR_thereCount {v : Nat} (C : cx RD D K p s m args c cc) (hP : va_P D vwCl (dR R o K va fl af bl im nc tc sc pl) H) (hD : va_D A (dR R o K va fl af bl im nc tc sc pl)) (hS : va_S A H0 H locs)  (hdg : decode cc pc = .ok (.putfield 42, 3)) (kk : ∀ (H1 : Heap) (locs1 : List Loc), va_P D vwCl (dR R o K va fl af bl im nc v sc pl) H1 → va_D A (dR R o K va fl af bl im nc v sc pl) → va_S A H0 H1 locs1 → W p l e Rm s m args below meth c H1 locs1 cells slots Q (F0 m (pc + 3) ls (rest))) : W p l e Rm s m args below meth c H locs cells slots Q (F0 m pc ls (.int (nI v) :: .ref (o 0) :: rest)) := by
  refine va_put (ci := ciD) (C := RD) (T := TD) (N := 8) (ty := .int) C.1 C.2.1 C.2.2.2.1 in_D tyD tyX1_ok nmX1 C.2.2.1 C.2.2.2.2.1 hP hD hS 0 rfl rfl 4 (by decide) (C.2.2.2.1 _ (by decide +kernel : Cond.fieldLink RD 42 RD (TD 4).2.1 (TD 4).2.2.1 ∈ tT)) (fun _ h => h) rfl (by decide +kernel) rfl rfl (Nat.le_of_ble_eq_true rfl) hdg (fun H1 locs1 h1 h2 h3 => ?_)
  exact kk H1 locs1 h1 h2 h3
theorem lD_values (C : cx own D K p s m args c cc) (hP : va_P D vwCl (dW R o K ad va fl af bl n tc sc T S us ps am) H)  (hk : k < 300) (hdg : decode cc pc = .ok (.laload, 1)) (kk : W p l e Rm s m args below meth c H locs cells slots Q (F0 m (pc + 1) ls (.long (va k) :: rest))) : W p l e Rm s m args below meth c H locs cells slots Q (F0 m pc ls (.int (nI k) :: .ref (o 1) :: rest)) := by
  refine va_lald C.1 C.2.1 C.2.2.2.2.1 hP 1 0 rfl rfl (vp_in_nI hk (by decide)) hdg ?_
  rw [nI_clamp (by omega)]
  exact kk
theorem lD_floors (C : cx own D K p s m args c cc) (hP : va_P D vwCl (dW R o K ad va fl af bl n tc sc T S us ps am) H)  (hk : k < 300) (hdg : decode cc pc = .ok (.laload, 1)) (kk : W p l e Rm s m args below meth c H locs cells slots Q (F0 m (pc + 1) ls (.long (fl k) :: rest))) : W p l e Rm s m args below meth c H locs cells slots Q (F0 m pc ls (.int (nI k) :: .ref (o 2) :: rest)) := by
  refine va_lald C.1 C.2.1 C.2.2.2.2.1 hP 2 0 rfl rfl (vp_in_nI hk (by decide)) hdg ?_
  rw [nI_clamp (by omega)]
  exact kk
theorem lD_after (C : cx own D K p s m args c cc) (hP : va_P D vwCl (dW R o K ad va fl af bl n tc sc T S us ps am) H)  (hk : k < 300) (hdg : decode cc pc = .ok (.laload, 1)) (kk : W p l e Rm s m args below meth c H locs cells slots Q (F0 m (pc + 1) ls (.long (af k) :: rest))) : W p l e Rm s m args below meth c H locs cells slots Q (F0 m pc ls (.int (nI k) :: .ref (o 4) :: rest)) := by
  refine va_lald C.1 C.2.1 C.2.2.2.2.1 hP 4 0 rfl rfl (vp_in_nI hk (by decide)) hdg ?_
  rw [nI_clamp (by omega)]
  exact kk
theorem lD_blocked (C : cx own D K p s m args c cc) (hP : va_P D vwCl (dW R o K ad va fl af bl n tc sc T S us ps am) H)  (hk : k < 300) (hdg : decode cc pc = .ok (.baload, 1)) (kk : W p l e Rm s m args below meth c H locs cells slots Q (F0 m (pc + 1) ls (.int (bI (bl k)) :: rest))) : W p l e Rm s m args below meth c H locs cells slots Q (F0 m pc ls (.int (nI k) :: .ref (o 5) :: rest)) := by
  refine va_zald C.1 C.2.1 C.2.2.2.2.1 hP 5 2 rfl rfl (vp_in_nI hk (by decide)) hdg ?_
  rw [nI_clamp (by omega)]
  exact kk
theorem lD_items (C : cx own D K p s m args c cc) (hP : va_P D vwCl (dW R o K ad va fl af bl n tc sc T S us ps am) H) (hn : n ≤ 200) (hk : k < n) (hdg : decode cc pc = .ok (.aaload, 1)) (kk : W p l e Rm s m args below meth c H locs cells slots Q (F0 m (pc + 1) ls (.ref (ad k).1 :: rest))) : W p l e Rm s m args below meth c H locs cells slots Q (F0 m pc ls (.int (nI k) :: .ref (o 3) :: rest)) := by
  refine va_aldq C.1 C.2.1 C.2.2.2.2.1 hP 3 3 rfl rfl (vp_in_nI (Nat.lt_of_lt_of_le hk hn) (by decide)) hdg ?_
  rw [nI_clamp (by omega), itf_at hk]
  exact kk
theorem sD_values {x : Int64} (C : cx own D K p s m args c cc) (hP : va_P D vwCl (dW R o K ad va fl af bl n tc sc T S us ps am) H) (hD : va_D A (dW R o K ad va fl af bl n tc sc T S us ps am)) (hS : va_S A H0 H locs)  (hk : k < 300) (hdg : decode cc pc = .ok (.lastore, 1)) (kk : ∀ (H1 : Heap) (locs1 : List Loc), va_P D vwCl (dW R o K ad (va_up va k x) fl af bl n tc sc T S us ps am) H1 → va_D A (dW R o K ad (va_up va k x) fl af bl n tc sc T S us ps am) → va_S A H0 H1 locs1 → W p l e Rm s m args below meth c H1 locs1 cells slots Q (F0 m (pc + 1) ls (rest))) : W p l e Rm s m args below meth c H locs cells slots Q (F0 m pc ls (.long x :: .int (nI k) :: .ref (o 1) :: rest)) := by
  refine va_last C.1 C.2.1 C.2.2.2.2.1 hP hD hS 1 0 rfl rfl (vp_in_nI hk (by decide)) hdg (fun H1 locs1 h1 h2 h3 => ?_)
  rw [nI_clamp (by omega)] at h1 h2
  exact kk H1 locs1 h1 h2 h3
theorem sD_floors {x : Int64} (C : cx own D K p s m args c cc) (hP : va_P D vwCl (dW R o K ad va fl af bl n tc sc T S us ps am) H) (hD : va_D A (dW R o K ad va fl af bl n tc sc T S us ps am)) (hS : va_S A H0 H locs)  (hk : k < 300) (hdg : decode cc pc = .ok (.lastore, 1)) (kk : ∀ (H1 : Heap) (locs1 : List Loc), va_P D vwCl (dW R o K ad va (va_up fl k x) af bl n tc sc T S us ps am) H1 → va_D A (dW R o K ad va (va_up fl k x) af bl n tc sc T S us ps am) → va_S A H0 H1 locs1 → W p l e Rm s m args below meth c H1 locs1 cells slots Q (F0 m (pc + 1) ls (rest))) : W p l e Rm s m args below meth c H locs cells slots Q (F0 m pc ls (.long x :: .int (nI k) :: .ref (o 2) :: rest)) := by
  refine va_last C.1 C.2.1 C.2.2.2.2.1 hP hD hS 2 0 rfl rfl (vp_in_nI hk (by decide)) hdg (fun H1 locs1 h1 h2 h3 => ?_)
  rw [nI_clamp (by omega)] at h1 h2
  exact kk H1 locs1 h1 h2 h3
theorem sD_after {x : Int64} (C : cx own D K p s m args c cc) (hP : va_P D vwCl (dW R o K ad va fl af bl n tc sc T S us ps am) H) (hD : va_D A (dW R o K ad va fl af bl n tc sc T S us ps am)) (hS : va_S A H0 H locs)  (hk : k < 300) (hdg : decode cc pc = .ok (.lastore, 1)) (kk : ∀ (H1 : Heap) (locs1 : List Loc), va_P D vwCl (dW R o K ad va fl (va_up af k x) bl n tc sc T S us ps am) H1 → va_D A (dW R o K ad va fl (va_up af k x) bl n tc sc T S us ps am) → va_S A H0 H1 locs1 → W p l e Rm s m args below meth c H1 locs1 cells slots Q (F0 m (pc + 1) ls (rest))) : W p l e Rm s m args below meth c H locs cells slots Q (F0 m pc ls (.long x :: .int (nI k) :: .ref (o 4) :: rest)) := by
  refine va_last C.1 C.2.1 C.2.2.2.2.1 hP hD hS 4 0 rfl rfl (vp_in_nI hk (by decide)) hdg (fun H1 locs1 h1 h2 h3 => ?_)
  rw [nI_clamp (by omega)] at h1 h2
  exact kk H1 locs1 h1 h2 h3
theorem sD_blocked {x : Bool} (C : cx own D K p s m args c cc) (hP : va_P D vwCl (dW R o K ad va fl af bl n tc sc T S us ps am) H) (hD : va_D A (dW R o K ad va fl af bl n tc sc T S us ps am)) (hS : va_S A H0 H locs)  (hk : k < 300) (hdg : decode cc pc = .ok (.bastore, 1)) (kk : ∀ (H1 : Heap) (locs1 : List Loc), va_P D vwCl (dW R o K ad va fl af (va_up bl k x) n tc sc T S us ps am) H1 → va_D A (dW R o K ad va fl af (va_up bl k x) n tc sc T S us ps am) → va_S A H0 H1 locs1 → W p l e Rm s m args below meth c H1 locs1 cells slots Q (F0 m (pc + 1) ls (rest))) : W p l e Rm s m args below meth c H locs cells slots Q (F0 m pc ls (.int (bI x) :: .int (nI k) :: .ref (o 5) :: rest)) := by
  refine va_zast C.1 C.2.1 C.2.2.2.2.1 hP hD hS 5 2 rfl rfl (vp_in_nI hk (by decide)) hdg (fun H1 locs1 h1 h2 h3 => ?_)
  rw [nI_clamp (by omega), upd_bI] at h1 h2
  exact kk H1 locs1 h1 h2 h3
theorem gII_positions (C : cx RIt D K p s m args c cc) (hP : va_P D vwCl (dW R o K ad va fl af bl n tc sc T S us ps am) H) (hi : i < n) (hdg : decode cc pc = .ok (.getfield 9, 3)) (kk : W p l e Rm s m args below meth c H locs cells slots Q (F0 m (pc + 3) ls (.ref (ad i).2.1 :: rest))) : W p l e Rm s m args below meth c H locs cells slots Q (F0 m pc ls (.ref (ad i).1 :: rest)) :=
  va_get (ci := ciI) (C := RIt) (T := TI) (N := 5) C.1 C.2.1 C.2.2.2.1 in_I C.2.2.1 C.2.2.2.2.1 hP (6 + (R.length + 3 * i)) (dW_0 hi) rfl 0 (by decide) (C.2.2.2.1 _ (by decide +kernel : Cond.fieldLink RIt 9 RIt (TI 0).2.1 (TI 0).2.2.1 ∈ tT)) (fun _ h => h) rfl hdg kk
theorem gII_amounts (C : cx RIt D K p s m args c cc) (hP : va_P D vwCl (dW R o K ad va fl af bl n tc sc T S us ps am) H) (hi : i < n) (hdg : decode cc pc = .ok (.getfield 15, 3)) (kk : W p l e Rm s m args below meth c H locs cells slots Q (F0 m (pc + 3) ls (.ref (ad i).2.2 :: rest))) : W p l e Rm s m args below meth c H locs cells slots Q (F0 m pc ls (.ref (ad i).1 :: rest)) :=
  va_get (ci := ciI) (C := RIt) (T := TI) (N := 5) C.1 C.2.1 C.2.2.2.1 in_I C.2.2.1 C.2.2.2.2.1 hP (6 + (R.length + 3 * i)) (dW_0 hi) rfl 1 (by decide) (C.2.2.2.1 _ (by decide +kernel : Cond.fieldLink RIt 15 RIt (TI 1).2.1 (TI 1).2.2.1 ∈ tT)) (fun _ h => h) rfl hdg kk
theorem gII_used (C : cx RIt D K p s m args c cc) (hP : va_P D vwCl (dW R o K ad va fl af bl n tc sc T S us ps am) H) (hi : i < n) (hdg : decode cc pc = .ok (.getfield 23, 3)) (kk : W p l e Rm s m args below meth c H locs cells slots Q (F0 m (pc + 3) ls (.int (nI (us i)) :: rest))) : W p l e Rm s m args below meth c H locs cells slots Q (F0 m pc ls (.ref (ad i).1 :: rest)) :=
  va_get (ci := ciI) (C := RIt) (T := TI) (N := 5) C.1 C.2.1 C.2.2.2.1 in_I C.2.2.1 C.2.2.2.2.1 hP (6 + (R.length + 3 * i)) (dW_0 hi) rfl 2 (by decide) (C.2.2.2.1 _ (by decide +kernel : Cond.fieldLink RIt 23 RIt (TI 2).2.1 (TI 2).2.2.1 ∈ tT)) (fun _ h => h) rfl hdg kk
theorem gII_there (C : cx RIt D K p s m args c cc) (hP : va_P D vwCl (dW R o K ad va fl af bl n tc sc T S us ps am) H) (hi : i < n) (hdg : decode cc pc = .ok (.getfield 19, 3)) (kk : W p l e Rm s m args below meth c H locs cells slots Q (F0 m (pc + 3) ls (.int (bI (T i)) :: rest))) : W p l e Rm s m args below meth c H locs cells slots Q (F0 m pc ls (.ref (ad i).1 :: rest)) :=
  va_get (ci := ciI) (C := RIt) (T := TI) (N := 5) C.1 C.2.1 C.2.2.2.1 in_I C.2.2.1 C.2.2.2.2.1 hP (6 + (R.length + 3 * i)) (dW_0 hi) rfl 3 (by decide) (C.2.2.2.1 _ (by decide +kernel : Cond.fieldLink RIt 19 RIt (TI 3).2.1 (TI 3).2.2.1 ∈ tT)) (fun _ h => h) rfl hdg kk
theorem gDI_positions (C : cx RD D K p s m args c cc) (hP : va_P D vwCl (dW R o K ad va fl af bl n tc sc T S us ps am) H) (hi : i < n) (hdg : decode cc pc = .ok (.getfield 119, 3)) (kk : W p l e Rm s m args below meth c H locs cells slots Q (F0 m (pc + 3) ls (.ref (ad i).2.1 :: rest))) : W p l e Rm s m args below meth c H locs cells slots Q (F0 m pc ls (.ref (ad i).1 :: rest)) :=
  va_getN (ci := ciI) (C := RIt) (T := TI) (N := 5) C.1 C.2.1 C.2.2.2.1 in_I C.2.2.1 C.2.2.2.2.1 hP (6 + (R.length + 3 * i)) (dW_0 hi) rfl 0 (by decide) (va_Nw.use rfl (C.2.2.2.2.2.1 _ (by decide +kernel : Cond.fieldLinkNest RD 119 RIt (TI 0).2.1 (TI 0).2.2.1 RD ∈ nW))) (fun _ h => h) rfl hdg kk
theorem gDI_amounts (C : cx RD D K p s m args c cc) (hP : va_P D vwCl (dW R o K ad va fl af bl n tc sc T S us ps am) H) (hi : i < n) (hdg : decode cc pc = .ok (.getfield 116, 3)) (kk : W p l e Rm s m args below meth c H locs cells slots Q (F0 m (pc + 3) ls (.ref (ad i).2.2 :: rest))) : W p l e Rm s m args below meth c H locs cells slots Q (F0 m pc ls (.ref (ad i).1 :: rest)) :=
  va_getN (ci := ciI) (C := RIt) (T := TI) (N := 5) C.1 C.2.1 C.2.2.2.1 in_I C.2.2.1 C.2.2.2.2.1 hP (6 + (R.length + 3 * i)) (dW_0 hi) rfl 1 (by decide) (va_Nw.use rfl (C.2.2.2.2.2.1 _ (by decide +kernel : Cond.fieldLinkNest RD 116 RIt (TI 1).2.1 (TI 1).2.2.1 RD ∈ nW))) (fun _ h => h) rfl hdg kk
theorem gDI_used (C : cx RD D K p s m args c cc) (hP : va_P D vwCl (dW R o K ad va fl af bl n tc sc T S us ps am) H) (hi : i < n) (hdg : decode cc pc = .ok (.getfield 113, 3)) (kk : W p l e Rm s m args below meth c H locs cells slots Q (F0 m (pc + 3) ls (.int (nI (us i)) :: rest))) : W p l e Rm s m args below meth c H locs cells slots Q (F0 m pc ls (.ref (ad i).1 :: rest)) :=
  va_getN (ci := ciI) (C := RIt) (T := TI) (N := 5) C.1 C.2.1 C.2.2.2.1 in_I C.2.2.1 C.2.2.2.2.1 hP (6 + (R.length + 3 * i)) (dW_0 hi) rfl 2 (by decide) (va_Nw.use rfl (C.2.2.2.2.2.1 _ (by decide +kernel : Cond.fieldLinkNest RD 113 RIt (TI 2).2.1 (TI 2).2.2.1 RD ∈ nW))) (fun _ h => h) rfl hdg kk
theorem gDI_there (C : cx RD D K p s m args c cc) (hP : va_P D vwCl (dW R o K ad va fl af bl n tc sc T S us ps am) H) (hi : i < n) (hdg : decode cc pc = .ok (.getfield 53, 3)) (kk : W p l e Rm s m args below meth c H locs cells slots Q (F0 m (pc + 3) ls (.int (bI (T i)) :: rest))) : W p l e Rm s m args below meth c H locs cells slots Q (F0 m pc ls (.ref (ad i).1 :: rest)) :=
  va_getN (ci := ciI) (C := RIt) (T := TI) (N := 5) C.1 C.2.1 C.2.2.2.1 in_I C.2.2.1 C.2.2.2.2.1 hP (6 + (R.length + 3 * i)) (dW_0 hi) rfl 3 (by decide) (va_Nw.use rfl (C.2.2.2.2.2.1 _ (by decide +kernel : Cond.fieldLinkNest RD 53 RIt (TI 3).2.1 (TI 3).2.2.1 RD ∈ nW))) (fun _ h => h) rfl hdg kk
theorem gDI_inSet (C : cx RD D K p s m args c cc) (hP : va_P D vwCl (dW R o K ad va fl af bl n tc sc T S us ps am) H) (hi : i < n) (hdg : decode cc pc = .ok (.getfield 66, 3)) (kk : W p l e Rm s m args below meth c H locs cells slots Q (F0 m (pc + 3) ls (.int (bI (S i)) :: rest))) : W p l e Rm s m args below meth c H locs cells slots Q (F0 m pc ls (.ref (ad i).1 :: rest)) :=
  va_getN (ci := ciI) (C := RIt) (T := TI) (N := 5) C.1 C.2.1 C.2.2.2.1 in_I C.2.2.1 C.2.2.2.2.1 hP (6 + (R.length + 3 * i)) (dW_0 hi) rfl 4 (by decide) (va_Nw.use rfl (C.2.2.2.2.2.1 _ (by decide +kernel : Cond.fieldLinkNest RD 66 RIt (TI 4).2.1 (TI 4).2.2.1 RD ∈ nW))) (fun _ h => h) rfl hdg kk
theorem pI_used {v : Nat} (C : cx RIt D K p s m args c cc) (hP : va_P D vwCl (dW R o K ad va fl af bl n tc sc T S us ps am) H) (hD : va_D A (dW R o K ad va fl af bl n tc sc T S us ps am)) (hS : va_S A H0 H locs) (hi : i < n) (hdg : decode cc pc = .ok (.putfield 23, 3)) (kk : ∀ (H1 : Heap) (locs1 : List Loc), va_P D vwCl (dW R o K ad va fl af bl n tc sc T S (va_up us i v) ps am) H1 → va_D A (dW R o K ad va fl af bl n tc sc T S (va_up us i v) ps am) → va_S A H0 H1 locs1 → W p l e Rm s m args below meth c H1 locs1 cells slots Q (F0 m (pc + 3) ls (rest))) : W p l e Rm s m args below meth c H locs cells slots Q (F0 m pc ls (.int (nI v) :: .ref (ad i).1 :: rest)) := by
  refine va_put (ci := ciI) (C := RIt) (T := TI) (N := 5) (ty := .int) C.1 C.2.1 C.2.2.2.1 in_I tyI tyX0_ok nmX0 C.2.2.1 C.2.2.2.2.1 hP hD hS (6 + (R.length + 3 * i)) (dW_0 hi) rfl 2 (by decide) (C.2.2.2.1 _ (by decide +kernel : Cond.fieldLink RIt 23 RIt (TI 2).2.1 (TI 2).2.2.1 ∈ tT)) (fun _ h => h) rfl (by decide +kernel) rfl rfl (Nat.le_of_ble_eq_true rfl) hdg (fun H1 locs1 h1 h2 h3 => ?_)
  have e : _ = (dW R o K ad va fl af bl n tc sc T S (va_up us i v) ps am) := dW_su hi
  exact kk H1 locs1 (e ▸ h1) (e ▸ h2) h3
theorem pDI_there {v : Bool} (C : cx RD D K p s m args c cc) (hP : va_P D vwCl (dW R o K ad va fl af bl n tc sc T S us ps am) H) (hD : va_D A (dW R o K ad va fl af bl n tc sc T S us ps am)) (hS : va_S A H0 H locs) (hi : i < n) (hdg : decode cc pc = .ok (.putfield 53, 3)) (kk : ∀ (H1 : Heap) (locs1 : List Loc), va_P D vwCl (dW R o K ad va fl af bl n tc sc (va_up T i v) S us ps am) H1 → va_D A (dW R o K ad va fl af bl n tc sc (va_up T i v) S us ps am) → va_S A H0 H1 locs1 → W p l e Rm s m args below meth c H1 locs1 cells slots Q (F0 m (pc + 3) ls (rest))) : W p l e Rm s m args below meth c H locs cells slots Q (F0 m pc ls (.int (bI v) :: .ref (ad i).1 :: rest)) := by
  refine va_putN (ci := ciI) (C := RIt) (T := TI) (N := 5) (ty := .boolean) C.1 C.2.1 C.2.2.2.1 in_I tyI tyX0_ok nmX0 C.2.2.1 C.2.2.2.2.1 hP hD hS (6 + (R.length + 3 * i)) (dW_0 hi) rfl 3 (by decide) (va_Nw.use rfl (C.2.2.2.2.2.1 _ (by decide +kernel : Cond.fieldLinkNest RD 53 RIt (TI 3).2.1 (TI 3).2.2.1 RD ∈ nW))) (fun _ h => h) rfl (by decide +kernel) (bI_narrow v) (bI_fits v) (Nat.le_of_ble_eq_true rfl) hdg (fun H1 locs1 h1 h2 h3 => ?_)
  have e : _ = (dW R o K ad va fl af bl n tc sc (va_up T i v) S us ps am) := dW_st hi
  exact kk H1 locs1 (e ▸ h1) (e ▸ h2) h3
theorem pDI_inSet {v : Bool} (C : cx RD D K p s m args c cc) (hP : va_P D vwCl (dW R o K ad va fl af bl n tc sc T S us ps am) H) (hD : va_D A (dW R o K ad va fl af bl n tc sc T S us ps am)) (hS : va_S A H0 H locs) (hi : i < n) (hdg : decode cc pc = .ok (.putfield 66, 3)) (kk : ∀ (H1 : Heap) (locs1 : List Loc), va_P D vwCl (dW R o K ad va fl af bl n tc sc T (va_up S i v) us ps am) H1 → va_D A (dW R o K ad va fl af bl n tc sc T (va_up S i v) us ps am) → va_S A H0 H1 locs1 → W p l e Rm s m args below meth c H1 locs1 cells slots Q (F0 m (pc + 3) ls (rest))) : W p l e Rm s m args below meth c H locs cells slots Q (F0 m pc ls (.int (bI v) :: .ref (ad i).1 :: rest)) := by
  refine va_putN (ci := ciI) (C := RIt) (T := TI) (N := 5) (ty := .boolean) C.1 C.2.1 C.2.2.2.1 in_I tyI tyX0_ok nmX0 C.2.2.1 C.2.2.2.2.1 hP hD hS (6 + (R.length + 3 * i)) (dW_0 hi) rfl 4 (by decide) (va_Nw.use rfl (C.2.2.2.2.2.1 _ (by decide +kernel : Cond.fieldLinkNest RD 66 RIt (TI 4).2.1 (TI 4).2.2.1 RD ∈ nW))) (fun _ h => h) rfl (by decide +kernel) (bI_narrow v) (bI_fits v) (Nat.le_of_ble_eq_true rfl) hdg (fun H1 locs1 h1 h2 h3 => ?_)
  have e : _ = (dW R o K ad va fl af bl n tc sc T (va_up S i v) us ps am) := dW_ss hi
  exact kk H1 locs1 (e ▸ h1) (e ▸ h2) h3
theorem lI_positions (C : cx own D K p s m args c cc) (hP : va_P D vwCl (dW R o K ad va fl af bl n tc sc T S us ps am) H) (hi : i < n) (hk : k < 16) (hdg : decode cc pc = .ok (.iaload, 1)) (kk : W p l e Rm s m args below meth c H locs cells slots Q (F0 m (pc + 1) ls (.int (nI (ps i k)) :: rest))) : W p l e Rm s m args below meth c H locs cells slots Q (F0 m pc ls (.int (nI k) :: .ref (ad i).2.1 :: rest)) := by
  refine va_iald C.1 C.2.1 C.2.2.2.2.1 hP (6 + (R.length + (3 * i + 1))) 1 (dW_1 hi) rfl (vp_in_nI hk (by decide)) hdg ?_
  rw [nI_clamp (by omega)]
  exact kk
theorem lI_amounts (C : cx own D K p s m args c cc) (hP : va_P D vwCl (dW R o K ad va fl af bl n tc sc T S us ps am) H) (hi : i < n) (hk : k < 16) (hdg : decode cc pc = .ok (.laload, 1)) (kk : W p l e Rm s m args below meth c H locs cells slots Q (F0 m (pc + 1) ls (.long (am i k) :: rest))) : W p l e Rm s m args below meth c H locs cells slots Q (F0 m pc ls (.int (nI k) :: .ref (ad i).2.2 :: rest)) := by
  refine va_lald C.1 C.2.1 C.2.2.2.2.1 hP (6 + (R.length + (3 * i + 2))) 0 (dW_2 hi) rfl (vp_in_nI hk (by decide)) hdg ?_
  rw [nI_clamp (by omega)]
  exact kk
theorem sI_positions {x : Nat} (C : cx own D K p s m args c cc) (hP : va_P D vwCl (dW R o K ad va fl af bl n tc sc T S us ps am) H) (hD : va_D A (dW R o K ad va fl af bl n tc sc T S us ps am)) (hS : va_S A H0 H locs) (hi : i < n) (hk : k < 16) (hdg : decode cc pc = .ok (.iastore, 1)) (kk : ∀ (H1 : Heap) (locs1 : List Loc), va_P D vwCl (dW R o K ad va fl af bl n tc sc T S us (va_up ps i (va_up (ps i) k x)) am) H1 → va_D A (dW R o K ad va fl af bl n tc sc T S us (va_up ps i (va_up (ps i) k x)) am) → va_S A H0 H1 locs1 → W p l e Rm s m args below meth c H1 locs1 cells slots Q (F0 m (pc + 1) ls (rest))) : W p l e Rm s m args below meth c H locs cells slots Q (F0 m pc ls (.int (nI x) :: .int (nI k) :: .ref (ad i).2.1 :: rest)) := by
  refine va_iast C.1 C.2.1 C.2.2.2.2.1 hP hD hS (6 + (R.length + (3 * i + 1))) 1 (dW_1 hi) rfl (vp_in_nI hk (by decide)) hdg (fun H1 locs1 h1 h2 h3 => ?_)
  rw [nI_clamp (by omega), upd_nI] at h1 h2
  have e : _ = (dW R o K ad va fl af bl n tc sc T S us (va_up ps i (va_up (ps i) k x)) am) := dW_s1 hi
  exact kk H1 locs1 (e ▸ h1) (e ▸ h2) h3
theorem sI_amounts {x : Int64} (C : cx own D K p s m args c cc) (hP : va_P D vwCl (dW R o K ad va fl af bl n tc sc T S us ps am) H) (hD : va_D A (dW R o K ad va fl af bl n tc sc T S us ps am)) (hS : va_S A H0 H locs) (hi : i < n) (hk : k < 16) (hdg : decode cc pc = .ok (.lastore, 1)) (kk : ∀ (H1 : Heap) (locs1 : List Loc), va_P D vwCl (dW R o K ad va fl af bl n tc sc T S us ps (va_up am i (va_up (am i) k x))) H1 → va_D A (dW R o K ad va fl af bl n tc sc T S us ps (va_up am i (va_up (am i) k x))) → va_S A H0 H1 locs1 → W p l e Rm s m args below meth c H1 locs1 cells slots Q (F0 m (pc + 1) ls (rest))) : W p l e Rm s m args below meth c H locs cells slots Q (F0 m pc ls (.long x :: .int (nI k) :: .ref (ad i).2.2 :: rest)) := by
  refine va_last C.1 C.2.1 C.2.2.2.2.1 hP hD hS (6 + (R.length + (3 * i + 2))) 0 (dW_2 hi) rfl (vp_in_nI hk (by decide)) hdg (fun H1 locs1 h1 h2 h3 => ?_)
  rw [nI_clamp (by omega)] at h1 h2
  have e : _ = (dW R o K ad va fl af bl n tc sc T S us ps (va_up am i (va_up (am i) k x))) := dW_s2 hi
  exact kk H1 locs1 (e ▸ h1) (e ▸ h2) h3
theorem gM_values (C : cx RM D K p s m args c cc) (hP : va_P D vwCl (mW R o K va fl n th ch mn po an) H)  (hdg : decode cc pc = .ok (.getfield 7, 3)) (kk : W p l e Rm s m args below meth c H locs cells slots Q (F0 m (pc + 3) ls (.ref (o 1) :: rest))) : W p l e Rm s m args below meth c H locs cells slots Q (F0 m pc ls (.ref (o 0) :: rest)) :=
  va_get (ci := ciM) (C := RM) (T := TM) (N := 8) C.1 C.2.1 C.2.2.2.1 in_M C.2.2.1 C.2.2.2.2.1 hP 0 rfl rfl 0 (by decide) (C.2.2.2.1 _ (by decide +kernel : Cond.fieldLink RM 7 RM (TM 0).2.1 (TM 0).2.2.1 ∈ tT)) (fun _ h => h) rfl hdg kk
theorem gM_floors (C : cx RM D K p s m args c cc) (hP : va_P D vwCl (mW R o K va fl n th ch mn po an) H)  (hdg : decode cc pc = .ok (.getfield 13, 3)) (kk : W p l e Rm s m args below meth c H locs cells slots Q (F0 m (pc + 3) ls (.ref (o 2) :: rest))) : W p l e Rm s m args below meth c H locs cells slots Q (F0 m pc ls (.ref (o 0) :: rest)) :=
  va_get (ci := ciM) (C := RM) (T := TM) (N := 8) C.1 C.2.1 C.2.2.2.1 in_M C.2.2.1 C.2.2.2.2.1 hP 0 rfl rfl 1 (by decide) (C.2.2.2.1 _ (by decide +kernel : Cond.fieldLink RM 13 RM (TM 1).2.1 (TM 1).2.2.1 ∈ tT)) (fun _ h => h) rfl hdg kk
theorem gM_items (C : cx RM D K p s m args c cc) (hP : va_P D vwCl (mW R o K va fl n th ch mn po an) H)  (hdg : decode cc pc = .ok (.getfield 45, 3)) (kk : W p l e Rm s m args below meth c H locs cells slots Q (F0 m (pc + 3) ls (.int (nI n) :: rest))) : W p l e Rm s m args below meth c H locs cells slots Q (F0 m pc ls (.ref (o 0) :: rest)) :=
  va_get (ci := ciM) (C := RM) (T := TM) (N := 8) C.1 C.2.1 C.2.2.2.1 in_M C.2.2.1 C.2.2.2.2.1 hP 0 rfl rfl 2 (by decide) (C.2.2.2.1 _ (by decide +kernel : Cond.fieldLink RM 45 RM (TM 2).2.1 (TM 2).2.2.1 ∈ tT)) (fun _ h => h) rfl hdg kk
theorem gM_there (C : cx RM D K p s m args c cc) (hP : va_P D vwCl (mW R o K va fl n th ch mn po an) H)  (hdg : decode cc pc = .ok (.getfield 16, 3)) (kk : W p l e Rm s m args below meth c H locs cells slots Q (F0 m (pc + 3) ls (.ref (o 3) :: rest))) : W p l e Rm s m args below meth c H locs cells slots Q (F0 m pc ls (.ref (o 0) :: rest)) :=
  va_get (ci := ciM) (C := RM) (T := TM) (N := 8) C.1 C.2.1 C.2.2.2.1 in_M C.2.2.1 C.2.2.2.2.1 hP 0 rfl rfl 3 (by decide) (C.2.2.2.1 _ (by decide +kernel : Cond.fieldLink RM 16 RM (TM 3).2.1 (TM 3).2.2.1 ∈ tT)) (fun _ h => h) rfl hdg kk
theorem gM_chosen (C : cx RM D K p s m args c cc) (hP : va_P D vwCl (mW R o K va fl n th ch mn po an) H)  (hdg : decode cc pc = .ok (.getfield 20, 3)) (kk : W p l e Rm s m args below meth c H locs cells slots Q (F0 m (pc + 3) ls (.ref (o 4) :: rest))) : W p l e Rm s m args below meth c H locs cells slots Q (F0 m pc ls (.ref (o 0) :: rest)) :=
  va_get (ci := ciM) (C := RM) (T := TM) (N := 8) C.1 C.2.1 C.2.2.2.1 in_M C.2.2.1 C.2.2.2.2.1 hP 0 rfl rfl 4 (by decide) (C.2.2.2.1 _ (by decide +kernel : Cond.fieldLink RM 20 RM (TM 4).2.1 (TM 4).2.2.1 ∈ tT)) (fun _ h => h) rfl hdg kk
theorem gM_many (C : cx RM D K p s m args c cc) (hP : va_P D vwCl (mW R o K va fl n th ch mn po an) H)  (hdg : decode cc pc = .ok (.getfield 23, 3)) (kk : W p l e Rm s m args below meth c H locs cells slots Q (F0 m (pc + 3) ls (.ref (o 5) :: rest))) : W p l e Rm s m args below meth c H locs cells slots Q (F0 m pc ls (.ref (o 0) :: rest)) :=
  va_get (ci := ciM) (C := RM) (T := TM) (N := 8) C.1 C.2.1 C.2.2.2.1 in_M C.2.2.1 C.2.2.2.2.1 hP 0 rfl rfl 5 (by decide) (C.2.2.2.1 _ (by decide +kernel : Cond.fieldLink RM 23 RM (TM 5).2.1 (TM 5).2.2.1 ∈ tT)) (fun _ h => h) rfl hdg kk
theorem gM_positions (C : cx RM D K p s m args c cc) (hP : va_P D vwCl (mW R o K va fl n th ch mn po an) H)  (hdg : decode cc pc = .ok (.getfield 27, 3)) (kk : W p l e Rm s m args below meth c H locs cells slots Q (F0 m (pc + 3) ls (.ref (o 6) :: rest))) : W p l e Rm s m args below meth c H locs cells slots Q (F0 m pc ls (.ref (o 0) :: rest)) :=
  va_get (ci := ciM) (C := RM) (T := TM) (N := 8) C.1 C.2.1 C.2.2.2.1 in_M C.2.2.1 C.2.2.2.2.1 hP 0 rfl rfl 6 (by decide) (C.2.2.2.1 _ (by decide +kernel : Cond.fieldLink RM 27 RM (TM 6).2.1 (TM 6).2.2.1 ∈ tT)) (fun _ h => h) rfl hdg kk
theorem gM_amounts (C : cx RM D K p s m args c cc) (hP : va_P D vwCl (mW R o K va fl n th ch mn po an) H)  (hdg : decode cc pc = .ok (.getfield 30, 3)) (kk : W p l e Rm s m args below meth c H locs cells slots Q (F0 m (pc + 3) ls (.ref (o 7) :: rest))) : W p l e Rm s m args below meth c H locs cells slots Q (F0 m pc ls (.ref (o 0) :: rest)) :=
  va_get (ci := ciM) (C := RM) (T := TM) (N := 8) C.1 C.2.1 C.2.2.2.1 in_M C.2.2.1 C.2.2.2.2.1 hP 0 rfl rfl 7 (by decide) (C.2.2.2.1 _ (by decide +kernel : Cond.fieldLink RM 30 RM (TM 7).2.1 (TM 7).2.2.1 ∈ tT)) (fun _ h => h) rfl hdg kk
theorem pM_items {v : Nat} (C : cx RM D K p s m args c cc) (hP : va_P D vwCl (mW R o K va fl n th ch mn po an) H) (hD : va_D A (mW R o K va fl n th ch mn po an)) (hS : va_S A H0 H locs)  (hdg : decode cc pc = .ok (.putfield 45, 3)) (kk : ∀ (H1 : Heap) (locs1 : List Loc), va_P D vwCl (mW R o K va fl v th ch mn po an) H1 → va_D A (mW R o K va fl v th ch mn po an) → va_S A H0 H1 locs1 → W p l e Rm s m args below meth c H1 locs1 cells slots Q (F0 m (pc + 3) ls (rest))) : W p l e Rm s m args below meth c H locs cells slots Q (F0 m pc ls (.int (nI v) :: .ref (o 0) :: rest)) := by
  refine va_put (ci := ciM) (C := RM) (T := TM) (N := 8) (ty := .int) C.1 C.2.1 C.2.2.2.1 in_M tyM tyX2_ok nmX2 C.2.2.1 C.2.2.2.2.1 hP hD hS 0 rfl rfl 2 (by decide) (C.2.2.2.1 _ (by decide +kernel : Cond.fieldLink RM 45 RM (TM 2).2.1 (TM 2).2.2.1 ∈ tT)) (fun _ h => h) rfl (by decide +kernel) rfl rfl (Nat.le_of_ble_eq_true rfl) hdg (fun H1 locs1 h1 h2 h3 => ?_)
  exact kk H1 locs1 h1 h2 h3
theorem lM_values (C : cx own D K p s m args c cc) (hP : va_P D vwCl (mW R o K va fl n th ch mn po an) H)  (hk : k < 300) (hdg : decode cc pc = .ok (.laload, 1)) (kk : W p l e Rm s m args below meth c H locs cells slots Q (F0 m (pc + 1) ls (.long (va k) :: rest))) : W p l e Rm s m args below meth c H locs cells slots Q (F0 m pc ls (.int (nI k) :: .ref (o 1) :: rest)) := by
  refine va_lald C.1 C.2.1 C.2.2.2.2.1 hP 1 0 rfl rfl (vp_in_nI hk (by decide)) hdg ?_
  rw [nI_clamp (by omega)]
  exact kk
theorem lM_floors (C : cx own D K p s m args c cc) (hP : va_P D vwCl (mW R o K va fl n th ch mn po an) H)  (hk : k < 300) (hdg : decode cc pc = .ok (.laload, 1)) (kk : W p l e Rm s m args below meth c H locs cells slots Q (F0 m (pc + 1) ls (.long (fl k) :: rest))) : W p l e Rm s m args below meth c H locs cells slots Q (F0 m pc ls (.int (nI k) :: .ref (o 2) :: rest)) := by
  refine va_lald C.1 C.2.1 C.2.2.2.2.1 hP 2 0 rfl rfl (vp_in_nI hk (by decide)) hdg ?_
  rw [nI_clamp (by omega)]
  exact kk
theorem lM_there (C : cx own D K p s m args c cc) (hP : va_P D vwCl (mW R o K va fl n th ch mn po an) H)  (hk : k < 200) (hdg : decode cc pc = .ok (.baload, 1)) (kk : W p l e Rm s m args below meth c H locs cells slots Q (F0 m (pc + 1) ls (.int (bI (th k)) :: rest))) : W p l e Rm s m args below meth c H locs cells slots Q (F0 m pc ls (.int (nI k) :: .ref (o 3) :: rest)) := by
  refine va_zald C.1 C.2.1 C.2.2.2.2.1 hP 3 2 rfl rfl (vp_in_nI hk (by decide)) hdg ?_
  rw [nI_clamp (by omega)]
  exact kk
theorem lM_chosen (C : cx own D K p s m args c cc) (hP : va_P D vwCl (mW R o K va fl n th ch mn po an) H)  (hk : k < 200) (hdg : decode cc pc = .ok (.baload, 1)) (kk : W p l e Rm s m args below meth c H locs cells slots Q (F0 m (pc + 1) ls (.int (bI (ch k)) :: rest))) : W p l e Rm s m args below meth c H locs cells slots Q (F0 m pc ls (.int (nI k) :: .ref (o 4) :: rest)) := by
  refine va_zald C.1 C.2.1 C.2.2.2.2.1 hP 4 2 rfl rfl (vp_in_nI hk (by decide)) hdg ?_
  rw [nI_clamp (by omega)]
  exact kk
theorem lM_many (C : cx own D K p s m args c cc) (hP : va_P D vwCl (mW R o K va fl n th ch mn po an) H)  (hk : k < 200) (hdg : decode cc pc = .ok (.iaload, 1)) (kk : W p l e Rm s m args below meth c H locs cells slots Q (F0 m (pc + 1) ls (.int (nI (mn k)) :: rest))) : W p l e Rm s m args below meth c H locs cells slots Q (F0 m pc ls (.int (nI k) :: .ref (o 5) :: rest)) := by
  refine va_iald C.1 C.2.1 C.2.2.2.2.1 hP 5 1 rfl rfl (vp_in_nI hk (by decide)) hdg ?_
  rw [nI_clamp (by omega)]
  exact kk
theorem lM_positions (C : cx own D K p s m args c cc) (hP : va_P D vwCl (mW R o K va fl n th ch mn po an) H)  (hk : k < 3200) (hdg : decode cc pc = .ok (.iaload, 1)) (kk : W p l e Rm s m args below meth c H locs cells slots Q (F0 m (pc + 1) ls (.int (nI (po k)) :: rest))) : W p l e Rm s m args below meth c H locs cells slots Q (F0 m pc ls (.int (nI k) :: .ref (o 6) :: rest)) := by
  refine va_iald C.1 C.2.1 C.2.2.2.2.1 hP 6 1 rfl rfl (vp_in_nI hk (by decide)) hdg ?_
  rw [nI_clamp (by omega)]
  exact kk
theorem lM_amounts (C : cx own D K p s m args c cc) (hP : va_P D vwCl (mW R o K va fl n th ch mn po an) H)  (hk : k < 3200) (hdg : decode cc pc = .ok (.laload, 1)) (kk : W p l e Rm s m args below meth c H locs cells slots Q (F0 m (pc + 1) ls (.long (an k) :: rest))) : W p l e Rm s m args below meth c H locs cells slots Q (F0 m pc ls (.int (nI k) :: .ref (o 7) :: rest)) := by
  refine va_lald C.1 C.2.1 C.2.2.2.2.1 hP 7 0 rfl rfl (vp_in_nI hk (by decide)) hdg ?_
  rw [nI_clamp (by omega)]
  exact kk
theorem sM_values {x : Int64} (C : cx own D K p s m args c cc) (hP : va_P D vwCl (mW R o K va fl n th ch mn po an) H) (hD : va_D A (mW R o K va fl n th ch mn po an)) (hS : va_S A H0 H locs)  (hk : k < 300) (hdg : decode cc pc = .ok (.lastore, 1)) (kk : ∀ (H1 : Heap) (locs1 : List Loc), va_P D vwCl (mW R o K (va_up va k x) fl n th ch mn po an) H1 → va_D A (mW R o K (va_up va k x) fl n th ch mn po an) → va_S A H0 H1 locs1 → W p l e Rm s m args below meth c H1 locs1 cells slots Q (F0 m (pc + 1) ls (rest))) : W p l e Rm s m args below meth c H locs cells slots Q (F0 m pc ls (.long x :: .int (nI k) :: .ref (o 1) :: rest)) := by
  refine va_last C.1 C.2.1 C.2.2.2.2.1 hP hD hS 1 0 rfl rfl (vp_in_nI hk (by decide)) hdg (fun H1 locs1 h1 h2 h3 => ?_)
  rw [nI_clamp (by omega)] at h1 h2
  exact kk H1 locs1 h1 h2 h3
theorem sM_floors {x : Int64} (C : cx own D K p s m args c cc) (hP : va_P D vwCl (mW R o K va fl n th ch mn po an) H) (hD : va_D A (mW R o K va fl n th ch mn po an)) (hS : va_S A H0 H locs)  (hk : k < 300) (hdg : decode cc pc = .ok (.lastore, 1)) (kk : ∀ (H1 : Heap) (locs1 : List Loc), va_P D vwCl (mW R o K va (va_up fl k x) n th ch mn po an) H1 → va_D A (mW R o K va (va_up fl k x) n th ch mn po an) → va_S A H0 H1 locs1 → W p l e Rm s m args below meth c H1 locs1 cells slots Q (F0 m (pc + 1) ls (rest))) : W p l e Rm s m args below meth c H locs cells slots Q (F0 m pc ls (.long x :: .int (nI k) :: .ref (o 2) :: rest)) := by
  refine va_last C.1 C.2.1 C.2.2.2.2.1 hP hD hS 2 0 rfl rfl (vp_in_nI hk (by decide)) hdg (fun H1 locs1 h1 h2 h3 => ?_)
  rw [nI_clamp (by omega)] at h1 h2
  exact kk H1 locs1 h1 h2 h3
theorem sM_there {x : Bool} (C : cx own D K p s m args c cc) (hP : va_P D vwCl (mW R o K va fl n th ch mn po an) H) (hD : va_D A (mW R o K va fl n th ch mn po an)) (hS : va_S A H0 H locs)  (hk : k < 200) (hdg : decode cc pc = .ok (.bastore, 1)) (kk : ∀ (H1 : Heap) (locs1 : List Loc), va_P D vwCl (mW R o K va fl n (va_up th k x) ch mn po an) H1 → va_D A (mW R o K va fl n (va_up th k x) ch mn po an) → va_S A H0 H1 locs1 → W p l e Rm s m args below meth c H1 locs1 cells slots Q (F0 m (pc + 1) ls (rest))) : W p l e Rm s m args below meth c H locs cells slots Q (F0 m pc ls (.int (bI x) :: .int (nI k) :: .ref (o 3) :: rest)) := by
  refine va_zast C.1 C.2.1 C.2.2.2.2.1 hP hD hS 3 2 rfl rfl (vp_in_nI hk (by decide)) hdg (fun H1 locs1 h1 h2 h3 => ?_)
  rw [nI_clamp (by omega), upd_bI] at h1 h2
  exact kk H1 locs1 h1 h2 h3
theorem sM_chosen {x : Bool} (C : cx own D K p s m args c cc) (hP : va_P D vwCl (mW R o K va fl n th ch mn po an) H) (hD : va_D A (mW R o K va fl n th ch mn po an)) (hS : va_S A H0 H locs)  (hk : k < 200) (hdg : decode cc pc = .ok (.bastore, 1)) (kk : ∀ (H1 : Heap) (locs1 : List Loc), va_P D vwCl (mW R o K va fl n th (va_up ch k x) mn po an) H1 → va_D A (mW R o K va fl n th (va_up ch k x) mn po an) → va_S A H0 H1 locs1 → W p l e Rm s m args below meth c H1 locs1 cells slots Q (F0 m (pc + 1) ls (rest))) : W p l e Rm s m args below meth c H locs cells slots Q (F0 m pc ls (.int (bI x) :: .int (nI k) :: .ref (o 4) :: rest)) := by
  refine va_zast C.1 C.2.1 C.2.2.2.2.1 hP hD hS 4 2 rfl rfl (vp_in_nI hk (by decide)) hdg (fun H1 locs1 h1 h2 h3 => ?_)
  rw [nI_clamp (by omega), upd_bI] at h1 h2
  exact kk H1 locs1 h1 h2 h3
theorem sM_many {x : Nat} (C : cx own D K p s m args c cc) (hP : va_P D vwCl (mW R o K va fl n th ch mn po an) H) (hD : va_D A (mW R o K va fl n th ch mn po an)) (hS : va_S A H0 H locs)  (hk : k < 200) (hdg : decode cc pc = .ok (.iastore, 1)) (kk : ∀ (H1 : Heap) (locs1 : List Loc), va_P D vwCl (mW R o K va fl n th ch (va_up mn k x) po an) H1 → va_D A (mW R o K va fl n th ch (va_up mn k x) po an) → va_S A H0 H1 locs1 → W p l e Rm s m args below meth c H1 locs1 cells slots Q (F0 m (pc + 1) ls (rest))) : W p l e Rm s m args below meth c H locs cells slots Q (F0 m pc ls (.int (nI x) :: .int (nI k) :: .ref (o 5) :: rest)) := by
  refine va_iast C.1 C.2.1 C.2.2.2.2.1 hP hD hS 5 1 rfl rfl (vp_in_nI hk (by decide)) hdg (fun H1 locs1 h1 h2 h3 => ?_)
  rw [nI_clamp (by omega), upd_nI] at h1 h2
  exact kk H1 locs1 h1 h2 h3
theorem sM_positions {x : Nat} (C : cx own D K p s m args c cc) (hP : va_P D vwCl (mW R o K va fl n th ch mn po an) H) (hD : va_D A (mW R o K va fl n th ch mn po an)) (hS : va_S A H0 H locs)  (hk : k < 3200) (hdg : decode cc pc = .ok (.iastore, 1)) (kk : ∀ (H1 : Heap) (locs1 : List Loc), va_P D vwCl (mW R o K va fl n th ch mn (va_up po k x) an) H1 → va_D A (mW R o K va fl n th ch mn (va_up po k x) an) → va_S A H0 H1 locs1 → W p l e Rm s m args below meth c H1 locs1 cells slots Q (F0 m (pc + 1) ls (rest))) : W p l e Rm s m args below meth c H locs cells slots Q (F0 m pc ls (.int (nI x) :: .int (nI k) :: .ref (o 6) :: rest)) := by
  refine va_iast C.1 C.2.1 C.2.2.2.2.1 hP hD hS 6 1 rfl rfl (vp_in_nI hk (by decide)) hdg (fun H1 locs1 h1 h2 h3 => ?_)
  rw [nI_clamp (by omega), upd_nI] at h1 h2
  exact kk H1 locs1 h1 h2 h3
theorem sM_amounts {x : Int64} (C : cx own D K p s m args c cc) (hP : va_P D vwCl (mW R o K va fl n th ch mn po an) H) (hD : va_D A (mW R o K va fl n th ch mn po an)) (hS : va_S A H0 H locs)  (hk : k < 3200) (hdg : decode cc pc = .ok (.lastore, 1)) (kk : ∀ (H1 : Heap) (locs1 : List Loc), va_P D vwCl (mW R o K va fl n th ch mn po (va_up an k x)) H1 → va_D A (mW R o K va fl n th ch mn po (va_up an k x)) → va_S A H0 H1 locs1 → W p l e Rm s m args below meth c H1 locs1 cells slots Q (F0 m (pc + 1) ls (rest))) : W p l e Rm s m args below meth c H locs cells slots Q (F0 m pc ls (.long x :: .int (nI k) :: .ref (o 7) :: rest)) := by
  refine va_last C.1 C.2.1 C.2.2.2.2.1 hP hD hS 7 0 rfl rfl (vp_in_nI hk (by decide)) hdg (fun H1 locs1 h1 h2 h3 => ?_)
  rw [nI_clamp (by omega)] at h1 h2
  exact kk H1 locs1 h1 h2 h3
end ROWS
end
section
/-! NEW CELLS: arrays under the classes K; the tables' classes at the start -/
section NEWC
variable {p : Program} {l : Launch} {e : Env} {Rm : Room} {s : State} {m : MethodId} {args : Array Value} {below : List Frame} {meth : Method} {c : Code} {H : Heap} {locs : List Loc} {cells slots : Nat} {Q : State → Prop} {cc : ByteArray} {pc : Nat} {ls : Array Slot} {rest : List Value} {own : String} {D : va_G} {A : Nat → Prop} {H0 : Heap} {K : Nat → ClassId} {ws : va_W} {N : Nat}
theorem nwJ (C : cx own D K p s m args c cc) (hP : va_P D vwCl ws H) (hD : va_D A ws) (hS : va_S A H0 H locs) (hA : ∀ q, H0.size ≤ q → A q) (hN : N < 5000) (hc : cells + 1 ≤ Rm.cells) (hs : slots + N ≤ Rm.slots) (hdg : decode cc pc = .ok (.newarray .long, 2)) (kk : ∀ (q : Nat) (H1 : Heap), va_P D vwCl (ws ++ [(q, .inl (K 0, N, .inr (.inl (fun _ => 0))))]) H1 → va_D A (ws ++ [(q, .inl (K 0, N, .inr (.inl (fun _ => 0))))]) → va_S A H0 H1 locs → W p l e Rm s m args below meth c H1 locs (cells + 1) (slots + N) Q (F0 m (pc + 2) ls (.ref q :: rest))) : W p l e Rm s m args below meth c H locs cells slots Q (F0 m pc ls (.int (nI N) :: rest)) := by
  refine va_newa (atype := .long) (ty := .long) (a0 := (N, .inr (.inl (fun _ => 0)))) C.1 C.2.1 (C.2.2.2.1 _ (by decide +kernel : Cond.arrayClass .long ∈ tT)) rfl C.2.2.2.2.1 hP hD hS hA (fun cA => rfl) (nI_pos (by omega)) (nI_clamp (by omega)) (by show N * 8 ≤ 536870912; omega) hc hs hdg (fun q cA H1 hK1 hP1 hD1 hS1 => ?_)
  have e : cA = K 0 := Option.some.inj ((hK1.2 4 _ rfl).2.symm.trans (C.2.2.2.2.1.2 0 _ rfl).2)
  subst e
  exact kk q H1 hP1 hD1 hS1
theorem nwI (C : cx own D K p s m args c cc) (hP : va_P D vwCl ws H) (hD : va_D A ws) (hS : va_S A H0 H locs) (hA : ∀ q, H0.size ≤ q → A q) (hN : N < 5000) (hc : cells + 1 ≤ Rm.cells) (hs : slots + N ≤ Rm.slots) (hdg : decode cc pc = .ok (.newarray .int, 2)) (kk : ∀ (q : Nat) (H1 : Heap), va_P D vwCl (ws ++ [(q, .inl (K 1, N, .inl (fun _ => nI 0)))]) H1 → va_D A (ws ++ [(q, .inl (K 1, N, .inl (fun _ => nI 0)))]) → va_S A H0 H1 locs → W p l e Rm s m args below meth c H1 locs (cells + 1) (slots + N) Q (F0 m (pc + 2) ls (.ref q :: rest))) : W p l e Rm s m args below meth c H locs cells slots Q (F0 m pc ls (.int (nI N) :: rest)) := by
  refine va_newa (atype := .int) (ty := .int) (a0 := (N, .inl (fun _ => nI 0))) C.1 C.2.1 (C.2.2.2.1 _ (by decide +kernel : Cond.arrayClass .int ∈ tT)) rfl C.2.2.2.2.1 hP hD hS hA (fun cA => rfl) (nI_pos (by omega)) (nI_clamp (by omega)) (by show N * 4 ≤ 536870912; omega) hc hs hdg (fun q cA H1 hK1 hP1 hD1 hS1 => ?_)
  have e : cA = K 1 := Option.some.inj ((hK1.2 4 _ rfl).2.symm.trans (C.2.2.2.2.1.2 1 _ rfl).2)
  subst e
  exact kk q H1 hP1 hD1 hS1
theorem nwZ (C : cx own D K p s m args c cc) (hP : va_P D vwCl ws H) (hD : va_D A ws) (hS : va_S A H0 H locs) (hA : ∀ q, H0.size ≤ q → A q) (hN : N < 5000) (hc : cells + 1 ≤ Rm.cells) (hs : slots + N ≤ Rm.slots) (hdg : decode cc pc = .ok (.newarray .boolean, 2)) (kk : ∀ (q : Nat) (H1 : Heap), va_P D vwCl (ws ++ [(q, .inl (K 2, N, .inl (fun _ => bI false)))]) H1 → va_D A (ws ++ [(q, .inl (K 2, N, .inl (fun _ => bI false)))]) → va_S A H0 H1 locs → W p l e Rm s m args below meth c H1 locs (cells + 1) (slots + N) Q (F0 m (pc + 2) ls (.ref q :: rest))) : W p l e Rm s m args below meth c H locs cells slots Q (F0 m pc ls (.int (nI N) :: rest)) := by
  refine va_newa (atype := .boolean) (ty := .boolean) (a0 := (N, .inl (fun _ => bI false))) C.1 C.2.1 (C.2.2.2.1 _ (by decide +kernel : Cond.arrayClass .boolean ∈ tT)) rfl C.2.2.2.2.1 hP hD hS hA (fun cA => rfl) (nI_pos (by omega)) (nI_clamp (by omega)) (by show N * 1 ≤ 536870912; omega) hc hs hdg (fun q cA H1 hK1 hP1 hD1 hS1 => ?_)
  have e : cA = K 2 := Option.some.inj ((hK1.2 4 _ rfl).2.symm.trans (C.2.2.2.2.1.2 2 _ rfl).2)
  subst e
  exact kk q H1 hP1 hD1 hS1
theorem nwQ {index : Nat} (C : cx own D K p s m args c cc) (hlk : Cond.classLink own index RIt ∈ tT) (hP : va_P D vwCl ws H) (hD : va_D A ws) (hS : va_S A H0 H locs) (hA : ∀ q, H0.size ≤ q → A q) (hN : N < 5000) (hc : cells + 1 ≤ Rm.cells) (hs : slots + N ≤ Rm.slots) (hdg : decode cc pc = .ok (.anewarray index, 3)) (kk : ∀ (q : Nat) (H1 : Heap), va_P D vwCl (ws ++ [(q, .inl (K 3, N, .inr (.inr (.inr (.inr (fun _ => none))))))]) H1 → va_D A (ws ++ [(q, .inl (K 3, N, .inr (.inr (.inr (.inr (fun _ => none))))))]) → va_S A H0 H1 locs → W p l e Rm s m args below meth c H1 locs (cells + 1) (slots + N) Q (F0 m (pc + 3) ls (.ref q :: rest))) : W p l e Rm s m args below meth c H locs cells slots Q (F0 m pc ls (.int (nI N) :: rest)) := by
  refine va_newq C.1 C.2.1 C.2.2.1 (C.2.2.2.1 _ hlk) C.2.2.2.2.2.2 C.2.2.2.2.1 hP hD hS hA (nI_pos (by omega)) (nI_clamp (by omega)) (by omega) hc hs hdg (fun q cA H1 hK1 hP1 hD1 hS1 => ?_)
  have e : cA = K 3 := by
    obtain ⟨k1, c1, -, -, -, f1⟩ := (hK1.2 4 _ rfl).2
    obtain ⟨k2, c2, -, -, -, f2⟩ := (C.2.2.2.2.1.2 3 _ rfl).2
    exact Option.some.inj (f1.symm.trans f2)
  subst e
  exact kk q H1 hP1 hD1 hS1
end NEWC
/-- the array classes of the tables -/
theorem mkK {D : va_G} {args : Array Value} {s : State} (hc : ∀ (c : Nat) (q : vw_C), vwCl[c]? = some q → u_Kn s q.1 q.2.1 q.2.2 (D.1 c) (D.2 c)) (hts : ∀ w ∈ tT, w.before args s = true) (hO : va_AO RIt s) : ∃ K : Nat → ClassId, va_K D vwCl (tyK K) s := by
  obtain ⟨a0, k0, q0, f0, g0, h0⟩ := Cond.arrayClass_spec (hts _ (by decide +kernel : Cond.arrayClass .long ∈ tT))
  obtain ⟨a1, k1, q1, f1, g1, h1⟩ := Cond.arrayClass_spec (hts _ (by decide +kernel : Cond.arrayClass .int ∈ tT))
  obtain ⟨a2, k2, q2, f2, g2, h2⟩ := Cond.arrayClass_spec (hts _ (by decide +kernel : Cond.arrayClass .boolean ∈ tT))
  obtain ⟨q3, a3, k3, e3, -, g3, h3, f3⟩ := Cond.arrayOver_spec hO
  refine ⟨fun k => if k = 0 then a0 else if k = 1 then a1 else if k = 2 then a2 else a3, hc, fun k q hk => ?_⟩
  match k, hk with
  | 0, hk => cases hk; exact ⟨fun n z => ⟨fun k h => (by cases h), k0, g0, q0, h0⟩, f0⟩
  | 1, hk => cases hk; exact ⟨fun n z => ⟨fun k h => (by cases h), k1, g1, q1, h1⟩, f1⟩
  | 2, hk => cases hk; exact ⟨fun n z => ⟨fun k h => (by cases h), k2, g2, q2, h2⟩, f2⟩
  | 3, hk => cases hk; exact ⟨fun n z => ⟨fun k h => (by cases h), k3, g3, q3, h3⟩, k3, q3, g3, h3, e3, f3⟩
  | k + 4, hk => cases hk
end
section
/-! WORDS FOR ANSWERS -/
def isP (x : Int32) : Bool := decide (¬ x < 0 ∧ ¬ nI 300 ≤ x)
def isV (v : Int64) : Bool := decide (¬ v < (-1000000000000000000) ∧ ¬ 1000000000000000000 < v)
theorem b0 {b : Bool} (h : b = false) : nI 0 = bI b := by rw [h]; decide
theorem b1 {b : Bool} (h : b = true) : nI 1 = bI b := by rw [h]; decide
theorem rt0 {b : Bool} (h : b = false) : Outcome.returned (some (Value.int (nI 0))) = Outcome.returned (some (Value.int (bI b))) := by rw [← b0 h]
theorem rt1 {b : Bool} (h : b = true) : Outcome.returned (some (Value.int (nI 1))) = Outcome.returned (some (Value.int (bI b))) := by rw [← b1 h]
theorem rti {x y : Int32} (h : x = y) : Outcome.returned (some (Value.int x)) = Outcome.returned (some (Value.int y)) := by rw [h]
theorem rtl {x y : Int64} (h : x = y) : Outcome.returned (some (Value.long x)) = Outcome.returned (some (Value.long y)) := by rw [h]
theorem isP_of {x : Int32} (h : isP x = true) : ∃ p : Nat, p < 300 ∧ x = nI p := by
  have h := of_decide_eq_true h
  rcases pk_ix x (n := 300) (by decide) with q | q | q
  · exact absurd q h.1
  · exact absurd q h.2
  · exact q
theorem isP_nI {p : Nat} (h : p < 300) : isP (nI p) = true := decide_eq_true ⟨nI_pos (by omega), nI_ge h (by decide)⟩
theorem isV_of {v : Int64} (h : isV v = true) : -1000000000000000000 ≤ v.toInt ∧ v.toInt ≤ 1000000000000000000 := by
  have h := of_decide_eq_true h
  rw [i64_lt, i64_lt] at h
  have e1 : (-1000000000000000000 : Int64).toInt = -1000000000000000000 := by decide
  have e2 : (1000000000000000000 : Int64).toInt = 1000000000000000000 := by decide
  rw [e1, e2] at h
  omega
/-- the slot of a position, or -1 -/
def slR (ps : Nat → Nat) (x : Int32) (u : Nat) : Int32 := if fs (qx ps x) u 0 < u then nI (fs (qx ps x) u 0) else (-1)
theorem fs_eq {q : Nat → Bool} {u k : Nat} (hk : k < u) (h : q k = true) (hm : ∀ j, j < k → q j = false) : fs q u 0 = k := by
  have h1 := fs_le q u 0
  rcases Nat.lt_trichotomy (fs q u 0) k with z | z | z
  · have := fs_hit q u 0 (by omega)
    rw [hm _ z] at this
    cases this
  · exact z
  · have := fs_miss q u 0 k (Nat.zero_le k) z
    rw [h] at this
    cases this
theorem fs_no {q : Nat → Bool} {u : Nat} (hm : ∀ j, j < u → q j = false) : fs q u 0 = u := by
  have h1 := fs_le q u 0
  rcases Nat.lt_or_ge (fs q u 0) u with z | z
  · have := fs_hit q u 0 (by omega)
    rw [hm _ z] at this
    cases this
  · omega
theorem slR_hit {ps : Nat → Nat} {x : Int32} {u k : Nat} (hk : k < u) (h : nI (ps k) = x) (hm : ∀ j, j < k → ¬ nI (ps j) = x) : nI k = slR ps x u := by
  unfold slR
  rw [fs_eq hk (show qx ps x k = true from decide_eq_true h) (fun j hj => decide_eq_false (hm j hj)), if_pos hk]
theorem slR_no {ps : Nat → Nat} {x : Int32} {u : Nat} (hm : ∀ j, j < u → ¬ nI (ps j) = x) : (-1) = slR ps x u := by
  unfold slR
  rw [fs_no (q := qx ps x) (fun j hj => decide_eq_false (hm j hj)), if_neg (Nat.lt_irrefl u)]
theorem slR_or (ps : Nat → Nat) (x : Int32) (u : Nat) : (fs (qx ps x) u 0 < u ∧ slR ps x u = nI (fs (qx ps x) u 0)) ∨ (¬ fs (qx ps x) u 0 < u ∧ slR ps x u = (-1)) := by
  by_cases h : fs (qx ps x) u 0 < u
  · exact Or.inl ⟨h, if_pos h⟩
  · exact Or.inr ⟨h, if_neg h⟩
theorem ntq_hit {q : Nat → Bool} {u : Nat} {am : Nat → Int64} (h : fs q u 0 < u) : am (fs q u 0) = ntq q u am := (if_pos h).symm
theorem ntq_no {q : Nat → Bool} {u : Nat} {am : Nat → Int64} (h : ¬ fs q u 0 < u) : 0 = ntq q u am := (if_neg h).symm
def cntS (x : Int32) (n tc sc : Nat) : Int32 := if x = nI 0 then nI n else if x = nI 1 then nI tc else if x = nI 2 then nI sc else (-1)
end
section
/-! the words of each call, printed by wip/whole/tools/calls.py -/
set_option maxRecDepth 20000 in
theorem gD_29 : GoodIn tT (wsS RX1 29 yX1_isPosition (tC yX1_isPosition cX1_isPosition 1 (some .boolean))) := gdT (ws := [Cond.methodLink RX1 29 yX1_isPosition, Cond.static yX1_isPosition, Cond.initialized RX1, Cond.code yX1_isPosition cX1_isPosition 1 (some .boolean)]) (by decide +kernel)
set_option maxRecDepth 20000 in
theorem gD_33 : GoodIn tT (wsS RX1 33 yX1_isValue (tC yX1_isValue cX1_isValue 2 (some .boolean))) := gdT (ws := [Cond.methodLink RX1 33 yX1_isValue, Cond.static yX1_isValue, Cond.initialized RX1, Cond.code yX1_isValue cX1_isValue 2 (some .boolean)]) (by decide +kernel)
set_option maxRecDepth 20000 in
theorem gD_41 : GoodIn tT (tC yX0_init cX0_init 1 none) ∧ Cond.methodLinkNest RX1 41 yX0_init RX1 ∈ nW ∧ Cond.initialized RX0 ∈ tT ∧ Cond.instanceMethod yX0_init ∈ tT := ⟨gdC (by decide +kernel), by decide +kernel, by decide +kernel, by decide +kernel⟩
set_option maxRecDepth 20000 in
theorem gD_45 : GoodIn tT (wsV RX1 45 RX1 yX1_itemThere (tC yX1_itemThere cX1_itemThere 3 (some (.object "GridDesk$Item")))) := gdT (ws := [Cond.methodLink RX1 45 yX1_itemThere, Cond.instanceMethod yX1_itemThere, Cond.selects RX1 yX1_itemThere yX1_itemThere, Cond.initialized RX1, Cond.code yX1_itemThere cX1_itemThere 3 (some (.object "GridDesk$Item"))]) (by decide +kernel)
set_option maxRecDepth 20000 in
theorem gD_49 : GoodIn tT (tC yX0_change cX0_change 7 (some .boolean)) ∧ Cond.methodLinkNest RX1 49 yX0_change RX1 ∈ nW ∧ Cond.initialized yX0_change.cls ∈ tT ∧ Cond.instanceMethod yX0_change ∈ tT ∧ Cond.selects RX0 yX0_change yX0_change ∈ tT := ⟨gdC (by decide +kernel), by decide +kernel, by decide +kernel, by decide +kernel, by decide +kernel⟩
set_option maxRecDepth 20000 in
theorem gD_57 : GoodIn tT (wsV RX1 57 RX1 yX1_findGreatest (tC yX1_findGreatest cX1_findGreatest 2 none)) := gdT (ws := [Cond.methodLink RX1 57 yX1_findGreatest, Cond.instanceMethod yX1_findGreatest, Cond.selects RX1 yX1_findGreatest yX1_findGreatest, Cond.initialized RX1, Cond.code yX1_findGreatest cX1_findGreatest 2 none]) (by decide +kernel)
set_option maxRecDepth 20000 in
theorem gD_63 : GoodIn tT (wsV RX1 63 RX1 yX1_itemEver (tC yX1_itemEver cX1_itemEver 2 (some (.object "GridDesk$Item")))) := gdT (ws := [Cond.methodLink RX1 63 yX1_itemEver, Cond.instanceMethod yX1_itemEver, Cond.selects RX1 yX1_itemEver yX1_itemEver, Cond.initialized RX1, Cond.code yX1_itemEver cX1_itemEver 2 (some (.object "GridDesk$Item"))]) (by decide +kernel)
set_option maxRecDepth 20000 in
theorem gD_69 : GoodIn tT (wsV RX1 69 RX1 yX1_valuesFit (tC yX1_valuesFit cX1_valuesFit 2 (some .boolean))) := gdT (ws := [Cond.methodLink RX1 69 yX1_valuesFit, Cond.instanceMethod yX1_valuesFit, Cond.selects RX1 yX1_valuesFit yX1_valuesFit, Cond.initialized RX1, Cond.code yX1_valuesFit cX1_valuesFit 2 (some .boolean)]) (by decide +kernel)
set_option maxRecDepth 20000 in
theorem gD_79 : GoodIn tT (wsV RX1 79 RX1 yX1_endItemsOfSet (tC yX1_endItemsOfSet cX1_endItemsOfSet 3 none)) := gdT (ws := [Cond.methodLink RX1 79 yX1_endItemsOfSet, Cond.instanceMethod yX1_endItemsOfSet, Cond.selects RX1 yX1_endItemsOfSet yX1_endItemsOfSet, Cond.initialized RX1, Cond.code yX1_endItemsOfSet cX1_endItemsOfSet 3 none]) (by decide +kernel)
set_option maxRecDepth 20000 in
theorem gD_82 : GoodIn tT (tC yX0_amountFor cX0_amountFor 3 (some .long)) ∧ Cond.methodLinkNest RX1 82 yX0_amountFor RX1 ∈ nW ∧ Cond.initialized yX0_amountFor.cls ∈ tT ∧ Cond.instanceMethod yX0_amountFor ∈ tT ∧ Cond.selects RX0 yX0_amountFor yX0_amountFor ∈ tT := ⟨gdC (by decide +kernel), by decide +kernel, by decide +kernel, by decide +kernel, by decide +kernel⟩
set_option maxRecDepth 20000 in
theorem gD_90 : GoodIn tT (wsV RX1 90 RX1 yX1_startWithAllThere (tC yX1_startWithAllThere cX1_startWithAllThere 3 none)) := gdT (ws := [Cond.methodLink RX1 90 yX1_startWithAllThere, Cond.instanceMethod yX1_startWithAllThere, Cond.selects RX1 yX1_startWithAllThere yX1_startWithAllThere, Cond.initialized RX1, Cond.code yX1_startWithAllThere cX1_startWithAllThere 3 none]) (by decide +kernel)
set_option maxRecDepth 20000 in
theorem gD_93 : GoodIn tT (wsV RX1 93 RX1 yX1_dropHopeless (tC yX1_dropHopeless cX1_dropHopeless 4 (some .boolean))) := gdT (ws := [Cond.methodLink RX1 93 yX1_dropHopeless, Cond.instanceMethod yX1_dropHopeless, Cond.selects RX1 yX1_dropHopeless yX1_dropHopeless, Cond.initialized RX1, Cond.code yX1_dropHopeless cX1_dropHopeless 4 (some .boolean)]) (by decide +kernel)
set_option maxRecDepth 20000 in
theorem gD_96 : GoodIn tT (wsV RX1 96 RX1 yX1_startRows (tC yX1_startRows cX1_startRows 2 none)) := gdT (ws := [Cond.methodLink RX1 96 yX1_startRows, Cond.instanceMethod yX1_startRows, Cond.selects RX1 yX1_startRows yX1_startRows, Cond.initialized RX1, Cond.code yX1_startRows cX1_startRows 2 none]) (by decide +kernel)
set_option maxRecDepth 20000 in
theorem gD_99 : GoodIn tT (wsV RX1 99 RX1 yX1_giveAll (tC yX1_giveAll cX1_giveAll 4 none)) := gdT (ws := [Cond.methodLink RX1 99 yX1_giveAll, Cond.instanceMethod yX1_giveAll, Cond.selects RX1 yX1_giveAll yX1_giveAll, Cond.initialized RX1, Cond.code yX1_giveAll cX1_giveAll 4 none]) (by decide +kernel)
set_option maxRecDepth 20000 in
theorem gD_102 : GoodIn tT (wsV RX1 102 RX1 yX1_canTake (tC yX1_canTake cX1_canTake 6 (some .boolean))) := gdT (ws := [Cond.methodLink RX1 102 yX1_canTake, Cond.instanceMethod yX1_canTake, Cond.selects RX1 yX1_canTake yX1_canTake, Cond.initialized RX1, Cond.code yX1_canTake cX1_canTake 6 (some .boolean)]) (by decide +kernel)
set_option maxRecDepth 20000 in
theorem gD_106 : GoodIn tT (wsV RX1 106 RX1 yX1_take (tC yX1_take cX1_take 3 none)) := gdT (ws := [Cond.methodLink RX1 106 yX1_take, Cond.instanceMethod yX1_take, Cond.selects RX1 yX1_take yX1_take, Cond.initialized RX1, Cond.code yX1_take cX1_take 3 none]) (by decide +kernel)
set_option maxRecDepth 20000 in
theorem gD_110 : GoodIn tT (wsV RX1 110 RX1 yX1_drop (tC yX1_drop cX1_drop 3 none)) := gdT (ws := [Cond.methodLink RX1 110 yX1_drop, Cond.instanceMethod yX1_drop, Cond.selects RX1 yX1_drop yX1_drop, Cond.initialized RX1, Cond.code yX1_drop cX1_drop 3 none]) (by decide +kernel)
set_option maxRecDepth 20000 in
theorem gM_37 : GoodIn tT (wsS RX2 37 yX2_isPosition (tC yX2_isPosition cX2_isPosition 1 (some .boolean))) := gdT (ws := [Cond.methodLink RX2 37 yX2_isPosition, Cond.static yX2_isPosition, Cond.initialized RX2, Cond.code yX2_isPosition cX2_isPosition 1 (some .boolean)]) (by decide +kernel)
set_option maxRecDepth 20000 in
theorem gM_41 : GoodIn tT (wsS RX2 41 yX2_isValue (tC yX2_isValue cX2_isValue 2 (some .boolean))) := gdT (ws := [Cond.methodLink RX2 41 yX2_isValue, Cond.static yX2_isValue, Cond.initialized RX2, Cond.code yX2_isValue cX2_isValue 2 (some .boolean)]) (by decide +kernel)
set_option maxRecDepth 20000 in
theorem gM_49 : GoodIn tT (wsV RX2 49 RX2 yX2_find (tC yX2_find cX2_find 4 (some .int))) := gdT (ws := [Cond.methodLink RX2 49 yX2_find, Cond.instanceMethod yX2_find, Cond.selects RX2 yX2_find yX2_find, Cond.initialized RX2, Cond.code yX2_find cX2_find 4 (some .int)]) (by decide +kernel)
set_option maxRecDepth 20000 in
theorem gM_53 : GoodIn tT (wsV RX2 53 RX2 yX2_isThere (tC yX2_isThere cX2_isThere 2 (some .boolean))) := gdT (ws := [Cond.methodLink RX2 53 yX2_isThere, Cond.instanceMethod yX2_isThere, Cond.selects RX2 yX2_isThere yX2_isThere, Cond.initialized RX2, Cond.code yX2_isThere cX2_isThere 2 (some .boolean)]) (by decide +kernel)
set_option maxRecDepth 20000 in
theorem gM_60 : GoodIn tT (wsV RX2 60 RX2 yX2_netAt (tC yX2_netAt cX2_netAt 4 (some .long))) := gdT (ws := [Cond.methodLink RX2 60 yX2_netAt, Cond.instanceMethod yX2_netAt, Cond.selects RX2 yX2_netAt yX2_netAt, Cond.initialized RX2, Cond.code yX2_netAt cX2_netAt 4 (some .long)]) (by decide +kernel)
set_option maxRecDepth 20000 in
theorem gM_68 : GoodIn tT (wsV RX2 68 RX2 yX2_meet (tC yX2_meet cX2_meet 5 (some .boolean))) := gdT (ws := [Cond.methodLink RX2 68 yX2_meet, Cond.instanceMethod yX2_meet, Cond.selects RX2 yX2_meet yX2_meet, Cond.initialized RX2, Cond.code yX2_meet cX2_meet 5 (some .boolean)]) (by decide +kernel)
set_option maxRecDepth 20000 in
theorem gM_72 : GoodIn tT (wsV RX2 72 RX2 yX2_total (tC yX2_total cX2_total 5 (some .long))) := gdT (ws := [Cond.methodLink RX2 72 yX2_total, Cond.instanceMethod yX2_total, Cond.selects RX2 yX2_total yX2_total, Cond.initialized RX2, Cond.code yX2_total cX2_total 5 (some .long)]) (by decide +kernel)
set_option maxRecDepth 20000 in
theorem gM_76 : GoodIn tT (wsV RX2 76 RX2 yX2_lastTaker (tC yX2_lastTaker cX2_lastTaker 4 (some .int))) := gdT (ws := [Cond.methodLink RX2 76 yX2_lastTaker, Cond.instanceMethod yX2_lastTaker, Cond.selects RX2 yX2_lastTaker yX2_lastTaker, Cond.initialized RX2, Cond.code yX2_lastTaker cX2_lastTaker 4 (some .int)]) (by decide +kernel)
set_option maxRecDepth 20000 in
theorem gM_80 : GoodIn tT (wsV RX2 80 RX2 yX2_lacks (tC yX2_lacks cX2_lacks 4 (some .boolean))) := gdT (ws := [Cond.methodLink RX2 80 yX2_lacks, Cond.instanceMethod yX2_lacks, Cond.selects RX2 yX2_lacks yX2_lacks, Cond.initialized RX2, Cond.code yX2_lacks cX2_lacks 4 (some .boolean)]) (by decide +kernel)
set_option maxRecDepth 20000 in
theorem gM_83 : GoodIn tT (wsV RX2 83 RX2 yX2_count (tC yX2_count cX2_count 5 (some .int))) := gdT (ws := [Cond.methodLink RX2 83 yX2_count, Cond.instanceMethod yX2_count, Cond.selects RX2 yX2_count yX2_count, Cond.initialized RX2, Cond.code yX2_count cX2_count 5 (some .int)]) (by decide +kernel)
set_option maxRecDepth 20000 in
theorem gM_86 : GoodIn tT (wsV RX2 86 RX2 yX2_solve (tC yX2_solve cX2_solve 3 (some .int))) := gdT (ws := [Cond.methodLink RX2 86 yX2_solve, Cond.instanceMethod yX2_solve, Cond.selects RX2 yX2_solve yX2_solve, Cond.initialized RX2, Cond.code yX2_solve cX2_solve 3 (some .int)]) (by decide +kernel)
set_option maxRecDepth 20000 in
theorem gI_27 : GoodIn tT (wsV RX0 27 RX0 yX0_slotOf (tC yX0_slotOf cX0_slotOf 3 (some .int))) := gdT (ws := [Cond.methodLink RX0 27 yX0_slotOf, Cond.instanceMethod yX0_slotOf, Cond.selects RX0 yX0_slotOf yX0_slotOf, Cond.initialized RX0, Cond.code yX0_slotOf cX0_slotOf 3 (some .int)]) (by decide +kernel)
set_option maxRecDepth 20000 in
theorem gI_35 : GoodIn tT (wsV RX0 35 RX0 yX0_amountFor (tC yX0_amountFor cX0_amountFor 3 (some .long))) := gdT (ws := [Cond.methodLink RX0 35 yX0_amountFor, Cond.instanceMethod yX0_amountFor, Cond.selects RX0 yX0_amountFor yX0_amountFor, Cond.initialized RX0, Cond.code yX0_amountFor cX0_amountFor 3 (some .long)]) (by decide +kernel)
set_option maxRecDepth 20000 in
theorem gI_43 : GoodIn tT (wsV RX0 43 RX0 yX0_addSlot (tC yX0_addSlot cX0_addSlot 4 (some .boolean))) := gdT (ws := [Cond.methodLink RX0 43 yX0_addSlot, Cond.instanceMethod yX0_addSlot, Cond.selects RX0 yX0_addSlot yX0_addSlot, Cond.initialized RX0, Cond.code yX0_addSlot cX0_addSlot 4 (some .boolean)]) (by decide +kernel)
set_option maxRecDepth 20000 in
theorem gI_47 : GoodIn tT (wsV RX0 47 RX0 yX0_freeSlot (tC yX0_freeSlot cX0_freeSlot 2 none)) := gdT (ws := [Cond.methodLink RX0 47 yX0_freeSlot, Cond.instanceMethod yX0_freeSlot, Cond.selects RX0 yX0_freeSlot yX0_freeSlot, Cond.initialized RX0, Cond.code yX0_freeSlot cX0_freeSlot 2 none]) (by decide +kernel)
set_option maxRecDepth 20000 in
theorem gL_9 : GoodIn tT (tC yX1_init cX1_init 1 none) ∧ Cond.initialized RX1 ∈ tT ∧ Cond.methodLink RL 9 yX1_init ∈ tT ∧ Cond.instanceMethod yX1_init ∈ tT := ⟨gdC (by decide +kernel), by decide +kernel, by decide +kernel, by decide +kernel⟩
set_option maxRecDepth 20000 in
theorem gL_12 : GoodIn tT (tC yX2_init cX2_init 1 none) ∧ Cond.initialized RX2 ∈ tT ∧ Cond.methodLink RL 12 yX2_init ∈ tT ∧ Cond.instanceMethod yX2_init ∈ tT := ⟨gdC (by decide +kernel), by decide +kernel, by decide +kernel, by decide +kernel⟩
set_option maxRecDepth 20000 in
theorem gL_15 : GoodIn tT (wsV RL 15 RX1 yX1_place (tC yX1_place cX1_place 6 (some .boolean))) := gdT (ws := [Cond.methodLink RL 15 yX1_place, Cond.instanceMethod yX1_place, Cond.selects RX1 yX1_place yX1_place, Cond.initialized RX1, Cond.code yX1_place cX1_place 6 (some .boolean)]) (by decide +kernel)
set_option maxRecDepth 20000 in
theorem gL_19 : GoodIn tT (wsV RL 19 RX2 yX2_place (tC yX2_place cX2_place 6 (some .boolean))) := gdT (ws := [Cond.methodLink RL 19 yX2_place, Cond.instanceMethod yX2_place, Cond.selects RX2 yX2_place yX2_place, Cond.initialized RX2, Cond.code yX2_place cX2_place 6 (some .boolean)]) (by decide +kernel)
set_option maxRecDepth 20000 in
theorem gL_20 : GoodIn tT (wsV RL 20 RX1 yX1_item (tC yX1_item cX1_item 1 (some .int))) := gdT (ws := [Cond.methodLink RL 20 yX1_item, Cond.instanceMethod yX1_item, Cond.selects RX1 yX1_item yX1_item, Cond.initialized RX1, Cond.code yX1_item cX1_item 1 (some .int)]) (by decide +kernel)
set_option maxRecDepth 20000 in
theorem gL_24 : GoodIn tT (wsV RL 24 RX2 yX2_item (tC yX2_item cX2_item 1 (some .int))) := gdT (ws := [Cond.methodLink RL 24 yX2_item, Cond.instanceMethod yX2_item, Cond.selects RX2 yX2_item yX2_item, Cond.initialized RX2, Cond.code yX2_item cX2_item 1 (some .int)]) (by decide +kernel)
set_option maxRecDepth 20000 in
theorem gL_25 : GoodIn tT (wsV RL 25 RX1 yX1_net (tC yX1_net cX1_net 6 (some .boolean))) := gdT (ws := [Cond.methodLink RL 25 yX1_net, Cond.instanceMethod yX1_net, Cond.selects RX1 yX1_net yX1_net, Cond.initialized RX1, Cond.code yX1_net cX1_net 6 (some .boolean)]) (by decide +kernel)
set_option maxRecDepth 20000 in
theorem gL_29 : GoodIn tT (wsV RL 29 RX2 yX2_net (tC yX2_net cX2_net 9 (some .boolean))) := gdT (ws := [Cond.methodLink RL 29 yX2_net, Cond.instanceMethod yX2_net, Cond.selects RX2 yX2_net yX2_net, Cond.initialized RX2, Cond.code yX2_net cX2_net 9 (some .boolean)]) (by decide +kernel)
set_option maxRecDepth 20000 in
theorem gL_30 : GoodIn tT (wsV RL 30 RX1 yX1_go (tC yX1_go cX1_go 3 (some .boolean))) := gdT (ws := [Cond.methodLink RL 30 yX1_go, Cond.instanceMethod yX1_go, Cond.selects RX1 yX1_go yX1_go, Cond.initialized RX1, Cond.code yX1_go cX1_go 3 (some .boolean)]) (by decide +kernel)
set_option maxRecDepth 20000 in
theorem gL_34 : GoodIn tT (wsV RL 34 RX2 yX2_go (tC yX2_go cX2_go 2 (some .boolean))) := gdT (ws := [Cond.methodLink RL 34 yX2_go, Cond.instanceMethod yX2_go, Cond.selects RX2 yX2_go yX2_go, Cond.initialized RX2, Cond.code yX2_go cX2_go 2 (some .boolean)]) (by decide +kernel)
set_option maxRecDepth 20000 in
theorem gL_35 : GoodIn tT (wsV RL 35 RX1 yX1_solve (tC yX1_solve cX1_solve 1 (some .int))) := gdT (ws := [Cond.methodLink RL 35 yX1_solve, Cond.instanceMethod yX1_solve, Cond.selects RX1 yX1_solve yX1_solve, Cond.initialized RX1, Cond.code yX1_solve cX1_solve 1 (some .int)]) (by decide +kernel)
set_option maxRecDepth 20000 in
theorem gL_38 : GoodIn tT (wsV RL 38 RX2 yX2_solve (tC yX2_solve cX2_solve 3 (some .int))) := gdT (ws := [Cond.methodLink RL 38 yX2_solve, Cond.instanceMethod yX2_solve, Cond.selects RX2 yX2_solve yX2_solve, Cond.initialized RX2, Cond.code yX2_solve cX2_solve 3 (some .int)]) (by decide +kernel)
set_option maxRecDepth 20000 in
theorem gL_39 : GoodIn tT (wsV RL 39 RX1 yX1_in (tC yX1_in cX1_in 3 (some .boolean))) := gdT (ws := [Cond.methodLink RL 39 yX1_in, Cond.instanceMethod yX1_in, Cond.selects RX1 yX1_in yX1_in, Cond.initialized RX1, Cond.code yX1_in cX1_in 3 (some .boolean)]) (by decide +kernel)
set_option maxRecDepth 20000 in
theorem gL_42 : GoodIn tT (wsV RL 42 RX2 yX2_in (tC yX2_in cX2_in 2 (some .boolean))) := gdT (ws := [Cond.methodLink RL 42 yX2_in, Cond.instanceMethod yX2_in, Cond.selects RX2 yX2_in yX2_in, Cond.initialized RX2, Cond.code yX2_in cX2_in 2 (some .boolean)]) (by decide +kernel)
set_option maxRecDepth 20000 in
theorem gL_43 : GoodIn tT (wsV RL 43 RX1 yX1_perform (tC yX1_perform cX1_perform 1 (some .int))) := gdT (ws := [Cond.methodLink RL 43 yX1_perform, Cond.instanceMethod yX1_perform, Cond.selects RX1 yX1_perform yX1_perform, Cond.initialized RX1, Cond.code yX1_perform cX1_perform 1 (some .int)]) (by decide +kernel)
set_option maxRecDepth 20000 in
theorem gL_46 : GoodIn tT (wsV RL 46 RX2 yX2_perform (tC yX2_perform cX2_perform 3 (some .int))) := gdT (ws := [Cond.methodLink RL 46 yX2_perform, Cond.instanceMethod yX2_perform, Cond.selects RX2 yX2_perform yX2_perform, Cond.initialized RX2, Cond.code yX2_perform cX2_perform 3 (some .int)]) (by decide +kernel)
set_option maxRecDepth 20000 in
theorem gL_47 : GoodIn tT (wsV RL 47 RX1 yX1_value (tC yX1_value cX1_value 2 (some .long))) := gdT (ws := [Cond.methodLink RL 47 yX1_value, Cond.instanceMethod yX1_value, Cond.selects RX1 yX1_value yX1_value, Cond.initialized RX1, Cond.code yX1_value cX1_value 2 (some .long)]) (by decide +kernel)
set_option maxRecDepth 20000 in
theorem gL_51 : GoodIn tT (wsV RL 51 RX2 yX2_value (tC yX2_value cX2_value 2 (some .long))) := gdT (ws := [Cond.methodLink RL 51 yX2_value, Cond.instanceMethod yX2_value, Cond.selects RX2 yX2_value yX2_value, Cond.initialized RX2, Cond.code yX2_value cX2_value 2 (some .long)]) (by decide +kernel)
set_option maxRecDepth 20000 in
theorem gL_52 : GoodIn tT (wsV RL 52 RX1 yX1_netOf (tC yX1_netOf cX1_netOf 4 (some .long))) := gdT (ws := [Cond.methodLink RL 52 yX1_netOf, Cond.instanceMethod yX1_netOf, Cond.selects RX1 yX1_netOf yX1_netOf, Cond.initialized RX1, Cond.code yX1_netOf cX1_netOf 4 (some .long)]) (by decide +kernel)
set_option maxRecDepth 20000 in
theorem gL_56 : GoodIn tT (wsV RL 56 RX2 yX2_netOf (tC yX2_netOf cX2_netOf 3 (some .long))) := gdT (ws := [Cond.methodLink RL 56 yX2_netOf, Cond.instanceMethod yX2_netOf, Cond.selects RX2 yX2_netOf yX2_netOf, Cond.initialized RX2, Cond.code yX2_netOf cX2_netOf 3 (some .long)]) (by decide +kernel)
set_option maxRecDepth 20000 in
theorem gL_57 : GoodIn tT (wsV RL 57 RX1 yX1_count (tC yX1_count cX1_count 2 (some .int))) := gdT (ws := [Cond.methodLink RL 57 yX1_count, Cond.instanceMethod yX1_count, Cond.selects RX1 yX1_count yX1_count, Cond.initialized RX1, Cond.code yX1_count cX1_count 2 (some .int)]) (by decide +kernel)
set_option maxRecDepth 20000 in
theorem gL_61 : GoodIn tT (wsV RL 61 RX2 yX2_count (tC yX2_count cX2_count 5 (some .int))) := gdT (ws := [Cond.methodLink RL 61 yX2_count, Cond.instanceMethod yX2_count, Cond.selects RX2 yX2_count yX2_count, Cond.initialized RX2, Cond.code yX2_count cX2_count 5 (some .int)]) (by decide +kernel)
end
section
/-! ITEM: contracts of its methods -/
section MI
variable {D : va_G} {K : Nat → ClassId} {H : Heap} {A : Nat → Prop} {R : va_W} {o : Nat → Nat} {ad : Nat → Nat × Nat × Nat} {va fl af : Nat → Int64} {bl : Nat → Bool} {n tc sc : Nat} {T S : Nat → Bool} {us : Nat → Nat} {ps : Nat → Nat → Nat} {am : Nat → Nat → Int64}
set_option maxHeartbeats 4000000 in
set_option maxRecDepth 100000 in
/-- slotOf: the slot of a position, or -1 -/
theorem cI_slotOf (l : Launch) (hP : va_P D vwCl (dW R o K ad va fl af bl n tc sc T S us ps am) H) {i : Nat} (hi : i < n) (hu : us i ≤ 16) (x : Int32) : Met l yX0_slotOf (tC yX0_slotOf cX0_slotOf 3 (some .int)) (rmK 0 0 0) (kP D K H [.ref ((ad i).1), .int x]) (k2_QcV (.int (slR (ps i) x (us i)))) 0 0 (fun _ => False) := by
  refine Met.ofW (cc := cX0_slotOf) (maxL := 3) (ret := (some .int)) (by decide) rfl ?_
  intro p e s m args below meth c s₁ B hml hv
  obtain ⟨rfl, hH, hK, hN, hO⟩ := hv
  have hx := B.exec
  have hb := B.bytes
  have hr := B.returns
  have hts : ∀ w ∈ tT, w.before _ s = true := fun w h => atoms_spec (ws := tC yX0_slotOf cX0_slotOf 3 (some .int)) B.pre w (List.mem_cons_of_mem _ h)
  have hown : s.vm.findClass RX0 = some m.cls := findClass_of_methodNamed B.named
  have hlocks := B.notSynchronized
  have C : cx RX0 D K p s m _ c cX0_slotOf := ⟨hx, hb, hown, hts, hK, hN, hO⟩
  have hR : rmOk (headSpec (tC yX0_slotOf cX0_slotOf 3 (some .int)) (rmK 0 0 0)).room 0 0 0 := ⟨Nat.le_refl _, Nat.le_refl _, Nat.le_refl _, Nat.le_refl _⟩
  subst hH
  have hl := lv_entry ([.ref ((ad i).1), .int x]) (n := 3) (Nat.le_of_ble_eq_true rfl)
  rw [lg_entry_eq]
  generalize (lg_sl ([.ref ((ad i).1), .int x]) ++ List.replicate (3 - (lg_sl ([.ref ((ad i).1), .int x])).length) Slot.unset).toArray = ls at hl ⊢
  have hl : lv_has ls 3 [(0, .ref ((ad i).1)), (1, .int x)] := hl
  refine lv_iconst (v := nI 0) hx hb dX0_slotOf_0 (by decide) ?_
  refine lv_istore_n (lv' := [(2, .int (nI 0)), (0, .ref ((ad i).1)), (1, .int x)]) hx hb dX0_slotOf_1 rfl hl (by decide) rfl (fun ls hl => ?_)
  refine lpW (U := us i) (pcH := 2) (I := fun k ls => lv_has ls 3 [(2, .int (nI k)), (0, .ref ((ad i).1)), (1, .int x)] ∧ ∀ j, j < k → ¬ nI (ps i j) = x) (fun k ls hkk hI ihk => ?_) 0 ls (Nat.zero_le _) ⟨(lv_sub hl [0, 1, 2] rfl), fun j hj => absurd hj (Nat.not_lt_zero j)⟩
  obtain ⟨hl, hm⟩ := hI
  refine lv_iload_n hx hb dX0_slotOf_2 rfl (lv_at hl 0 rfl) ?_
  refine lv_aload_n hx hb dX0_slotOf_3 rfl (lv_at hl 1 rfl) ?_
  refine gII_used C hP hi dX0_slotOf_4 ?_
  refine lv_icmp_ge (tgt := 28) hx hb dX0_slotOf_7 (by decide) (fun c1 => ?_) (fun c1 => ?_)
  · have c1 : (us i) ≤ k := (nI_leI (by omega) (by omega)).mp c1
    refine lv_iconst (v := (-1)) hx hb dX0_slotOf_28 (by decide) ?_
    exact W.iret (v := (-1)) hx hb hr (fun t ht _ => ⟨rti (slR_no (fun j hj => hm j (by omega))), ht⟩) (fun q h => by cases h) dX0_slotOf_29
  · have c1 : ¬ (us i) ≤ k := fun z => c1 ((nI_leI (by omega) (by omega)).mpr z)
    refine lv_aload_n hx hb dX0_slotOf_10 rfl (lv_at hl 1 rfl) ?_
    refine gII_positions C hP hi dX0_slotOf_11 ?_
    refine lv_iload_n hx hb dX0_slotOf_14 rfl (lv_at hl 0 rfl) ?_
    refine lI_positions C hP hi (by omega) dX0_slotOf_15 ?_
    refine lv_iload_n hx hb dX0_slotOf_16 rfl (lv_at hl 2 rfl) ?_
    refine lv_icmp_ne (tgt := 22) hx hb dX0_slotOf_17 (by decide) (fun c2 => ?_) (fun c2 => ?_)
    · refine lv_iinc (v := nI (k + 1)) (lv' := [(2, .int (nI (k + 1))), (0, .ref ((ad i).1)), (1, .int x)]) hx hb dX0_slotOf_22 hl (k := 0) rfl (nI_1 k) (by decide) rfl (fun ls hl => ?_)
      refine lv_goto (tgt := 2) hx hb dX0_slotOf_25 (by decide) ?_
      exact ihk (by omega) ls ⟨(lv_sub hl [0, 1, 2] rfl), fun j hj => by
        by_cases ej : j = k
        · subst ej; exact c2
        · exact hm j (by omega)⟩
    · refine lv_iload_n hx hb dX0_slotOf_20 rfl (lv_at hl 0 rfl) ?_
      exact W.iret (v := nI k) hx hb hr (fun t ht _ => ⟨rti (slR_hit (by omega) c2 hm), ht⟩) (fun q h => by cases h) dX0_slotOf_21
set_option maxHeartbeats 4000000 in
set_option maxRecDepth 100000 in
/-- amountFor: the net that the slots say -/
theorem cI_amountFor (l : Launch) (hP : va_P D vwCl (dW R o K ad va fl af bl n tc sc T S us ps am) H) {i : Nat} (hi : i < n) (hu : us i ≤ 16) (x : Int32) : Met l yX0_amountFor (tC yX0_amountFor cX0_amountFor 3 (some .long)) (rmK 1 0 0) (kP D K H [.ref ((ad i).1), .int x]) (k2_QcV (.long (ntq (qx (ps i) x) (us i) (am i)))) 0 0 (fun _ => False) := by
  refine Met.ofW (cc := cX0_amountFor) (maxL := 3) (ret := (some .long)) (by decide) rfl ?_
  intro p e s m args below meth c s₁ B hml hv
  obtain ⟨rfl, hH, hK, hN, hO⟩ := hv
  have hx := B.exec
  have hb := B.bytes
  have hr := B.returns
  have hts : ∀ w ∈ tT, w.before _ s = true := fun w h => atoms_spec (ws := tC yX0_amountFor cX0_amountFor 3 (some .long)) B.pre w (List.mem_cons_of_mem _ h)
  have hown : s.vm.findClass RX0 = some m.cls := findClass_of_methodNamed B.named
  have hlocks := B.notSynchronized
  have C : cx RX0 D K p s m _ c cX0_amountFor := ⟨hx, hb, hown, hts, hK, hN, hO⟩
  have hR : rmOk (headSpec (tC yX0_amountFor cX0_amountFor 3 (some .long)) (rmK 1 0 0)).room 1 0 0 := ⟨Nat.le_refl _, Nat.le_refl _, Nat.le_refl _, Nat.le_refl _⟩
  subst hH
  have hl := lv_entry ([.ref ((ad i).1), .int x]) (n := 3) (Nat.le_of_ble_eq_true rfl)
  rw [lg_entry_eq]
  generalize (lg_sl ([.ref ((ad i).1), .int x]) ++ List.replicate (3 - (lg_sl ([.ref ((ad i).1), .int x])).length) Slot.unset).toArray = ls at hl ⊢
  have hl : lv_has ls 3 [(0, .ref ((ad i).1)), (1, .int x)] := hl
  refine lv_aload_n hx hb dX0_amountFor_0 rfl (lv_at hl 0 rfl) ?_
  refine lv_iload_n hx hb dX0_amountFor_1 rfl (lv_at hl 1 rfl) ?_
  refine pv (va_runV (As := [.int x]) (rest := []) ⟨hx, hb, hml, hown, hts⟩ (cI_slotOf l hP hi hu x) (cwV 1 hts gI_27 rfl rfl rfl (by decide +kernel) (rmF hR (by decide) (by decide))) (kP_V C (va_recv C.2.2.2.2.1 hP (ci := ciI) (q0 := 6 + (R.length + 3 * i)) rfl (dW_0 hi))) rfl rfl hl.1 rfl (lv_room (Nat.le_of_ble_eq_true rfl)) dX0_amountFor_2 ⟨hR.2.2.1, hR.2.2.2⟩) ?_
  rcases slR_or (ps i) x (us i) with ⟨h1, e1⟩ | ⟨h1, e1⟩
  · refine tp_i (y := nI (fs (qx (ps i) x) (us i) 0)) (e1) ?_
    refine lv_istore_n (lv' := [(2, .int (nI (fs (qx (ps i) x) (us i) 0))), (0, .ref ((ad i).1)), (1, .int x)]) hx hb dX0_amountFor_5 rfl hl (by decide) rfl (fun ls hl => ?_)
    refine lv_iload_n hx hb dX0_amountFor_6 rfl (lv_at hl 0 rfl) ?_
    refine lv_if_ge (tgt := 14) hx hb dX0_amountFor_7 (by decide) (fun c1 => ?_) (fun c1 => ?_)
    · refine lv_aload_n hx hb dX0_amountFor_14 rfl (lv_at hl 1 rfl) ?_
      refine gII_amounts C hP hi dX0_amountFor_15 ?_
      refine lv_iload_n hx hb dX0_amountFor_18 rfl (lv_at hl 0 rfl) ?_
      refine lI_amounts C hP hi (by omega) dX0_amountFor_19 ?_
      exact W.lret (v := am i (fs (qx (ps i) x) (us i) 0)) hx hb hr (fun t ht _ => ⟨rtl (ntq_hit h1), ht⟩) (fun q h => by cases h) dX0_amountFor_20
    · exact absurd (nI_pos' (by omega)) c1
  · refine tp_i (y := (-1)) (e1) ?_
    refine lv_istore_n (lv' := [(2, .int (-1)), (0, .ref ((ad i).1)), (1, .int x)]) hx hb dX0_amountFor_5 rfl hl (by decide) rfl (fun ls hl => ?_)
    refine lv_iload_n hx hb dX0_amountFor_6 rfl (lv_at hl 0 rfl) ?_
    refine lv_if_ge (tgt := 14) hx hb dX0_amountFor_7 (by decide) (fun c1 => ?_) (fun c1 => ?_)
    · exact absurd c1 (by decide)
    · refine lv_lconst (v := 0) hx hb dX0_amountFor_10 (by decide) ?_
      refine lv_goto (tgt := 20) hx hb dX0_amountFor_11 (by decide) ?_
      exact W.lret (v := 0) hx hb hr (fun t ht _ => ⟨rtl (ntq_no h1), ht⟩) (fun q h => by cases h) dX0_amountFor_20
set_option maxHeartbeats 4000000 in
set_option maxRecDepth 100000 in
/-- addSlot, all slots used -/
theorem cI_addSlot_no (l : Launch) (hP : va_P D vwCl (dW R o K ad va fl af bl n tc sc T S us ps am) H) {i : Nat} (hi : i < n) (hu : 16 ≤ us i) (hu2 : us i ≤ 16) (x : Int32) (v : Int64) : Met l yX0_addSlot (tC yX0_addSlot cX0_addSlot 4 (some .boolean)) (rmK 0 0 0) (kP D K H [.ref ((ad i).1), .int x, .long v]) (k2_QcV (.int (nI 0))) 0 0 (fun _ => False) := by
  refine Met.ofW (cc := cX0_addSlot) (maxL := 4) (ret := (some .boolean)) (by decide) rfl ?_
  intro p e s m args below meth c s₁ B hml hv
  obtain ⟨rfl, hH, hK, hN, hO⟩ := hv
  have hx := B.exec
  have hb := B.bytes
  have hr := B.returns
  have hts : ∀ w ∈ tT, w.before _ s = true := fun w h => atoms_spec (ws := tC yX0_addSlot cX0_addSlot 4 (some .boolean)) B.pre w (List.mem_cons_of_mem _ h)
  have hown : s.vm.findClass RX0 = some m.cls := findClass_of_methodNamed B.named
  have hlocks := B.notSynchronized
  have C : cx RX0 D K p s m _ c cX0_addSlot := ⟨hx, hb, hown, hts, hK, hN, hO⟩
  have hR : rmOk (headSpec (tC yX0_addSlot cX0_addSlot 4 (some .boolean)) (rmK 0 0 0)).room 0 0 0 := ⟨Nat.le_refl _, Nat.le_refl _, Nat.le_refl _, Nat.le_refl _⟩
  subst hH
  have hl := lv_entry ([.ref ((ad i).1), .int x, .long v]) (n := 4) (Nat.le_of_ble_eq_true rfl)
  rw [lg_entry_eq]
  generalize (lg_sl ([.ref ((ad i).1), .int x, .long v]) ++ List.replicate (4 - (lg_sl ([.ref ((ad i).1), .int x, .long v])).length) Slot.unset).toArray = ls at hl ⊢
  have hl : lv_has ls 4 [(0, .ref ((ad i).1)), (1, .int x), (2, .long v)] := hl
  refine lv_aload_n hx hb dX0_addSlot_0 rfl (lv_at hl 0 rfl) ?_
  refine gII_used C hP hi dX0_addSlot_1 ?_
  refine lv_bipush (v := nI 16) hx hb dX0_addSlot_4 (by decide) ?_
  refine lv_icmp_lt (tgt := 11) hx hb dX0_addSlot_6 (by decide) (fun c1 => ?_) (fun c1 => ?_)
  · have c1 : (us i) < 16 := (nI_ltI (by omega) (by omega)).mp c1
    exact absurd c1 (by omega)
  · have c1 : ¬ (us i) < 16 := fun z => c1 ((nI_ltI (by omega) (by omega)).mpr z)
    refine lv_iconst (v := nI 0) hx hb dX0_addSlot_9 (by decide) ?_
    exact W.zret (v := nI 0) hx hb hr (by decide) (fun t ht _ => ⟨rfl, ht⟩) (fun q h => by cases h) dX0_addSlot_10
set_option maxHeartbeats 4000000 in
set_option maxRecDepth 100000 in
/-- addSlot: one more slot -/
theorem cI_addSlot (l : Launch) (hP : va_P D vwCl (dW R o K ad va fl af bl n tc sc T S us ps am) H) (hD : va_D A (dW R o K ad va fl af bl n tc sc T S us ps am)) {i : Nat} (hi : i < n) (hu : us i < 16) (q : Nat) (v : Int64) : Met l yX0_addSlot (tC yX0_addSlot cX0_addSlot 4 (some .boolean)) (rmK 0 0 0) (kP D K H [.ref ((ad i).1), .int (nI q), .long v]) (qI D A (fun (r : Int32) (u : Unit) => r = nI 1) (fun u : Unit => dW R o K ad va fl af bl n tc sc T S (va_up us i (us i + 1)) (va_up ps i (va_up (ps i) (us i) q)) (va_up am i (va_up (am i) (us i) v)))) 0 0 A := by
  refine Met.ofW (cc := cX0_addSlot) (maxL := 4) (ret := (some .boolean)) (by decide) rfl ?_
  intro p e s m args below meth c s₁ B hml hv
  obtain ⟨rfl, hH, hK, hN, hO⟩ := hv
  have hx := B.exec
  have hb := B.bytes
  have hr := B.returns
  have hts : ∀ w ∈ tT, w.before _ s = true := fun w h => atoms_spec (ws := tC yX0_addSlot cX0_addSlot 4 (some .boolean)) B.pre w (List.mem_cons_of_mem _ h)
  have hown : s.vm.findClass RX0 = some m.cls := findClass_of_methodNamed B.named
  have hlocks := B.notSynchronized
  have C : cx RX0 D K p s m _ c cX0_addSlot := ⟨hx, hb, hown, hts, hK, hN, hO⟩
  have hR : rmOk (headSpec (tC yX0_addSlot cX0_addSlot 4 (some .boolean)) (rmK 0 0 0)).room 0 0 0 := ⟨Nat.le_refl _, Nat.le_refl _, Nat.le_refl _, Nat.le_refl _⟩
  subst hH
  have hS : va_S A s.heap s.heap [] := va_S.rf
  have hl := lv_entry ([.ref ((ad i).1), .int (nI q), .long v]) (n := 4) (Nat.le_of_ble_eq_true rfl)
  rw [lg_entry_eq]
  generalize (lg_sl ([.ref ((ad i).1), .int (nI q), .long v]) ++ List.replicate (4 - (lg_sl ([.ref ((ad i).1), .int (nI q), .long v])).length) Slot.unset).toArray = ls at hl ⊢
  have hl : lv_has ls 4 [(0, .ref ((ad i).1)), (1, .int (nI q)), (2, .long v)] := hl
  refine lv_aload_n hx hb dX0_addSlot_0 rfl (lv_at hl 0 rfl) ?_
  refine gII_used C hP hi dX0_addSlot_1 ?_
  refine lv_bipush (v := nI 16) hx hb dX0_addSlot_4 (by decide) ?_
  refine lv_icmp_lt (tgt := 11) hx hb dX0_addSlot_6 (by decide) (fun c1 => ?_) (fun c1 => ?_)
  · have c1 : (us i) < 16 := (nI_ltI (by omega) (by omega)).mp c1
    refine lv_aload_n hx hb dX0_addSlot_11 rfl (lv_at hl 0 rfl) ?_
    refine gII_positions C hP hi dX0_addSlot_12 ?_
    refine lv_aload_n hx hb dX0_addSlot_15 rfl (lv_at hl 0 rfl) ?_
    refine gII_used C hP hi dX0_addSlot_16 ?_
    refine lv_iload_n hx hb dX0_addSlot_19 rfl (lv_at hl 1 rfl) ?_
    refine sI_positions C hP hD hS hi (by omega) dX0_addSlot_20 (fun H locs hP hD hS => ?_)
    refine lv_aload_n hx hb dX0_addSlot_21 rfl (lv_at hl 0 rfl) ?_
    refine gII_amounts C hP hi dX0_addSlot_22 ?_
    refine lv_aload_n hx hb dX0_addSlot_25 rfl (lv_at hl 0 rfl) ?_
    refine gII_used C hP hi dX0_addSlot_26 ?_
    refine lv_lload_n hx hb dX0_addSlot_29 rfl (lv_at hl 2 rfl) ?_
    refine sI_amounts C hP hD hS hi (by omega) dX0_addSlot_30 (fun H locs hP hD hS => ?_)
    refine lv_aload_n hx hb dX0_addSlot_31 rfl (lv_at hl 0 rfl) ?_
    refine lv_dup hx hb dX0_addSlot_32 rfl ?_
    refine gII_used C hP hi dX0_addSlot_33 ?_
    refine lv_iconst (v := nI 1) hx hb dX0_addSlot_36 (by decide) ?_
    refine lv_iadd hx hb dX0_addSlot_37 ?_
    refine tp_i (y := nI (us i + 1)) (nI_1 (us i)) ?_
    refine pI_used C hP hD hS hi dX0_addSlot_38 (fun H locs hP hD hS => ?_)
    refine lv_iconst (v := nI 1) hx hb dX0_addSlot_41 (by decide) ?_
    exact W.zret (v := nI 1) hx hb hr (by decide) (fun t ht _ => ⟨⟨_, (), rfl, rfl, by rw [ht]; exact hP, hD⟩, hS.F ht⟩) hS.2.2 dX0_addSlot_42
  · have c1 : ¬ (us i) < 16 := fun z => c1 ((nI_ltI (by omega) (by omega)).mpr z)
    exact absurd hu c1
set_option maxHeartbeats 4000000 in
set_option maxRecDepth 100000 in
/-- freeSlot: the last slot comes to its place -/
theorem cI_freeSlot (l : Launch) (hP : va_P D vwCl (dW R o K ad va fl af bl n tc sc T S us ps am) H) (hD : va_D A (dW R o K ad va fl af bl n tc sc T S us ps am)) {i k : Nat} (hi : i < n) (hu : us i ≤ 16) (hk : k < us i) : Met l yX0_freeSlot (tC yX0_freeSlot cX0_freeSlot 2 none) (rmK 0 0 0) (kP D K H [.ref ((ad i).1), .int (nI k)]) (qV D A (fun u : Unit => True) (fun u : Unit => dW R o K ad va fl af bl n tc sc T S (va_up us i (us i - 1)) (va_up ps i (va_up (ps i) k (ps i (us i - 1)))) (va_up am i (va_up (am i) k (am i (us i - 1)))))) 0 0 A := by
  refine Met.ofW (cc := cX0_freeSlot) (maxL := 2) (ret := none) (by decide) rfl ?_
  intro p e s m args below meth c s₁ B hml hv
  obtain ⟨rfl, hH, hK, hN, hO⟩ := hv
  have hx := B.exec
  have hb := B.bytes
  have hr := B.returns
  have hts : ∀ w ∈ tT, w.before _ s = true := fun w h => atoms_spec (ws := tC yX0_freeSlot cX0_freeSlot 2 none) B.pre w (List.mem_cons_of_mem _ h)
  have hown : s.vm.findClass RX0 = some m.cls := findClass_of_methodNamed B.named
  have hlocks := B.notSynchronized
  have C : cx RX0 D K p s m _ c cX0_freeSlot := ⟨hx, hb, hown, hts, hK, hN, hO⟩
  have hR : rmOk (headSpec (tC yX0_freeSlot cX0_freeSlot 2 none) (rmK 0 0 0)).room 0 0 0 := ⟨Nat.le_refl _, Nat.le_refl _, Nat.le_refl _, Nat.le_refl _⟩
  subst hH
  have hS : va_S A s.heap s.heap [] := va_S.rf
  have hl := lv_entry ([.ref ((ad i).1), .int (nI k)]) (n := 2) (Nat.le_of_ble_eq_true rfl)
  rw [lg_entry_eq]
  generalize (lg_sl ([.ref ((ad i).1), .int (nI k)]) ++ List.replicate (2 - (lg_sl ([.ref ((ad i).1), .int (nI k)])).length) Slot.unset).toArray = ls at hl ⊢
  have hl : lv_has ls 2 [(0, .ref ((ad i).1)), (1, .int (nI k))] := hl
  refine lv_aload_n hx hb dX0_freeSlot_0 rfl (lv_at hl 0 rfl) ?_
  refine lv_dup hx hb dX0_freeSlot_1 rfl ?_
  refine gII_used C hP hi dX0_freeSlot_2 ?_
  refine lv_iconst (v := nI 1) hx hb dX0_freeSlot_5 (by decide) ?_
  refine lv_isub hx hb dX0_freeSlot_6 ?_
  refine tp_i (y := nI (us i - 1)) (pk_sub (by omega)) ?_
  refine pI_used C hP hD hS hi dX0_freeSlot_7 (fun H locs hP hD hS => ?_)
  refine lv_aload_n hx hb dX0_freeSlot_10 rfl (lv_at hl 0 rfl) ?_
  refine gII_positions C hP hi dX0_freeSlot_11 ?_
  refine lv_iload_n hx hb dX0_freeSlot_14 rfl (lv_at hl 1 rfl) ?_
  refine lv_aload_n hx hb dX0_freeSlot_15 rfl (lv_at hl 0 rfl) ?_
  refine gII_positions C hP hi dX0_freeSlot_16 ?_
  refine lv_aload_n hx hb dX0_freeSlot_19 rfl (lv_at hl 0 rfl) ?_
  refine gII_used C hP hi dX0_freeSlot_20 ?_
  refine tp_i (y := nI (us i - 1)) (congrArg nI (va_up_self us i (us i - 1))) ?_
  refine lI_positions C hP hi (by omega) dX0_freeSlot_23 ?_
  refine sI_positions C hP hD hS hi (by omega) dX0_freeSlot_24 (fun H locs hP hD hS => ?_)
  refine lv_aload_n hx hb dX0_freeSlot_25 rfl (lv_at hl 0 rfl) ?_
  refine gII_amounts C hP hi dX0_freeSlot_26 ?_
  refine lv_iload_n hx hb dX0_freeSlot_29 rfl (lv_at hl 1 rfl) ?_
  refine lv_aload_n hx hb dX0_freeSlot_30 rfl (lv_at hl 0 rfl) ?_
  refine gII_amounts C hP hi dX0_freeSlot_31 ?_
  refine lv_aload_n hx hb dX0_freeSlot_34 rfl (lv_at hl 0 rfl) ?_
  refine gII_used C hP hi dX0_freeSlot_35 ?_
  refine tp_i (y := nI (us i - 1)) (congrArg nI (va_up_self us i (us i - 1))) ?_
  refine lI_amounts C hP hi (by omega) dX0_freeSlot_38 ?_
  refine sI_amounts C hP hD hS hi (by omega) dX0_freeSlot_39 (fun H locs hP hD hS => ?_)
  exact W.vret hx hb hr (fun t ht _ => ⟨⟨(), rfl, trivial, by rw [ht]; exact hP, hD⟩, hS.F ht⟩) hS.2.2 dX0_freeSlot_40
end MI
end
section
/-! ITEM: change -/
theorem i64_nle {a b : Int64} (h : ¬ a ≤ b) : b < a := by rw [i64_le] at h; rw [i64_lt]; omega
theorem i64_le_nlt {a b : Int64} (h : a ≤ b) : ¬ b < a := by rw [i64_le] at h; rw [i64_lt]; omega
theorem i64_nlt_le {a b : Int64} (h : ¬ a < b) : b ≤ a := by rw [i64_lt] at h; rw [i64_le]; omega
section MI2
variable {D : va_G} {K : Nat → ClassId} {H : Heap} {A : Nat → Prop} {R : va_W} {o : Nat → Nat} {ad : Nat → Nat × Nat × Nat} {va fl af : Nat → Int64} {bl : Nat → Bool} {n tc sc : Nat} {T S : Nat → Bool} {us : Nat → Nat} {ps : Nat → Nat → Nat} {am : Nat → Nat → Int64}
set_option maxHeartbeats 1000000 in
set_option maxRecDepth 100000 in
/-- change: as chC says -/
theorem cI_change (l : Launch) (hP : va_P D vwCl (dW R o K ad va fl af bl n tc sc T S us ps am) H) (hD : va_D A (dW R o K ad va fl af bl n tc sc T S us ps am)) {i : Nat} (hi : i < n) (hu : us i ≤ 16) {q : Nat} (hq3 : q < 300) (v : Int64) : Met l yX0_change (tC yX0_change cX0_change 7 (some .boolean)) (rmK 2 0 0) (kP D K H [.ref ((ad i).1), .int (nI q), .long v]) (qI D A (fun (r : Int32) (u : Unit) => r = bI (chC q v (us i) (ps i) (am i)).1) (fun u : Unit => dW R o K ad va fl af bl n tc sc T S (va_up us i (chC q v (us i) (ps i) (am i)).2.1) (va_up ps i (chC q v (us i) (ps i) (am i)).2.2.1) (va_up am i (chC q v (us i) (ps i) (am i)).2.2.2))) 0 0 A := by
  refine Met.ofW (cc := cX0_change) (maxL := 7) (ret := (some .boolean)) (by decide) rfl ?_
  intro p e s m args below meth c s₁ B hml hv
  obtain ⟨rfl, hH, hK, hN, hO⟩ := hv
  have hx := B.exec
  have hb := B.bytes
  have hr := B.returns
  have hts : ∀ w ∈ tT, w.before _ s = true := fun w h => atoms_spec (ws := tC yX0_change cX0_change 7 (some .boolean)) B.pre w (List.mem_cons_of_mem _ h)
  have hown : s.vm.findClass RX0 = some m.cls := findClass_of_methodNamed B.named
  have hlocks := B.notSynchronized
  have C : cx RX0 D K p s m _ c cX0_change := ⟨hx, hb, hown, hts, hK, hN, hO⟩
  have hR : rmOk (headSpec (tC yX0_change cX0_change 7 (some .boolean)) (rmK 2 0 0)).room 2 0 0 := ⟨Nat.le_refl _, Nat.le_refl _, Nat.le_refl _, Nat.le_refl _⟩
  subst hH
  have hS : va_S A s.heap s.heap [] := va_S.rf
  have hl := lv_entry ([.ref ((ad i).1), .int (nI q), .long v]) (n := 7) (Nat.le_of_ble_eq_true rfl)
  rw [lg_entry_eq]
  generalize (lg_sl ([.ref ((ad i).1), .int (nI q), .long v]) ++ List.replicate (7 - (lg_sl ([.ref ((ad i).1), .int (nI q), .long v])).length) Slot.unset).toArray = ls at hl ⊢
  have hl : lv_has ls 7 [(0, .ref ((ad i).1)), (1, .int (nI q)), (2, .long v)] := hl
  refine lv_lload_n hx hb dX0_change_0 rfl (lv_at hl 2 rfl) ?_
  refine lv_ldc2 (v := (-2000000000000000)) hx hb hown (hts _ (by decide +kernel : Cond.constantLong RX0 31 (-2000000000000000) ∈ tT)) dX0_change_1 ?_
  refine W.lcmp hx hb dX0_change_4 ?_
  refine lv_if_lt (tgt := 16) hx hb dX0_change_5 (by decide) (fun c1 => ?_) (fun c1 => ?_)
  · have c1 : v < (-2000000000000000) := (lg_cmp_lt v (-2000000000000000)).mp c1
    refine lv_iconst (v := nI 0) hx hb dX0_change_16 (by decide) ?_
    have hc : chC q v (us i) (ps i) (am i) = (false, us i, ps i, am i) := by
      unfold chC
      exact if_pos (Or.inl c1)
    have e1 : dW R o K ad va fl af bl n tc sc T S (va_up us i (chC q v (us i) (ps i) (am i)).2.1) (va_up ps i (chC q v (us i) (ps i) (am i)).2.2.1) (va_up am i (chC q v (us i) (ps i) (am i)).2.2.2) = dW R o K ad va fl af bl n tc sc T S us ps am := by rw [hc]; show dW R o K ad va fl af bl n tc sc T S (va_up us i (us i)) (va_up ps i (ps i)) (va_up am i (am i)) = _; rw [up_same us i, up_same ps i, up_same am i]
    rw [← e1] at hP hD
    exact W.zret (v := nI 0) hx hb hr (by decide) (fun t ht _ => ⟨⟨_, (), rfl, b0 (by rw [hc]), by rw [ht]; exact hP, hD⟩, hS.F ht⟩) hS.2.2 dX0_change_17
  · have c1 : ¬ v < (-2000000000000000) := fun z9 => c1 ((lg_cmp_lt v (-2000000000000000)).mpr z9)
    refine lv_lload_n hx hb dX0_change_8 rfl (lv_at hl 2 rfl) ?_
    refine lv_ldc2 (v := 2000000000000000) hx hb hown (hts _ (by decide +kernel : Cond.constantLong RX0 33 2000000000000000 ∈ tT)) dX0_change_9 ?_
    refine W.lcmp hx hb dX0_change_12 ?_
    refine lv_if_le (tgt := 18) hx hb dX0_change_13 (by decide) (fun c2 => ?_) (fun c2 => ?_)
    · have c2 : v ≤ 2000000000000000 := (lg_cmp_le v 2000000000000000).mp c2
      have n1 : ¬ (v < (-2000000000000000) ∨ 2000000000000000 < v) := fun z => z.elim c1 (i64_le_nlt c2)
      refine lv_aload_n hx hb dX0_change_18 rfl (lv_at hl 0 rfl) ?_
      refine lv_iload_n hx hb dX0_change_19 rfl (lv_at hl 1 rfl) ?_
      refine pv (va_runV (As := [.int (nI q)]) (rest := []) ⟨hx, hb, hml, hown, hts⟩ (cI_amountFor l hP hi hu (nI q)) (cwV 1 hts gI_35 rfl rfl rfl (by decide +kernel) (rmF hR (by decide) (by decide))) (kP_V C (va_recv C.2.2.2.2.1 hP (ci := ciI) (q0 := 6 + (R.length + 3 * i)) rfl (dW_0 hi))) rfl rfl hl.1 rfl (lv_room (Nat.le_of_ble_eq_true rfl)) dX0_change_20 ⟨hR.2.2.1, hR.2.2.2⟩) ?_
      refine lv_lload_n hx hb dX0_change_23 rfl (lv_at hl 2 rfl) ?_
      refine lv_ladd hx hb dX0_change_24 ?_
      refine tp_l (y := ntq (qx (ps i) (nI q)) (us i) (am i) + v) (rfl) ?_
      generalize hs : ntq (qx (ps i) (nI q)) (us i) (am i) + v = z
      refine lv_lstore (lv' := [(4, .long z), (0, .ref ((ad i).1)), (1, .int (nI q)), (2, .long v)]) hx hb dX0_change_25 hl (by decide) rfl (fun ls hl => ?_)
      refine lv_lload hx hb dX0_change_27 (lv_at hl 0 rfl) ?_
      refine lv_ldc2 (v := (-1000000000000000)) hx hb hown (hts _ (by decide +kernel : Cond.constantLong RX0 39 (-1000000000000000) ∈ tT)) dX0_change_29 ?_
      refine W.lcmp hx hb dX0_change_32 ?_
      refine lv_if_lt (tgt := 45) hx hb dX0_change_33 (by decide) (fun c3 => ?_) (fun c3 => ?_)
      · have c3 : z < (-1000000000000000) := (lg_cmp_lt z (-1000000000000000)).mp c3
        refine lv_iconst (v := nI 0) hx hb dX0_change_45 (by decide) ?_
        have hc : chC q v (us i) (ps i) (am i) = (false, us i, ps i, am i) := by
          unfold chC
          rw [if_neg n1, hs]
          exact if_pos (Or.inl c3)
        have e1 : dW R o K ad va fl af bl n tc sc T S (va_up us i (chC q v (us i) (ps i) (am i)).2.1) (va_up ps i (chC q v (us i) (ps i) (am i)).2.2.1) (va_up am i (chC q v (us i) (ps i) (am i)).2.2.2) = dW R o K ad va fl af bl n tc sc T S us ps am := by rw [hc]; show dW R o K ad va fl af bl n tc sc T S (va_up us i (us i)) (va_up ps i (ps i)) (va_up am i (am i)) = _; rw [up_same us i, up_same ps i, up_same am i]
        rw [← e1] at hP hD
        exact W.zret (v := nI 0) hx hb hr (by decide) (fun t ht _ => ⟨⟨_, (), rfl, b0 (by rw [hc]), by rw [ht]; exact hP, hD⟩, hS.F ht⟩) hS.2.2 dX0_change_46
      · have c3 : ¬ z < (-1000000000000000) := fun z9 => c3 ((lg_cmp_lt z (-1000000000000000)).mpr z9)
        refine lv_lload hx hb dX0_change_36 (lv_at hl 0 rfl) ?_
        refine lv_ldc2 (v := 1000000000000000) hx hb hown (hts _ (by decide +kernel : Cond.constantLong RX0 41 1000000000000000 ∈ tT)) dX0_change_38 ?_
        refine W.lcmp hx hb dX0_change_41 ?_
        refine lv_if_le (tgt := 47) hx hb dX0_change_42 (by decide) (fun c4 => ?_) (fun c4 => ?_)
        · have c4 : z ≤ 1000000000000000 := (lg_cmp_le z 1000000000000000).mp c4
          have n2 : ¬ (z < (-1000000000000000) ∨ 1000000000000000 < z) := fun y => y.elim c3 (i64_le_nlt c4)
          refine lv_aload_n hx hb dX0_change_47 rfl (lv_at hl 1 rfl) ?_
          refine lv_iload_n hx hb dX0_change_48 rfl (lv_at hl 2 rfl) ?_
          refine pv (va_runV (As := [.int (nI q)]) (rest := []) ⟨hx, hb, hml, hown, hts⟩ (cI_slotOf l hP hi hu (nI q)) (cwV 1 hts gI_27 rfl rfl rfl (by decide +kernel) (rmF hR (by decide) (by decide))) (kP_V C (va_recv C.2.2.2.2.1 hP (ci := ciI) (q0 := 6 + (R.length + 3 * i)) rfl (dW_0 hi))) rfl rfl hl.1 rfl (lv_room (Nat.le_of_ble_eq_true rfl)) dX0_change_49 ⟨hR.2.2.1, hR.2.2.2⟩) ?_
          rcases slR_or (ps i) (nI q) (us i) with ⟨h1, e1⟩ | ⟨h1, e1⟩
          · refine tp_i (y := nI (fs (qx (ps i) (nI q)) (us i) 0)) (e1) ?_
            refine lv_istore (lv' := [(6, .int (nI (fs (qx (ps i) (nI q)) (us i) 0))), (4, .long z), (0, .ref ((ad i).1)), (1, .int (nI q)), (2, .long v)]) hx hb dX0_change_52 hl (by decide) rfl (fun ls hl => ?_)
            refine lv_iload hx hb dX0_change_54 (lv_at hl 0 rfl) ?_
            refine lv_if_ge (tgt := 82) hx hb dX0_change_56 (by decide) (fun c5 => ?_) (fun c5 => ?_)
            · refine lv_aload_n hx hb dX0_change_82 rfl (lv_at hl 2 rfl) ?_
              refine gII_amounts C hP hi dX0_change_83 ?_
              refine lv_iload hx hb dX0_change_86 (lv_at hl 0 rfl) ?_
              refine lv_lload hx hb dX0_change_88 (lv_at hl 1 rfl) ?_
              refine sI_amounts C hP hD hS hi (by omega) dX0_change_90 (fun H locs hP hD hS => ?_)
              refine lv_lload hx hb dX0_change_91 (lv_at hl 1 rfl) ?_
              refine lv_lconst (v := 0) hx hb dX0_change_93 (by decide) ?_
              refine W.lcmp hx hb dX0_change_94 ?_
              refine lv_if_ne (tgt := 104) hx hb dX0_change_95 (by decide) (fun c6 => ?_) (fun c6 => ?_)
              · have c6 : ¬ z = 0 := fun z9 => c6 ((lg_cmp_eq z 0).mpr z9)
                refine lv_iconst (v := nI 1) hx hb dX0_change_104 (by decide) ?_
                have hc : chC q v (us i) (ps i) (am i) = (true, us i, ps i, va_up (am i) (fs (qx (ps i) (nI q)) (us i) 0) z) := by
                  unfold chC
                  rw [if_neg n1, hs, if_neg n2, if_pos h1]
                  exact if_neg c6
                have e1 : dW R o K ad va fl af bl n tc sc T S (va_up us i (chC q v (us i) (ps i) (am i)).2.1) (va_up ps i (chC q v (us i) (ps i) (am i)).2.2.1) (va_up am i (chC q v (us i) (ps i) (am i)).2.2.2) = dW R o K ad va fl af bl n tc sc T S us ps (va_up am i (va_up (am i) (fs (qx (ps i) (nI q)) (us i) 0) z)) := by rw [hc]; show dW R o K ad va fl af bl n tc sc T S (va_up us i (us i)) (va_up ps i (ps i)) (va_up am i (va_up (am i) (fs (qx (ps i) (nI q)) (us i) 0) z)) = _; rw [up_same us i, up_same ps i]
                rw [← e1] at hP hD
                exact W.zret (v := nI 1) hx hb hr (by decide) (fun t ht _ => ⟨⟨_, (), rfl, b1 (by rw [hc]), by rw [ht]; exact hP, hD⟩, hS.F ht⟩) hS.2.2 dX0_change_105
              · have c6 : z = 0 := (lg_cmp_eq z 0).mp c6
                refine lv_aload_n hx hb dX0_change_98 rfl (lv_at hl 2 rfl) ?_
                refine lv_iload hx hb dX0_change_99 (lv_at hl 0 rfl) ?_
                refine wv (va_runV (As := [.int (nI (fs (qx (ps i) (nI q)) (us i) 0))]) (rest := []) ⟨hx, hb, hml, hown, hts⟩ (cI_freeSlot l hP hD hi hu h1) (cwV 1 hts gI_47 rfl rfl rfl (by decide +kernel) (rmF hR (by decide) (by decide))) (kP_V C (va_recv C.2.2.2.2.1 hP (ci := ciI) (q0 := 6 + (R.length + 3 * i)) rfl (dW_0 hi))) rfl rfl hl.1 rfl (lv_room (Nat.le_of_ble_eq_true rfl)) dX0_change_101 ⟨hR.2.2.1, hR.2.2.2⟩) hS (fun _ H locs hq hP hD hS => ?_)
                refine lv_iconst (v := nI 1) hx hb dX0_change_104 (by decide) ?_
                have hc : chC q v (us i) (ps i) (am i) = (true, us i - 1, va_up (ps i) (fs (qx (ps i) (nI q)) (us i) 0) (ps i (us i - 1)), va_up (va_up (am i) (fs (qx (ps i) (nI q)) (us i) 0) z) (fs (qx (ps i) (nI q)) (us i) 0) (va_up (am i) (fs (qx (ps i) (nI q)) (us i) 0) z (us i - 1))) := by
                  unfold chC
                  rw [if_neg n1, hs, if_neg n2, if_pos h1]
                  exact if_pos c6
                have e1 : dW R o K ad va fl af bl n tc sc T S (va_up us i (chC q v (us i) (ps i) (am i)).2.1) (va_up ps i (chC q v (us i) (ps i) (am i)).2.2.1) (va_up am i (chC q v (us i) (ps i) (am i)).2.2.2) = dW R o K ad va fl af bl n tc sc T S (va_up us i (us i - 1)) (va_up ps i (va_up (ps i) (fs (qx (ps i) (nI q)) (us i) 0) (ps i (us i - 1)))) (va_up (va_up am i (va_up (am i) (fs (qx (ps i) (nI q)) (us i) 0) z)) i (va_up ((va_up am i (va_up (am i) (fs (qx (ps i) (nI q)) (us i) 0) z)) i) (fs (qx (ps i) (nI q)) (us i) 0) ((va_up am i (va_up (am i) (fs (qx (ps i) (nI q)) (us i) 0) z)) i (us i - 1)))) := by rw [hc, bx_uu am i, va_up_self am i]
                rw [← e1] at hP hD
                exact W.zret (v := nI 1) hx hb hr (by decide) (fun t ht _ => ⟨⟨_, (), rfl, b1 (by rw [hc]), by rw [ht]; exact hP, hD⟩, hS.F ht⟩) hS.2.2 dX0_change_105
            · exact absurd (nI_pos' (by omega)) c5
          · refine tp_i (y := (-1)) (e1) ?_
            refine lv_istore (lv' := [(6, .int (-1)), (4, .long z), (0, .ref ((ad i).1)), (1, .int (nI q)), (2, .long v)]) hx hb dX0_change_52 hl (by decide) rfl (fun ls hl => ?_)
            refine lv_iload hx hb dX0_change_54 (lv_at hl 0 rfl) ?_
            refine lv_if_ge (tgt := 82) hx hb dX0_change_56 (by decide) (fun c5 => ?_) (fun c5 => ?_)
            · exact absurd c5 (by decide)
            · refine lv_lload hx hb dX0_change_59 (lv_at hl 1 rfl) ?_
              refine lv_lconst (v := 0) hx hb dX0_change_61 (by decide) ?_
              refine W.lcmp hx hb dX0_change_62 ?_
              refine lv_if_eq (tgt := 76) hx hb dX0_change_63 (by decide) (fun c6 => ?_) (fun c6 => ?_)
              · have c6 : z = 0 := (lg_cmp_eq z 0).mp c6
                refine lv_iconst (v := nI 1) hx hb dX0_change_76 (by decide) ?_
                refine lv_goto (tgt := 81) hx hb dX0_change_77 (by decide) ?_
                have hc : chC q v (us i) (ps i) (am i) = (true, us i, ps i, am i) := by
                  unfold chC
                  rw [if_neg n1, hs, if_neg n2, if_neg h1]
                  exact if_pos c6
                have e1 : dW R o K ad va fl af bl n tc sc T S (va_up us i (chC q v (us i) (ps i) (am i)).2.1) (va_up ps i (chC q v (us i) (ps i) (am i)).2.2.1) (va_up am i (chC q v (us i) (ps i) (am i)).2.2.2) = dW R o K ad va fl af bl n tc sc T S us ps am := by rw [hc]; show dW R o K ad va fl af bl n tc sc T S (va_up us i (us i)) (va_up ps i (ps i)) (va_up am i (am i)) = _; rw [up_same us i, up_same ps i, up_same am i]
                rw [← e1] at hP hD
                exact W.zret (v := nI 1) hx hb hr (by decide) (fun t ht _ => ⟨⟨_, (), rfl, b1 (by rw [hc]), by rw [ht]; exact hP, hD⟩, hS.F ht⟩) hS.2.2 dX0_change_81
              · have c6 : ¬ z = 0 := fun z9 => c6 ((lg_cmp_eq z 0).mpr z9)
                refine lv_aload_n hx hb dX0_change_66 rfl (lv_at hl 2 rfl) ?_
                refine lv_iload_n hx hb dX0_change_67 rfl (lv_at hl 3 rfl) ?_
                refine lv_lload hx hb dX0_change_68 (lv_at hl 1 rfl) ?_
                by_cases h16 : 16 ≤ us i
                · refine pv (va_runV (As := [.int (nI q), .long z]) (rest := []) ⟨hx, hb, hml, hown, hts⟩ (cI_addSlot_no l hP hi h16 hu (nI q) z) (cwV 2 hts gI_43 rfl rfl rfl (by decide +kernel) (rmF hR (by decide) (by decide))) (kP_V C (va_recv C.2.2.2.2.1 hP (ci := ciI) (q0 := 6 + (R.length + 3 * i)) rfl (dW_0 hi))) rfl rfl hl.1 rfl (lv_room (Nat.le_of_ble_eq_true rfl)) dX0_change_70 ⟨hR.2.2.1, hR.2.2.2⟩) ?_
                  refine lv_if_eq (tgt := 80) hx hb dX0_change_73 (by decide) (fun c7 => ?_) (fun c7 => ?_)
                  · refine lv_iconst (v := nI 0) hx hb dX0_change_80 (by decide) ?_
                    have hc : chC q v (us i) (ps i) (am i) = (false, us i, ps i, am i) := by
                      unfold chC
                      rw [if_neg n1, hs, if_neg n2, if_neg h1, if_neg c6]
                      exact if_pos h16
                    have e1 : dW R o K ad va fl af bl n tc sc T S (va_up us i (chC q v (us i) (ps i) (am i)).2.1) (va_up ps i (chC q v (us i) (ps i) (am i)).2.2.1) (va_up am i (chC q v (us i) (ps i) (am i)).2.2.2) = dW R o K ad va fl af bl n tc sc T S us ps am := by rw [hc]; show dW R o K ad va fl af bl n tc sc T S (va_up us i (us i)) (va_up ps i (ps i)) (va_up am i (am i)) = _; rw [up_same us i, up_same ps i, up_same am i]
                    rw [← e1] at hP hD
                    exact W.zret (v := nI 0) hx hb hr (by decide) (fun t ht _ => ⟨⟨_, (), rfl, b0 (by rw [hc]), by rw [ht]; exact hP, hD⟩, hS.F ht⟩) hS.2.2 dX0_change_81
                  · exact absurd (by decide) c7
                · refine wi (va_runV (As := [.int (nI q), .long z]) (rest := []) ⟨hx, hb, hml, hown, hts⟩ (cI_addSlot l hP hD hi (by omega) q z) (cwV 2 hts gI_43 rfl rfl rfl (by decide +kernel) (rmF hR (by decide) (by decide))) (kP_V C (va_recv C.2.2.2.2.1 hP (ci := ciI) (q0 := 6 + (R.length + 3 * i)) rfl (dW_0 hi))) rfl rfl hl.1 rfl (lv_room (Nat.le_of_ble_eq_true rfl)) dX0_change_70 ⟨hR.2.2.1, hR.2.2.2⟩) hS (fun r _ H locs hq hP hD hS => ?_)
                  subst hq
                  refine lv_if_eq (tgt := 80) hx hb dX0_change_73 (by decide) (fun c7 => ?_) (fun c7 => ?_)
                  · exact absurd c7 (by decide)
                  · refine lv_iconst (v := nI 1) hx hb dX0_change_76 (by decide) ?_
                    refine lv_goto (tgt := 81) hx hb dX0_change_77 (by decide) ?_
                    have hc : chC q v (us i) (ps i) (am i) = (true, us i + 1, va_up (ps i) (us i) q, va_up (am i) (us i) z) := by
                      unfold chC
                      rw [if_neg n1, hs, if_neg n2, if_neg h1, if_neg c6]
                      exact if_neg h16
                    have e1 : dW R o K ad va fl af bl n tc sc T S (va_up us i (chC q v (us i) (ps i) (am i)).2.1) (va_up ps i (chC q v (us i) (ps i) (am i)).2.2.1) (va_up am i (chC q v (us i) (ps i) (am i)).2.2.2) = dW R o K ad va fl af bl n tc sc T S (va_up us i (us i + 1)) (va_up ps i (va_up (ps i) (us i) q)) (va_up am i (va_up (am i) (us i) z)) := by rw [hc]
                    rw [← e1] at hP hD
                    exact W.zret (v := nI 1) hx hb hr (by decide) (fun t ht _ => ⟨⟨_, (), rfl, b1 (by rw [hc]), by rw [ht]; exact hP, hD⟩, hS.F ht⟩) hS.2.2 dX0_change_81
        · have c4 : ¬ z ≤ 1000000000000000 := fun z9 => c4 ((lg_cmp_le z 1000000000000000).mpr z9)
          refine lv_iconst (v := nI 0) hx hb dX0_change_45 (by decide) ?_
          have hc : chC q v (us i) (ps i) (am i) = (false, us i, ps i, am i) := by
            unfold chC
            rw [if_neg n1, hs]
            exact if_pos (Or.inr (i64_nle c4))
          have e1 : dW R o K ad va fl af bl n tc sc T S (va_up us i (chC q v (us i) (ps i) (am i)).2.1) (va_up ps i (chC q v (us i) (ps i) (am i)).2.2.1) (va_up am i (chC q v (us i) (ps i) (am i)).2.2.2) = dW R o K ad va fl af bl n tc sc T S us ps am := by rw [hc]; show dW R o K ad va fl af bl n tc sc T S (va_up us i (us i)) (va_up ps i (ps i)) (va_up am i (am i)) = _; rw [up_same us i, up_same ps i, up_same am i]
          rw [← e1] at hP hD
          exact W.zret (v := nI 0) hx hb hr (by decide) (fun t ht _ => ⟨⟨_, (), rfl, b0 (by rw [hc]), by rw [ht]; exact hP, hD⟩, hS.F ht⟩) hS.2.2 dX0_change_46
    · have c2 : ¬ v ≤ 2000000000000000 := fun z9 => c2 ((lg_cmp_le v 2000000000000000).mpr z9)
      refine lv_iconst (v := nI 0) hx hb dX0_change_16 (by decide) ?_
      have hc : chC q v (us i) (ps i) (am i) = (false, us i, ps i, am i) := by
        unfold chC
        exact if_pos (Or.inr (i64_nle c2))
      have e1 : dW R o K ad va fl af bl n tc sc T S (va_up us i (chC q v (us i) (ps i) (am i)).2.1) (va_up ps i (chC q v (us i) (ps i) (am i)).2.2.1) (va_up am i (chC q v (us i) (ps i) (am i)).2.2.2) = dW R o K ad va fl af bl n tc sc T S us ps am := by rw [hc]; show dW R o K ad va fl af bl n tc sc T S (va_up us i (us i)) (va_up ps i (ps i)) (va_up am i (am i)) = _; rw [up_same us i, up_same ps i, up_same am i]
      rw [← e1] at hP hD
      exact W.zret (v := nI 0) hx hb hr (by decide) (fun t ht _ => ⟨⟨_, (), rfl, b0 (by rw [hc]), by rw [ht]; exact hP, hD⟩, hS.F ht⟩) hS.2.2 dX0_change_17
end MI2
end
section
/-! GRIDDESK: the methods that look, and those that write without a search -/
/-- no item of that number is there -/
def nT (n : Nat) (T : Nat → Bool) (x : Int32) : Prop := x < 0 ∨ nI n ≤ x ∨ ∃ i, i < n ∧ x = nI i ∧ T i = false
theorem nT_or (n : Nat) (T : Nat → Bool) (hn : n ≤ 200) (x : Int32) : nT n T x ∨ ∃ i, i < n ∧ x = nI i ∧ T i = true := by
  rcases pk_ix x (n := n) (by omega) with h | h | ⟨i, hi, e⟩
  · exact Or.inl (Or.inl h)
  · exact Or.inl (Or.inr (Or.inl h))
  · cases ht : T i with
    | true => exact Or.inr ⟨i, hi, e, ht⟩
    | false => exact Or.inl (Or.inr (Or.inr ⟨i, hi, e, ht⟩))
section MD1
variable {D : va_G} {K : Nat → ClassId} {H : Heap} {A : Nat → Prop} {R : va_W} {o : Nat → Nat} {ad : Nat → Nat × Nat × Nat} {va fl af : Nat → Int64} {bl : Nat → Bool} {n tc sc : Nat} {T S : Nat → Bool} {us : Nat → Nat} {ps : Nat → Nat → Nat} {am : Nat → Nat → Int64}
set_option maxHeartbeats 1000000 in
set_option maxRecDepth 100000 in
theorem cD_isPosition (l : Launch)  (x : Int32) : Met l yX1_isPosition (tC yX1_isPosition cX1_isPosition 1 (some .boolean)) (rmK 0 0 0) (kP D K H [.int x]) (k2_QcV (.int (bI (isP x)))) 0 0 (fun _ => False) := by
  refine Met.ofW (cc := cX1_isPosition) (maxL := 1) (ret := (some .boolean)) (by decide) rfl ?_
  intro p e s m args below meth c s₁ B hml hv
  obtain ⟨rfl, hH, hK, hN, hO⟩ := hv
  have hx := B.exec
  have hb := B.bytes
  have hr := B.returns
  have hts : ∀ w ∈ tT, w.before _ s = true := fun w h => atoms_spec (ws := tC yX1_isPosition cX1_isPosition 1 (some .boolean)) B.pre w (List.mem_cons_of_mem _ h)
  have hown : s.vm.findClass RX1 = some m.cls := findClass_of_methodNamed B.named
  have hlocks := B.notSynchronized
  have C : cx RX1 D K p s m _ c cX1_isPosition := ⟨hx, hb, hown, hts, hK, hN, hO⟩
  have hR : rmOk (headSpec (tC yX1_isPosition cX1_isPosition 1 (some .boolean)) (rmK 0 0 0)).room 0 0 0 := ⟨Nat.le_refl _, Nat.le_refl _, Nat.le_refl _, Nat.le_refl _⟩
  subst hH
  have hl := lv_entry ([.int x]) (n := 1) (Nat.le_of_ble_eq_true rfl)
  rw [lg_entry_eq]
  generalize (lg_sl ([.int x]) ++ List.replicate (1 - (lg_sl ([.int x])).length) Slot.unset).toArray = ls at hl ⊢
  have hl : lv_has ls 1 [(0, .int x)] := hl
  refine lv_iload_n hx hb dX1_isPosition_0 rfl (lv_at hl 0 rfl) ?_
  refine lv_if_lt (tgt := 15) hx hb dX1_isPosition_1 (by decide) (fun c1 => ?_) (fun c1 => ?_)
  · refine lv_iconst (v := nI 0) hx hb dX1_isPosition_15 (by decide) ?_
    exact W.zret (v := nI 0) hx hb hr (by decide) (fun t ht _ => ⟨rt0 (decide_eq_false (fun z => z.1 c1)), ht⟩) (fun q h => by cases h) dX1_isPosition_16
  · refine lv_iload_n hx hb dX1_isPosition_4 rfl (lv_at hl 0 rfl) ?_
    refine lv_sipush (v := nI 300) hx hb dX1_isPosition_5 (by decide) ?_
    refine lv_icmp_ge (tgt := 15) hx hb dX1_isPosition_8 (by decide) (fun c2 => ?_) (fun c2 => ?_)
    · refine lv_iconst (v := nI 0) hx hb dX1_isPosition_15 (by decide) ?_
      exact W.zret (v := nI 0) hx hb hr (by decide) (fun t ht _ => ⟨rt0 (decide_eq_false (fun z => z.2 c2)), ht⟩) (fun q h => by cases h) dX1_isPosition_16
    · refine lv_iconst (v := nI 1) hx hb dX1_isPosition_11 (by decide) ?_
      refine lv_goto (tgt := 16) hx hb dX1_isPosition_12 (by decide) ?_
      exact W.zret (v := nI 1) hx hb hr (by decide) (fun t ht _ => ⟨rt1 (decide_eq_true ⟨c1, c2⟩), ht⟩) (fun q h => by cases h) dX1_isPosition_16
set_option maxHeartbeats 1000000 in
set_option maxRecDepth 100000 in
theorem cD_isValue (l : Launch)  (v : Int64) : Met l yX1_isValue (tC yX1_isValue cX1_isValue 2 (some .boolean)) (rmK 0 0 0) (kP D K H [.long v]) (k2_QcV (.int (bI (isV v)))) 0 0 (fun _ => False) := by
  refine Met.ofW (cc := cX1_isValue) (maxL := 2) (ret := (some .boolean)) (by decide) rfl ?_
  intro p e s m args below meth c s₁ B hml hv
  obtain ⟨rfl, hH, hK, hN, hO⟩ := hv
  have hx := B.exec
  have hb := B.bytes
  have hr := B.returns
  have hts : ∀ w ∈ tT, w.before _ s = true := fun w h => atoms_spec (ws := tC yX1_isValue cX1_isValue 2 (some .boolean)) B.pre w (List.mem_cons_of_mem _ h)
  have hown : s.vm.findClass RX1 = some m.cls := findClass_of_methodNamed B.named
  have hlocks := B.notSynchronized
  have C : cx RX1 D K p s m _ c cX1_isValue := ⟨hx, hb, hown, hts, hK, hN, hO⟩
  have hR : rmOk (headSpec (tC yX1_isValue cX1_isValue 2 (some .boolean)) (rmK 0 0 0)).room 0 0 0 := ⟨Nat.le_refl _, Nat.le_refl _, Nat.le_refl _, Nat.le_refl _⟩
  subst hH
  have hl := lv_entry ([.long v]) (n := 2) (Nat.le_of_ble_eq_true rfl)
  rw [lg_entry_eq]
  generalize (lg_sl ([.long v]) ++ List.replicate (2 - (lg_sl ([.long v])).length) Slot.unset).toArray = ls at hl ⊢
  have hl : lv_has ls 2 [(0, .long v)] := hl
  refine lv_lload_n hx hb dX1_isValue_0 rfl (lv_at hl 0 rfl) ?_
  refine lv_ldc2 (v := (-1000000000000000000)) hx hb hown (hts _ (by decide +kernel : Cond.constantLong RX1 86 (-1000000000000000000) ∈ tT)) dX1_isValue_1 ?_
  refine W.lcmp hx hb dX1_isValue_4 ?_
  refine lv_if_lt (tgt := 20) hx hb dX1_isValue_5 (by decide) (fun c1 => ?_) (fun c1 => ?_)
  · have c1 : v < (-1000000000000000000) := (lg_cmp_lt v (-1000000000000000000)).mp c1
    refine lv_iconst (v := nI 0) hx hb dX1_isValue_20 (by decide) ?_
    exact W.zret (v := nI 0) hx hb hr (by decide) (fun t ht _ => ⟨rt0 (decide_eq_false (fun z => z.1 c1)), ht⟩) (fun q h => by cases h) dX1_isValue_21
  · have c1 : ¬ v < (-1000000000000000000) := fun z9 => c1 ((lg_cmp_lt v (-1000000000000000000)).mpr z9)
    refine lv_lload_n hx hb dX1_isValue_8 rfl (lv_at hl 0 rfl) ?_
    refine lv_ldc2 (v := 1000000000000000000) hx hb hown (hts _ (by decide +kernel : Cond.constantLong RX1 88 1000000000000000000 ∈ tT)) dX1_isValue_9 ?_
    refine W.lcmp hx hb dX1_isValue_12 ?_
    refine lv_if_gt (tgt := 20) hx hb dX1_isValue_13 (by decide) (fun c2 => ?_) (fun c2 => ?_)
    · have c2 : 1000000000000000000 < v := (lg_cmp_gt v 1000000000000000000).mp c2
      refine lv_iconst (v := nI 0) hx hb dX1_isValue_20 (by decide) ?_
      exact W.zret (v := nI 0) hx hb hr (by decide) (fun t ht _ => ⟨rt0 (decide_eq_false (fun z => z.2 c2)), ht⟩) (fun q h => by cases h) dX1_isValue_21
    · have c2 : ¬ 1000000000000000000 < v := fun z9 => c2 ((lg_cmp_gt v 1000000000000000000).mpr z9)
      refine lv_iconst (v := nI 1) hx hb dX1_isValue_16 (by decide) ?_
      refine lv_goto (tgt := 21) hx hb dX1_isValue_17 (by decide) ?_
      exact W.zret (v := nI 1) hx hb hr (by decide) (fun t ht _ => ⟨rt1 (decide_eq_true ⟨c1, c2⟩), ht⟩) (fun q h => by cases h) dX1_isValue_21
set_option maxHeartbeats 1000000 in
set_option maxRecDepth 100000 in
theorem cD_itemEver (l : Launch) (hP : va_P D vwCl (dW R o K ad va fl af bl n tc sc T S us ps am) H) (hn200 : n ≤ 200) {i : Nat} (hi : i < n) : Met l yX1_itemEver (tC yX1_itemEver cX1_itemEver 2 (some (.object "GridDesk$Item"))) (rmK 0 0 0) (kP D K H [.ref (o 0), .int (nI i)]) (k2_QcV (.ref (ad i).1)) 0 0 (fun _ => False) := by
  refine Met.ofW (cc := cX1_itemEver) (maxL := 2) (ret := (some (.object "GridDesk$Item"))) (by decide) rfl ?_
  intro p e s m args below meth c s₁ B hml hv
  obtain ⟨rfl, hH, hK, hN, hO⟩ := hv
  have hx := B.exec
  have hb := B.bytes
  have hr := B.returns
  have hts : ∀ w ∈ tT, w.before _ s = true := fun w h => atoms_spec (ws := tC yX1_itemEver cX1_itemEver 2 (some (.object "GridDesk$Item"))) B.pre w (List.mem_cons_of_mem _ h)
  have hown : s.vm.findClass RX1 = some m.cls := findClass_of_methodNamed B.named
  have hlocks := B.notSynchronized
  have C : cx RX1 D K p s m _ c cX1_itemEver := ⟨hx, hb, hown, hts, hK, hN, hO⟩
  have hR : rmOk (headSpec (tC yX1_itemEver cX1_itemEver 2 (some (.object "GridDesk$Item"))) (rmK 0 0 0)).room 0 0 0 := ⟨Nat.le_refl _, Nat.le_refl _, Nat.le_refl _, Nat.le_refl _⟩
  subst hH
  have hl := lv_entry ([.ref (o 0), .int (nI i)]) (n := 2) (Nat.le_of_ble_eq_true rfl)
  rw [lg_entry_eq]
  generalize (lg_sl ([.ref (o 0), .int (nI i)]) ++ List.replicate (2 - (lg_sl ([.ref (o 0), .int (nI i)])).length) Slot.unset).toArray = ls at hl ⊢
  have hl : lv_has ls 2 [(0, .ref (o 0)), (1, .int (nI i))] := hl
  refine lv_iload_n hx hb dX1_itemEver_0 rfl (lv_at hl 1 rfl) ?_
  refine lv_if_lt (tgt := 21) hx hb dX1_itemEver_1 (by decide) (fun c1 => ?_) (fun c1 => ?_)
  · exact absurd c1 (nI_pos (by omega))
  · refine lv_iload_n hx hb dX1_itemEver_4 rfl (lv_at hl 1 rfl) ?_
    refine lv_aload_n hx hb dX1_itemEver_5 rfl (lv_at hl 0 rfl) ?_
    refine gD_itemCount C hP dX1_itemEver_6 ?_
    refine lv_icmp_ge (tgt := 21) hx hb dX1_itemEver_9 (by decide) (fun c2 => ?_) (fun c2 => ?_)
    · have c2 : n ≤ i := (nI_leI (by omega) (by omega)).mp c2
      exact absurd hi (by omega)
    · have c2 : ¬ n ≤ i := fun z9 => c2 ((nI_leI (by omega) (by omega)).mpr z9)
      refine lv_aload_n hx hb dX1_itemEver_12 rfl (lv_at hl 0 rfl) ?_
      refine gD_items C hP dX1_itemEver_13 ?_
      refine lv_iload_n hx hb dX1_itemEver_16 rfl (lv_at hl 1 rfl) ?_
      refine lD_items C hP hn200 (by omega) dX1_itemEver_17 ?_
      refine lv_goto (tgt := 22) hx hb dX1_itemEver_18 (by decide) ?_
      exact W.aret (v := .ref ((ad i).1)) hx hb hr (Or.inl ⟨_, rfl⟩) (Or.inr ⟨_, rfl⟩) (fun t ht _ => ⟨rfl, ht⟩) (fun q h => by cases h) dX1_itemEver_22
set_option maxHeartbeats 1000000 in
set_option maxRecDepth 100000 in
theorem cD_itemEver_no (l : Launch) (hP : va_P D vwCl (dW R o K ad va fl af bl n tc sc T S us ps am) H) (x : Int32) (h : x < 0 ∨ nI n ≤ x) : Met l yX1_itemEver (tC yX1_itemEver cX1_itemEver 2 (some (.object "GridDesk$Item"))) (rmK 0 0 0) (kP D K H [.ref (o 0), .int x]) (k2_QcV (.null)) 0 0 (fun _ => False) := by
  refine Met.ofW (cc := cX1_itemEver) (maxL := 2) (ret := (some (.object "GridDesk$Item"))) (by decide) rfl ?_
  intro p e s m args below meth c s₁ B hml hv
  obtain ⟨rfl, hH, hK, hN, hO⟩ := hv
  have hx := B.exec
  have hb := B.bytes
  have hr := B.returns
  have hts : ∀ w ∈ tT, w.before _ s = true := fun w h => atoms_spec (ws := tC yX1_itemEver cX1_itemEver 2 (some (.object "GridDesk$Item"))) B.pre w (List.mem_cons_of_mem _ h)
  have hown : s.vm.findClass RX1 = some m.cls := findClass_of_methodNamed B.named
  have hlocks := B.notSynchronized
  have C : cx RX1 D K p s m _ c cX1_itemEver := ⟨hx, hb, hown, hts, hK, hN, hO⟩
  have hR : rmOk (headSpec (tC yX1_itemEver cX1_itemEver 2 (some (.object "GridDesk$Item"))) (rmK 0 0 0)).room 0 0 0 := ⟨Nat.le_refl _, Nat.le_refl _, Nat.le_refl _, Nat.le_refl _⟩
  subst hH
  have hl := lv_entry ([.ref (o 0), .int x]) (n := 2) (Nat.le_of_ble_eq_true rfl)
  rw [lg_entry_eq]
  generalize (lg_sl ([.ref (o 0), .int x]) ++ List.replicate (2 - (lg_sl ([.ref (o 0), .int x])).length) Slot.unset).toArray = ls at hl ⊢
  have hl : lv_has ls 2 [(0, .ref (o 0)), (1, .int x)] := hl
  refine lv_iload_n hx hb dX1_itemEver_0 rfl (lv_at hl 1 rfl) ?_
  refine lv_if_lt (tgt := 21) hx hb dX1_itemEver_1 (by decide) (fun c1 => ?_) (fun c1 => ?_)
  · refine lv_null hx hb dX1_itemEver_21 ?_
    exact W.aret (v := .null) hx hb hr (Or.inl ⟨_, rfl⟩) (Or.inl rfl) (fun t ht _ => ⟨rfl, ht⟩) (fun q h => by cases h) dX1_itemEver_22
  · refine lv_iload_n hx hb dX1_itemEver_4 rfl (lv_at hl 1 rfl) ?_
    refine lv_aload_n hx hb dX1_itemEver_5 rfl (lv_at hl 0 rfl) ?_
    refine gD_itemCount C hP dX1_itemEver_6 ?_
    refine lv_icmp_ge (tgt := 21) hx hb dX1_itemEver_9 (by decide) (fun c2 => ?_) (fun c2 => ?_)
    · refine lv_null hx hb dX1_itemEver_21 ?_
      exact W.aret (v := .null) hx hb hr (Or.inl ⟨_, rfl⟩) (Or.inl rfl) (fun t ht _ => ⟨rfl, ht⟩) (fun q h => by cases h) dX1_itemEver_22
    · exact absurd h (fun z => z.elim c1 c2)
set_option maxHeartbeats 1000000 in
set_option maxRecDepth 100000 in
theorem cD_itemThere (l : Launch) (hP : va_P D vwCl (dW R o K ad va fl af bl n tc sc T S us ps am) H) (hn200 : n ≤ 200) {i : Nat} (hi : i < n) (hT : T i = true) : Met l yX1_itemThere (tC yX1_itemThere cX1_itemThere 3 (some (.object "GridDesk$Item"))) (rmK 1 0 0) (kP D K H [.ref (o 0), .int (nI i)]) (k2_QcV (.ref (ad i).1)) 0 0 (fun _ => False) := by
  refine Met.ofW (cc := cX1_itemThere) (maxL := 3) (ret := (some (.object "GridDesk$Item"))) (by decide) rfl ?_
  intro p e s m args below meth c s₁ B hml hv
  obtain ⟨rfl, hH, hK, hN, hO⟩ := hv
  have hx := B.exec
  have hb := B.bytes
  have hr := B.returns
  have hts : ∀ w ∈ tT, w.before _ s = true := fun w h => atoms_spec (ws := tC yX1_itemThere cX1_itemThere 3 (some (.object "GridDesk$Item"))) B.pre w (List.mem_cons_of_mem _ h)
  have hown : s.vm.findClass RX1 = some m.cls := findClass_of_methodNamed B.named
  have hlocks := B.notSynchronized
  have C : cx RX1 D K p s m _ c cX1_itemThere := ⟨hx, hb, hown, hts, hK, hN, hO⟩
  have hR : rmOk (headSpec (tC yX1_itemThere cX1_itemThere 3 (some (.object "GridDesk$Item"))) (rmK 1 0 0)).room 1 0 0 := ⟨Nat.le_refl _, Nat.le_refl _, Nat.le_refl _, Nat.le_refl _⟩
  subst hH
  have hl := lv_entry ([.ref (o 0), .int (nI i)]) (n := 3) (Nat.le_of_ble_eq_true rfl)
  rw [lg_entry_eq]
  generalize (lg_sl ([.ref (o 0), .int (nI i)]) ++ List.replicate (3 - (lg_sl ([.ref (o 0), .int (nI i)])).length) Slot.unset).toArray = ls at hl ⊢
  have hl : lv_has ls 3 [(0, .ref (o 0)), (1, .int (nI i))] := hl
  refine lv_aload_n hx hb dX1_itemThere_0 rfl (lv_at hl 0 rfl) ?_
  refine lv_iload_n hx hb dX1_itemThere_1 rfl (lv_at hl 1 rfl) ?_
  refine pv (va_runV (As := [.int (nI i)]) (rest := []) ⟨hx, hb, hml, hown, hts⟩ (cD_itemEver l hP hn200 hi) (cwV 1 hts gD_63 rfl rfl rfl (by decide +kernel) (rmF hR (by decide) (by decide))) (kP_V C (va_recv C.2.2.2.2.1 hP (ci := ciD) (q0 := 0) rfl rfl)) rfl rfl hl.1 rfl (lv_room (Nat.le_of_ble_eq_true rfl)) dX1_itemThere_2 ⟨hR.2.2.1, hR.2.2.2⟩) ?_
  refine lv_astore_n (lv' := [(2, .ref ((ad i).1)), (0, .ref (o 0)), (1, .int (nI i))]) hx hb dX1_itemThere_5 rfl hl (by decide) rfl (fun ls hl => ?_)
  refine lv_aload_n hx hb dX1_itemThere_6 rfl (lv_at hl 0 rfl) ?_
  refine lv_ifnull hx hb dX1_itemThere_7 ?_
  refine lv_aload_n hx hb dX1_itemThere_10 rfl (lv_at hl 0 rfl) ?_
  refine gDI_there C hP hi dX1_itemThere_11 ?_
  refine lv_if_eq (tgt := 21) hx hb dX1_itemThere_14 (by decide) (fun c1 => ?_) (fun c1 => ?_)
  · have c1 : (T i) = false := (bI_z (T i)).mp c1
    exact absurd (hT.symm.trans c1) (by decide)
  · have c1 : (T i) = true := (bI_nz (T i)).mp c1
    refine lv_aload_n hx hb dX1_itemThere_17 rfl (lv_at hl 0 rfl) ?_
    refine lv_goto (tgt := 22) hx hb dX1_itemThere_18 (by decide) ?_
    exact W.aret (v := .ref ((ad i).1)) hx hb hr (Or.inl ⟨_, rfl⟩) (Or.inr ⟨_, rfl⟩) (fun t ht _ => ⟨rfl, ht⟩) (fun q h => by cases h) dX1_itemThere_22
set_option maxHeartbeats 1000000 in
set_option maxRecDepth 100000 in
theorem cD_itemThere_no (l : Launch) (hP : va_P D vwCl (dW R o K ad va fl af bl n tc sc T S us ps am) H) (hn200 : n ≤ 200) (x : Int32) (h : nT n T x) : Met l yX1_itemThere (tC yX1_itemThere cX1_itemThere 3 (some (.object "GridDesk$Item"))) (rmK 1 0 0) (kP D K H [.ref (o 0), .int x]) (k2_QcV (.null)) 0 0 (fun _ => False) := by
  refine Met.ofW (cc := cX1_itemThere) (maxL := 3) (ret := (some (.object "GridDesk$Item"))) (by decide) rfl ?_
  intro p e s m args below meth c s₁ B hml hv
  obtain ⟨rfl, hH, hK, hN, hO⟩ := hv
  have hx := B.exec
  have hb := B.bytes
  have hr := B.returns
  have hts : ∀ w ∈ tT, w.before _ s = true := fun w h => atoms_spec (ws := tC yX1_itemThere cX1_itemThere 3 (some (.object "GridDesk$Item"))) B.pre w (List.mem_cons_of_mem _ h)
  have hown : s.vm.findClass RX1 = some m.cls := findClass_of_methodNamed B.named
  have hlocks := B.notSynchronized
  have C : cx RX1 D K p s m _ c cX1_itemThere := ⟨hx, hb, hown, hts, hK, hN, hO⟩
  have hR : rmOk (headSpec (tC yX1_itemThere cX1_itemThere 3 (some (.object "GridDesk$Item"))) (rmK 1 0 0)).room 1 0 0 := ⟨Nat.le_refl _, Nat.le_refl _, Nat.le_refl _, Nat.le_refl _⟩
  subst hH
  have hl := lv_entry ([.ref (o 0), .int x]) (n := 3) (Nat.le_of_ble_eq_true rfl)
  rw [lg_entry_eq]
  generalize (lg_sl ([.ref (o 0), .int x]) ++ List.replicate (3 - (lg_sl ([.ref (o 0), .int x])).length) Slot.unset).toArray = ls at hl ⊢
  have hl : lv_has ls 3 [(0, .ref (o 0)), (1, .int x)] := hl
  refine lv_aload_n hx hb dX1_itemThere_0 rfl (lv_at hl 0 rfl) ?_
  refine lv_iload_n hx hb dX1_itemThere_1 rfl (lv_at hl 1 rfl) ?_
  rcases h with h | h | ⟨i, hi, rfl, hT⟩
  · refine pv (va_runV (As := [.int x]) (rest := []) ⟨hx, hb, hml, hown, hts⟩ (cD_itemEver_no l hP x (Or.inl h)) (cwV 1 hts gD_63 rfl rfl rfl (by decide +kernel) (rmF hR (by decide) (by decide))) (kP_V C (va_recv C.2.2.2.2.1 hP (ci := ciD) (q0 := 0) rfl rfl)) rfl rfl hl.1 rfl (lv_room (Nat.le_of_ble_eq_true rfl)) dX1_itemThere_2 ⟨hR.2.2.1, hR.2.2.2⟩) ?_
    refine lv_astore_nN (lv' := [(2, .null), (0, .ref (o 0)), (1, .int x)]) hx hb dX1_itemThere_5 rfl hl (by decide) rfl (fun ls hl => ?_)
    refine lv_aload_nN hx hb dX1_itemThere_6 rfl (lv_at hl 0 rfl) ?_
    refine lv_ifnullN (tgt := 21) hx hb dX1_itemThere_7 (by decide) ?_
    refine lv_null hx hb dX1_itemThere_21 ?_
    exact W.aret (v := .null) hx hb hr (Or.inl ⟨_, rfl⟩) (Or.inl rfl) (fun t ht _ => ⟨rfl, ht⟩) (fun q h => by cases h) dX1_itemThere_22
  · refine pv (va_runV (As := [.int x]) (rest := []) ⟨hx, hb, hml, hown, hts⟩ (cD_itemEver_no l hP x (Or.inr h)) (cwV 1 hts gD_63 rfl rfl rfl (by decide +kernel) (rmF hR (by decide) (by decide))) (kP_V C (va_recv C.2.2.2.2.1 hP (ci := ciD) (q0 := 0) rfl rfl)) rfl rfl hl.1 rfl (lv_room (Nat.le_of_ble_eq_true rfl)) dX1_itemThere_2 ⟨hR.2.2.1, hR.2.2.2⟩) ?_
    refine lv_astore_nN (lv' := [(2, .null), (0, .ref (o 0)), (1, .int x)]) hx hb dX1_itemThere_5 rfl hl (by decide) rfl (fun ls hl => ?_)
    refine lv_aload_nN hx hb dX1_itemThere_6 rfl (lv_at hl 0 rfl) ?_
    refine lv_ifnullN (tgt := 21) hx hb dX1_itemThere_7 (by decide) ?_
    refine lv_null hx hb dX1_itemThere_21 ?_
    exact W.aret (v := .null) hx hb hr (Or.inl ⟨_, rfl⟩) (Or.inl rfl) (fun t ht _ => ⟨rfl, ht⟩) (fun q h => by cases h) dX1_itemThere_22
  · refine pv (va_runV (As := [.int (nI i)]) (rest := []) ⟨hx, hb, hml, hown, hts⟩ (cD_itemEver l hP hn200 hi) (cwV 1 hts gD_63 rfl rfl rfl (by decide +kernel) (rmF hR (by decide) (by decide))) (kP_V C (va_recv C.2.2.2.2.1 hP (ci := ciD) (q0 := 0) rfl rfl)) rfl rfl hl.1 rfl (lv_room (Nat.le_of_ble_eq_true rfl)) dX1_itemThere_2 ⟨hR.2.2.1, hR.2.2.2⟩) ?_
    refine lv_astore_n (lv' := [(2, .ref ((ad i).1)), (0, .ref (o 0)), (1, .int (nI i))]) hx hb dX1_itemThere_5 rfl hl (by decide) rfl (fun ls hl => ?_)
    refine lv_aload_n hx hb dX1_itemThere_6 rfl (lv_at hl 0 rfl) ?_
    refine lv_ifnull hx hb dX1_itemThere_7 ?_
    refine lv_aload_n hx hb dX1_itemThere_10 rfl (lv_at hl 0 rfl) ?_
    refine gDI_there C hP hi dX1_itemThere_11 ?_
    refine lv_if_eq (tgt := 21) hx hb dX1_itemThere_14 (by decide) (fun c1 => ?_) (fun c1 => ?_)
    · have c1 : (T i) = false := (bI_z (T i)).mp c1
      refine lv_null hx hb dX1_itemThere_21 ?_
      exact W.aret (v := .null) hx hb hr (Or.inl ⟨_, rfl⟩) (Or.inl rfl) (fun t ht _ => ⟨rfl, ht⟩) (fun q h => by cases h) dX1_itemThere_22
    · have c1 : (T i) = true := (bI_nz (T i)).mp c1
      exact absurd (c1.symm.trans hT) (by decide)
set_option maxHeartbeats 1000000 in
set_option maxRecDepth 100000 in
theorem cD_place_no (l : Launch) (hP : va_P D vwCl (dW R o K ad va fl af bl n tc sc T S us ps am) H) (x : Int32) (v f : Int64) (h : ¬ (isP x = true ∧ isV v = true ∧ isV f = true ∧ f ≤ v)) : Met l yX1_place (tC yX1_place cX1_place 6 (some .boolean)) (rmK 1 0 0) (kP D K H [.ref (o 0), .int x, .long v, .long f]) (k2_QcV (.int (nI 0))) 0 0 (fun _ => False) := by
  refine Met.ofW (cc := cX1_place) (maxL := 6) (ret := (some .boolean)) (by decide) rfl ?_
  intro p e s m args below meth c s₁ B hml hv
  obtain ⟨rfl, hH, hK, hN, hO⟩ := hv
  have hx := B.exec
  have hb := B.bytes
  have hr := B.returns
  have hts : ∀ w ∈ tT, w.before _ s = true := fun w h => atoms_spec (ws := tC yX1_place cX1_place 6 (some .boolean)) B.pre w (List.mem_cons_of_mem _ h)
  have hown : s.vm.findClass RX1 = some m.cls := findClass_of_methodNamed B.named
  have hlocks := B.notSynchronized
  have C : cx RX1 D K p s m _ c cX1_place := ⟨hx, hb, hown, hts, hK, hN, hO⟩
  have hR : rmOk (headSpec (tC yX1_place cX1_place 6 (some .boolean)) (rmK 1 0 0)).room 1 0 0 := ⟨Nat.le_refl _, Nat.le_refl _, Nat.le_refl _, Nat.le_refl _⟩
  subst hH
  have hl := lv_entry ([.ref (o 0), .int x, .long v, .long f]) (n := 6) (Nat.le_of_ble_eq_true rfl)
  rw [lg_entry_eq]
  generalize (lg_sl ([.ref (o 0), .int x, .long v, .long f]) ++ List.replicate (6 - (lg_sl ([.ref (o 0), .int x, .long v, .long f])).length) Slot.unset).toArray = ls at hl ⊢
  have hl : lv_has ls 6 [(0, .ref (o 0)), (1, .int x), (2, .long v), (4, .long f)] := hl
  refine lv_iload_n hx hb dX1_place_0 rfl (lv_at hl 1 rfl) ?_
  refine pv (va_runS (As := [.int x]) (rest := []) ⟨hx, hb, hml, hown, hts⟩ (cD_isPosition l x) (cwS 1 hts gD_29 rfl rfl rfl (by decide +kernel) (rmF hR (by decide) (by decide))) (kP_S C) rfl rfl hl.1 rfl (lv_room (Nat.le_of_ble_eq_true rfl)) dX1_place_1 ⟨hR.2.2.1, hR.2.2.2⟩) ?_
  refine lv_if_eq (tgt := 29) hx hb dX1_place_4 (by decide) (fun c1 => ?_) (fun c1 => ?_)
  · have c1 : (isP x) = false := (bI_z (isP x)).mp c1
    refine lv_iconst (v := nI 0) hx hb dX1_place_29 (by decide) ?_
    exact W.zret (v := nI 0) hx hb hr (by decide) (fun t ht _ => ⟨rfl, ht⟩) (fun q h => by cases h) dX1_place_30
  · have c1 : (isP x) = true := (bI_nz (isP x)).mp c1
    refine lv_lload_n hx hb dX1_place_7 rfl (lv_at hl 2 rfl) ?_
    refine pv (va_runS (As := [.long v]) (rest := []) ⟨hx, hb, hml, hown, hts⟩ (cD_isValue l v) (cwS 1 hts gD_33 rfl rfl rfl (by decide +kernel) (rmF hR (by decide) (by decide))) (kP_S C) rfl rfl hl.1 rfl (lv_room (Nat.le_of_ble_eq_true rfl)) dX1_place_8 ⟨hR.2.2.1, hR.2.2.2⟩) ?_
    refine lv_if_eq (tgt := 29) hx hb dX1_place_11 (by decide) (fun c2 => ?_) (fun c2 => ?_)
    · have c2 : (isV v) = false := (bI_z (isV v)).mp c2
      refine lv_iconst (v := nI 0) hx hb dX1_place_29 (by decide) ?_
      exact W.zret (v := nI 0) hx hb hr (by decide) (fun t ht _ => ⟨rfl, ht⟩) (fun q h => by cases h) dX1_place_30
    · have c2 : (isV v) = true := (bI_nz (isV v)).mp c2
      refine lv_lload hx hb dX1_place_14 (lv_at hl 3 rfl) ?_
      refine pv (va_runS (As := [.long f]) (rest := []) ⟨hx, hb, hml, hown, hts⟩ (cD_isValue l f) (cwS 1 hts gD_33 rfl rfl rfl (by decide +kernel) (rmF hR (by decide) (by decide))) (kP_S C) rfl rfl hl.1 rfl (lv_room (Nat.le_of_ble_eq_true rfl)) dX1_place_16 ⟨hR.2.2.1, hR.2.2.2⟩) ?_
      refine lv_if_eq (tgt := 29) hx hb dX1_place_19 (by decide) (fun c3 => ?_) (fun c3 => ?_)
      · have c3 : (isV f) = false := (bI_z (isV f)).mp c3
        refine lv_iconst (v := nI 0) hx hb dX1_place_29 (by decide) ?_
        exact W.zret (v := nI 0) hx hb hr (by decide) (fun t ht _ => ⟨rfl, ht⟩) (fun q h => by cases h) dX1_place_30
      · have c3 : (isV f) = true := (bI_nz (isV f)).mp c3
        refine lv_lload_n hx hb dX1_place_22 rfl (lv_at hl 2 rfl) ?_
        refine lv_lload hx hb dX1_place_23 (lv_at hl 3 rfl) ?_
        refine W.lcmp hx hb dX1_place_25 ?_
        refine lv_if_ge (tgt := 31) hx hb dX1_place_26 (by decide) (fun c4 => ?_) (fun c4 => ?_)
        · have c4 : f ≤ v := (lg_cmp_ge v f).mp c4
          exact absurd ⟨c1, c2, c3, c4⟩ h
        · have c4 : ¬ f ≤ v := fun z9 => c4 ((lg_cmp_ge v f).mpr z9)
          refine lv_iconst (v := nI 0) hx hb dX1_place_29 (by decide) ?_
          exact W.zret (v := nI 0) hx hb hr (by decide) (fun t ht _ => ⟨rfl, ht⟩) (fun q h => by cases h) dX1_place_30
set_option maxHeartbeats 1000000 in
set_option maxRecDepth 100000 in
theorem cD_place (l : Launch) (hP : va_P D vwCl (dW R o K ad va fl af bl n tc sc T S us ps am) H) (hD : va_D A (dW R o K ad va fl af bl n tc sc T S us ps am)) {q : Nat} (hq3 : q < 300) (v f : Int64) (h2 : isV v = true) (h3 : isV f = true) (h4 : f ≤ v) : Met l yX1_place (tC yX1_place cX1_place 6 (some .boolean)) (rmK 1 0 0) (kP D K H [.ref (o 0), .int (nI q), .long v, .long f]) (qI D A (fun (r : Int32) (u : Unit) => r = nI 1) (fun u : Unit => dW R o K ad (va_up va q v) (va_up fl q f) af bl n tc sc T S us ps am)) 0 0 A := by
  refine Met.ofW (cc := cX1_place) (maxL := 6) (ret := (some .boolean)) (by decide) rfl ?_
  intro p e s m args below meth c s₁ B hml hv
  obtain ⟨rfl, hH, hK, hN, hO⟩ := hv
  have hx := B.exec
  have hb := B.bytes
  have hr := B.returns
  have hts : ∀ w ∈ tT, w.before _ s = true := fun w h => atoms_spec (ws := tC yX1_place cX1_place 6 (some .boolean)) B.pre w (List.mem_cons_of_mem _ h)
  have hown : s.vm.findClass RX1 = some m.cls := findClass_of_methodNamed B.named
  have hlocks := B.notSynchronized
  have C : cx RX1 D K p s m _ c cX1_place := ⟨hx, hb, hown, hts, hK, hN, hO⟩
  have hR : rmOk (headSpec (tC yX1_place cX1_place 6 (some .boolean)) (rmK 1 0 0)).room 1 0 0 := ⟨Nat.le_refl _, Nat.le_refl _, Nat.le_refl _, Nat.le_refl _⟩
  subst hH
  have hS : va_S A s.heap s.heap [] := va_S.rf
  have hl := lv_entry ([.ref (o 0), .int (nI q), .long v, .long f]) (n := 6) (Nat.le_of_ble_eq_true rfl)
  rw [lg_entry_eq]
  generalize (lg_sl ([.ref (o 0), .int (nI q), .long v, .long f]) ++ List.replicate (6 - (lg_sl ([.ref (o 0), .int (nI q), .long v, .long f])).length) Slot.unset).toArray = ls at hl ⊢
  have hl : lv_has ls 6 [(0, .ref (o 0)), (1, .int (nI q)), (2, .long v), (4, .long f)] := hl
  refine lv_iload_n hx hb dX1_place_0 rfl (lv_at hl 1 rfl) ?_
  refine pv (va_runS (As := [.int (nI q)]) (rest := []) ⟨hx, hb, hml, hown, hts⟩ (cD_isPosition l (nI q)) (cwS 1 hts gD_29 rfl rfl rfl (by decide +kernel) (rmF hR (by decide) (by decide))) (kP_S C) rfl rfl hl.1 rfl (lv_room (Nat.le_of_ble_eq_true rfl)) dX1_place_1 ⟨hR.2.2.1, hR.2.2.2⟩) ?_
  refine lv_if_eq (tgt := 29) hx hb dX1_place_4 (by decide) (fun c1 => ?_) (fun c1 => ?_)
  · have c1 : (isP (nI q)) = false := (bI_z (isP (nI q))).mp c1
    exact absurd ((isP_nI hq3).symm.trans c1) (by decide)
  · have c1 : (isP (nI q)) = true := (bI_nz (isP (nI q))).mp c1
    refine lv_lload_n hx hb dX1_place_7 rfl (lv_at hl 2 rfl) ?_
    refine pv (va_runS (As := [.long v]) (rest := []) ⟨hx, hb, hml, hown, hts⟩ (cD_isValue l v) (cwS 1 hts gD_33 rfl rfl rfl (by decide +kernel) (rmF hR (by decide) (by decide))) (kP_S C) rfl rfl hl.1 rfl (lv_room (Nat.le_of_ble_eq_true rfl)) dX1_place_8 ⟨hR.2.2.1, hR.2.2.2⟩) ?_
    refine lv_if_eq (tgt := 29) hx hb dX1_place_11 (by decide) (fun c2 => ?_) (fun c2 => ?_)
    · have c2 : (isV v) = false := (bI_z (isV v)).mp c2
      exact absurd (h2.symm.trans c2) (by decide)
    · have c2 : (isV v) = true := (bI_nz (isV v)).mp c2
      refine lv_lload hx hb dX1_place_14 (lv_at hl 3 rfl) ?_
      refine pv (va_runS (As := [.long f]) (rest := []) ⟨hx, hb, hml, hown, hts⟩ (cD_isValue l f) (cwS 1 hts gD_33 rfl rfl rfl (by decide +kernel) (rmF hR (by decide) (by decide))) (kP_S C) rfl rfl hl.1 rfl (lv_room (Nat.le_of_ble_eq_true rfl)) dX1_place_16 ⟨hR.2.2.1, hR.2.2.2⟩) ?_
      refine lv_if_eq (tgt := 29) hx hb dX1_place_19 (by decide) (fun c3 => ?_) (fun c3 => ?_)
      · have c3 : (isV f) = false := (bI_z (isV f)).mp c3
        exact absurd (h3.symm.trans c3) (by decide)
      · have c3 : (isV f) = true := (bI_nz (isV f)).mp c3
        refine lv_lload_n hx hb dX1_place_22 rfl (lv_at hl 2 rfl) ?_
        refine lv_lload hx hb dX1_place_23 (lv_at hl 3 rfl) ?_
        refine W.lcmp hx hb dX1_place_25 ?_
        refine lv_if_ge (tgt := 31) hx hb dX1_place_26 (by decide) (fun c4 => ?_) (fun c4 => ?_)
        · have c4 : f ≤ v := (lg_cmp_ge v f).mp c4
          refine lv_aload_n hx hb dX1_place_31 rfl (lv_at hl 0 rfl) ?_
          refine gD_values C hP dX1_place_32 ?_
          refine lv_iload_n hx hb dX1_place_35 rfl (lv_at hl 1 rfl) ?_
          refine lv_lload_n hx hb dX1_place_36 rfl (lv_at hl 2 rfl) ?_
          refine sD_values (x := v) C hP hD hS (by omega) dX1_place_37 (fun H locs hP hD hS => ?_)
          refine lv_aload_n hx hb dX1_place_38 rfl (lv_at hl 0 rfl) ?_
          refine gD_floors C hP dX1_place_39 ?_
          refine lv_iload_n hx hb dX1_place_42 rfl (lv_at hl 1 rfl) ?_
          refine lv_lload hx hb dX1_place_43 (lv_at hl 3 rfl) ?_
          refine sD_floors (x := f) C hP hD hS (by omega) dX1_place_45 (fun H locs hP hD hS => ?_)
          refine lv_iconst (v := nI 1) hx hb dX1_place_46 (by decide) ?_
          exact W.zret (v := nI 1) hx hb hr (by decide) (fun t ht _ => ⟨⟨_, (), rfl, rfl, by rw [ht]; exact hP, hD⟩, hS.F ht⟩) hS.2.2 dX1_place_47
        · have c4 : ¬ f ≤ v := fun z9 => c4 ((lg_cmp_ge v f).mpr z9)
          exact absurd h4 c4
set_option maxHeartbeats 1000000 in
set_option maxRecDepth 100000 in
theorem cD_net_no (l : Launch) (hP : va_P D vwCl (dW R o K ad va fl af bl n tc sc T S us ps am) H) (hn200 : n ≤ 200) (x y : Int32) (v : Int64) (h : nT n T x) : Met l yX1_net (tC yX1_net cX1_net 6 (some .boolean)) (rmK 3 0 0) (kP D K H [.ref (o 0), .int x, .int y, .long v]) (k2_QcV (.int (nI 0))) 0 0 (fun _ => False) := by
  refine Met.ofW (cc := cX1_net) (maxL := 6) (ret := (some .boolean)) (by decide) rfl ?_
  intro p e s m args below meth c s₁ B hml hv
  obtain ⟨rfl, hH, hK, hN, hO⟩ := hv
  have hx := B.exec
  have hb := B.bytes
  have hr := B.returns
  have hts : ∀ w ∈ tT, w.before _ s = true := fun w h => atoms_spec (ws := tC yX1_net cX1_net 6 (some .boolean)) B.pre w (List.mem_cons_of_mem _ h)
  have hown : s.vm.findClass RX1 = some m.cls := findClass_of_methodNamed B.named
  have hlocks := B.notSynchronized
  have C : cx RX1 D K p s m _ c cX1_net := ⟨hx, hb, hown, hts, hK, hN, hO⟩
  have hR : rmOk (headSpec (tC yX1_net cX1_net 6 (some .boolean)) (rmK 3 0 0)).room 3 0 0 := ⟨Nat.le_refl _, Nat.le_refl _, Nat.le_refl _, Nat.le_refl _⟩
  subst hH
  have hl := lv_entry ([.ref (o 0), .int x, .int y, .long v]) (n := 6) (Nat.le_of_ble_eq_true rfl)
  rw [lg_entry_eq]
  generalize (lg_sl ([.ref (o 0), .int x, .int y, .long v]) ++ List.replicate (6 - (lg_sl ([.ref (o 0), .int x, .int y, .long v])).length) Slot.unset).toArray = ls at hl ⊢
  have hl : lv_has ls 6 [(0, .ref (o 0)), (1, .int x), (2, .int y), (3, .long v)] := hl
  refine lv_aload_n hx hb dX1_net_0 rfl (lv_at hl 0 rfl) ?_
  refine lv_iload_n hx hb dX1_net_1 rfl (lv_at hl 1 rfl) ?_
  refine pv (va_runV (As := [.int x]) (rest := []) ⟨hx, hb, hml, hown, hts⟩ (cD_itemThere_no l hP hn200 x h) (cwV 1 hts gD_45 rfl rfl rfl (by decide +kernel) (rmF hR (by decide) (by decide))) (kP_V C (va_recv C.2.2.2.2.1 hP (ci := ciD) (q0 := 0) rfl rfl)) rfl rfl hl.1 rfl (lv_room (Nat.le_of_ble_eq_true rfl)) dX1_net_2 ⟨hR.2.2.1, hR.2.2.2⟩) ?_
  refine lv_astoreN (lv' := [(5, .null), (0, .ref (o 0)), (1, .int x), (2, .int y), (3, .long v)]) hx hb dX1_net_5 hl (by decide) rfl (fun ls hl => ?_)
  refine lv_aloadN hx hb dX1_net_7 (lv_at hl 0 rfl) ?_
  refine lv_ifnullN (tgt := 33) hx hb dX1_net_9 (by decide) ?_
  refine lv_iconst (v := nI 0) hx hb dX1_net_33 (by decide) ?_
  exact W.zret (v := nI 0) hx hb hr (by decide) (fun t ht _ => ⟨rfl, ht⟩) (fun q h => by cases h) dX1_net_34
set_option maxHeartbeats 1000000 in
set_option maxRecDepth 100000 in
theorem cD_net_no2 (l : Launch) (hP : va_P D vwCl (dW R o K ad va fl af bl n tc sc T S us ps am) H) (hn200 : n ≤ 200) {i : Nat} (hi : i < n) (hT : T i = true) (y : Int32) (v : Int64) (h : isP y = false) : Met l yX1_net (tC yX1_net cX1_net 6 (some .boolean)) (rmK 3 0 0) (kP D K H [.ref (o 0), .int (nI i), .int y, .long v]) (k2_QcV (.int (nI 0))) 0 0 (fun _ => False) := by
  refine Met.ofW (cc := cX1_net) (maxL := 6) (ret := (some .boolean)) (by decide) rfl ?_
  intro p e s m args below meth c s₁ B hml hv
  obtain ⟨rfl, hH, hK, hN, hO⟩ := hv
  have hx := B.exec
  have hb := B.bytes
  have hr := B.returns
  have hts : ∀ w ∈ tT, w.before _ s = true := fun w h => atoms_spec (ws := tC yX1_net cX1_net 6 (some .boolean)) B.pre w (List.mem_cons_of_mem _ h)
  have hown : s.vm.findClass RX1 = some m.cls := findClass_of_methodNamed B.named
  have hlocks := B.notSynchronized
  have C : cx RX1 D K p s m _ c cX1_net := ⟨hx, hb, hown, hts, hK, hN, hO⟩
  have hR : rmOk (headSpec (tC yX1_net cX1_net 6 (some .boolean)) (rmK 3 0 0)).room 3 0 0 := ⟨Nat.le_refl _, Nat.le_refl _, Nat.le_refl _, Nat.le_refl _⟩
  subst hH
  have hl := lv_entry ([.ref (o 0), .int (nI i), .int y, .long v]) (n := 6) (Nat.le_of_ble_eq_true rfl)
  rw [lg_entry_eq]
  generalize (lg_sl ([.ref (o 0), .int (nI i), .int y, .long v]) ++ List.replicate (6 - (lg_sl ([.ref (o 0), .int (nI i), .int y, .long v])).length) Slot.unset).toArray = ls at hl ⊢
  have hl : lv_has ls 6 [(0, .ref (o 0)), (1, .int (nI i)), (2, .int y), (3, .long v)] := hl
  refine lv_aload_n hx hb dX1_net_0 rfl (lv_at hl 0 rfl) ?_
  refine lv_iload_n hx hb dX1_net_1 rfl (lv_at hl 1 rfl) ?_
  refine pv (va_runV (As := [.int (nI i)]) (rest := []) ⟨hx, hb, hml, hown, hts⟩ (cD_itemThere l hP hn200 hi hT) (cwV 1 hts gD_45 rfl rfl rfl (by decide +kernel) (rmF hR (by decide) (by decide))) (kP_V C (va_recv C.2.2.2.2.1 hP (ci := ciD) (q0 := 0) rfl rfl)) rfl rfl hl.1 rfl (lv_room (Nat.le_of_ble_eq_true rfl)) dX1_net_2 ⟨hR.2.2.1, hR.2.2.2⟩) ?_
  refine lv_astore (lv' := [(5, .ref ((ad i).1)), (0, .ref (o 0)), (1, .int (nI i)), (2, .int y), (3, .long v)]) hx hb dX1_net_5 hl (by decide) rfl (fun ls hl => ?_)
  refine lv_aload hx hb dX1_net_7 (lv_at hl 0 rfl) ?_
  refine lv_ifnull hx hb dX1_net_9 ?_
  refine lv_iload_n hx hb dX1_net_12 rfl (lv_at hl 3 rfl) ?_
  refine pv (va_runS (As := [.int y]) (rest := []) ⟨hx, hb, hml, hown, hts⟩ (cD_isPosition l y) (cwS 1 hts gD_29 rfl rfl rfl (by decide +kernel) (rmF hR (by decide) (by decide))) (kP_S C) rfl rfl hl.1 rfl (lv_room (Nat.le_of_ble_eq_true rfl)) dX1_net_13 ⟨hR.2.2.1, hR.2.2.2⟩) ?_
  refine lv_if_eq (tgt := 33) hx hb dX1_net_16 (by decide) (fun c1 => ?_) (fun c1 => ?_)
  · have c1 : (isP y) = false := (bI_z (isP y)).mp c1
    refine lv_iconst (v := nI 0) hx hb dX1_net_33 (by decide) ?_
    exact W.zret (v := nI 0) hx hb hr (by decide) (fun t ht _ => ⟨rfl, ht⟩) (fun q h => by cases h) dX1_net_34
  · have c1 : (isP y) = true := (bI_nz (isP y)).mp c1
    exact absurd (c1.symm.trans h) (by decide)
set_option maxHeartbeats 1000000 in
set_option maxRecDepth 100000 in
theorem cD_net (l : Launch) (hP : va_P D vwCl (dW R o K ad va fl af bl n tc sc T S us ps am) H) (hD : va_D A (dW R o K ad va fl af bl n tc sc T S us ps am)) (hn200 : n ≤ 200) {i : Nat} (hi : i < n) (hT : T i = true) (hu : us i ≤ 16) {q : Nat} (hq3 : q < 300) (v : Int64) : Met l yX1_net (tC yX1_net cX1_net 6 (some .boolean)) (rmK 3 0 0) (kP D K H [.ref (o 0), .int (nI i), .int (nI q), .long v]) (qI D A (fun (r : Int32) (u : Unit) => r = bI (chC q v (us i) (ps i) (am i)).1) (fun u : Unit => dW R o K ad va fl af bl n tc sc T S (va_up us i (chC q v (us i) (ps i) (am i)).2.1) (va_up ps i (chC q v (us i) (ps i) (am i)).2.2.1) (va_up am i (chC q v (us i) (ps i) (am i)).2.2.2))) 0 0 A := by
  refine Met.ofW (cc := cX1_net) (maxL := 6) (ret := (some .boolean)) (by decide) rfl ?_
  intro p e s m args below meth c s₁ B hml hv
  obtain ⟨rfl, hH, hK, hN, hO⟩ := hv
  have hx := B.exec
  have hb := B.bytes
  have hr := B.returns
  have hts : ∀ w ∈ tT, w.before _ s = true := fun w h => atoms_spec (ws := tC yX1_net cX1_net 6 (some .boolean)) B.pre w (List.mem_cons_of_mem _ h)
  have hown : s.vm.findClass RX1 = some m.cls := findClass_of_methodNamed B.named
  have hlocks := B.notSynchronized
  have C : cx RX1 D K p s m _ c cX1_net := ⟨hx, hb, hown, hts, hK, hN, hO⟩
  have hR : rmOk (headSpec (tC yX1_net cX1_net 6 (some .boolean)) (rmK 3 0 0)).room 3 0 0 := ⟨Nat.le_refl _, Nat.le_refl _, Nat.le_refl _, Nat.le_refl _⟩
  subst hH
  have hS : va_S A s.heap s.heap [] := va_S.rf
  have hl := lv_entry ([.ref (o 0), .int (nI i), .int (nI q), .long v]) (n := 6) (Nat.le_of_ble_eq_true rfl)
  rw [lg_entry_eq]
  generalize (lg_sl ([.ref (o 0), .int (nI i), .int (nI q), .long v]) ++ List.replicate (6 - (lg_sl ([.ref (o 0), .int (nI i), .int (nI q), .long v])).length) Slot.unset).toArray = ls at hl ⊢
  have hl : lv_has ls 6 [(0, .ref (o 0)), (1, .int (nI i)), (2, .int (nI q)), (3, .long v)] := hl
  refine lv_aload_n hx hb dX1_net_0 rfl (lv_at hl 0 rfl) ?_
  refine lv_iload_n hx hb dX1_net_1 rfl (lv_at hl 1 rfl) ?_
  refine pv (va_runV (As := [.int (nI i)]) (rest := []) ⟨hx, hb, hml, hown, hts⟩ (cD_itemThere l hP hn200 hi hT) (cwV 1 hts gD_45 rfl rfl rfl (by decide +kernel) (rmF hR (by decide) (by decide))) (kP_V C (va_recv C.2.2.2.2.1 hP (ci := ciD) (q0 := 0) rfl rfl)) rfl rfl hl.1 rfl (lv_room (Nat.le_of_ble_eq_true rfl)) dX1_net_2 ⟨hR.2.2.1, hR.2.2.2⟩) ?_
  refine lv_astore (lv' := [(5, .ref ((ad i).1)), (0, .ref (o 0)), (1, .int (nI i)), (2, .int (nI q)), (3, .long v)]) hx hb dX1_net_5 hl (by decide) rfl (fun ls hl => ?_)
  refine lv_aload hx hb dX1_net_7 (lv_at hl 0 rfl) ?_
  refine lv_ifnull hx hb dX1_net_9 ?_
  refine lv_iload_n hx hb dX1_net_12 rfl (lv_at hl 3 rfl) ?_
  refine pv (va_runS (As := [.int (nI q)]) (rest := []) ⟨hx, hb, hml, hown, hts⟩ (cD_isPosition l (nI q)) (cwS 1 hts gD_29 rfl rfl rfl (by decide +kernel) (rmF hR (by decide) (by decide))) (kP_S C) rfl rfl hl.1 rfl (lv_room (Nat.le_of_ble_eq_true rfl)) dX1_net_13 ⟨hR.2.2.1, hR.2.2.2⟩) ?_
  refine lv_if_eq (tgt := 33) hx hb dX1_net_16 (by decide) (fun c1 => ?_) (fun c1 => ?_)
  · have c1 : (isP (nI q)) = false := (bI_z (isP (nI q))).mp c1
    exact absurd ((isP_nI hq3).symm.trans c1) (by decide)
  · have c1 : (isP (nI q)) = true := (bI_nz (isP (nI q))).mp c1
    refine lv_aload hx hb dX1_net_19 (lv_at hl 0 rfl) ?_
    refine lv_iload_n hx hb dX1_net_21 rfl (lv_at hl 3 rfl) ?_
    refine lv_lload_n hx hb dX1_net_22 rfl (lv_at hl 4 rfl) ?_
    refine wi (va_runVN (As := [.int (nI q), .long v]) (rest := []) ⟨hx, hb, hml, hown, hts⟩ (cI_change l hP hD hi hu hq3 v) ⟨va_cnB 2 hts gD_49.1 rfl rfl rfl (C.2.2.2.2.2.1 _ gD_49.2.1) (hts _ gD_49.2.2.1) (by decide +kernel) (rmF hR (by decide) (by decide)), hts _ gD_49.2.2.2.1, hts _ gD_49.2.2.2.2⟩ (kP_V C (va_recv C.2.2.2.2.1 hP (ci := ciI) (q0 := 6 + (R.length + 3 * i)) rfl (dW_0 hi))) rfl rfl hl.1 rfl (lv_room (Nat.le_of_ble_eq_true rfl)) dX1_net_23 ⟨hR.2.2.1, hR.2.2.2⟩) hS (fun r _ H locs hq hP hD hS => ?_)
    subst hq
    refine lv_if_eq (tgt := 33) hx hb dX1_net_26 (by decide) (fun c2 => ?_) (fun c2 => ?_)
    · have c2 : (chC q v (us i) (ps i) (am i)).1 = false := (bI_z (chC q v (us i) (ps i) (am i)).1).mp c2
      refine lv_iconst (v := nI 0) hx hb dX1_net_33 (by decide) ?_
      exact W.zret (v := nI 0) hx hb hr (by decide) (fun t ht _ => ⟨⟨_, (), rfl, b0 c2, by rw [ht]; exact hP, hD⟩, hS.F ht⟩) hS.2.2 dX1_net_34
    · have c2 : (chC q v (us i) (ps i) (am i)).1 = true := (bI_nz (chC q v (us i) (ps i) (am i)).1).mp c2
      refine lv_iconst (v := nI 1) hx hb dX1_net_29 (by decide) ?_
      refine lv_goto (tgt := 34) hx hb dX1_net_30 (by decide) ?_
      exact W.zret (v := nI 1) hx hb hr (by decide) (fun t ht _ => ⟨⟨_, (), rfl, b1 c2, by rw [ht]; exact hP, hD⟩, hS.F ht⟩) hS.2.2 dX1_net_34
set_option maxHeartbeats 1000000 in
set_option maxRecDepth 100000 in
theorem cD_go_no (l : Launch) (hP : va_P D vwCl (dW R o K ad va fl af bl n tc sc T S us ps am) H) (hn200 : n ≤ 200) (x : Int32) (h : nT n T x) : Met l yX1_go (tC yX1_go cX1_go 3 (some .boolean)) (rmK 2 0 0) (kP D K H [.ref (o 0), .int x]) (k2_QcV (.int (nI 0))) 0 0 (fun _ => False) := by
  refine Met.ofW (cc := cX1_go) (maxL := 3) (ret := (some .boolean)) (by decide) rfl ?_
  intro p e s m args below meth c s₁ B hml hv
  obtain ⟨rfl, hH, hK, hN, hO⟩ := hv
  have hx := B.exec
  have hb := B.bytes
  have hr := B.returns
  have hts : ∀ w ∈ tT, w.before _ s = true := fun w h => atoms_spec (ws := tC yX1_go cX1_go 3 (some .boolean)) B.pre w (List.mem_cons_of_mem _ h)
  have hown : s.vm.findClass RX1 = some m.cls := findClass_of_methodNamed B.named
  have hlocks := B.notSynchronized
  have C : cx RX1 D K p s m _ c cX1_go := ⟨hx, hb, hown, hts, hK, hN, hO⟩
  have hR : rmOk (headSpec (tC yX1_go cX1_go 3 (some .boolean)) (rmK 2 0 0)).room 2 0 0 := ⟨Nat.le_refl _, Nat.le_refl _, Nat.le_refl _, Nat.le_refl _⟩
  subst hH
  have hl := lv_entry ([.ref (o 0), .int x]) (n := 3) (Nat.le_of_ble_eq_true rfl)
  rw [lg_entry_eq]
  generalize (lg_sl ([.ref (o 0), .int x]) ++ List.replicate (3 - (lg_sl ([.ref (o 0), .int x])).length) Slot.unset).toArray = ls at hl ⊢
  have hl : lv_has ls 3 [(0, .ref (o 0)), (1, .int x)] := hl
  refine lv_aload_n hx hb dX1_go_0 rfl (lv_at hl 0 rfl) ?_
  refine lv_iload_n hx hb dX1_go_1 rfl (lv_at hl 1 rfl) ?_
  refine pv (va_runV (As := [.int x]) (rest := []) ⟨hx, hb, hml, hown, hts⟩ (cD_itemThere_no l hP hn200 x h) (cwV 1 hts gD_45 rfl rfl rfl (by decide +kernel) (rmF hR (by decide) (by decide))) (kP_V C (va_recv C.2.2.2.2.1 hP (ci := ciD) (q0 := 0) rfl rfl)) rfl rfl hl.1 rfl (lv_room (Nat.le_of_ble_eq_true rfl)) dX1_go_2 ⟨hR.2.2.1, hR.2.2.2⟩) ?_
  refine lv_astore_nN (lv' := [(2, .null), (0, .ref (o 0)), (1, .int x)]) hx hb dX1_go_5 rfl hl (by decide) rfl (fun ls hl => ?_)
  refine lv_aload_nN hx hb dX1_go_6 rfl (lv_at hl 0 rfl) ?_
  refine lv_ifnonnullN hx hb dX1_go_7 ?_
  refine lv_iconst (v := nI 0) hx hb dX1_go_10 (by decide) ?_
  exact W.zret (v := nI 0) hx hb hr (by decide) (fun t ht _ => ⟨rfl, ht⟩) (fun q h => by cases h) dX1_go_11
set_option maxHeartbeats 1000000 in
set_option maxRecDepth 100000 in
theorem cD_go (l : Launch) (hP : va_P D vwCl (dW R o K ad va fl af bl n tc sc T S us ps am) H) (hD : va_D A (dW R o K ad va fl af bl n tc sc T S us ps am)) (hn200 : n ≤ 200) {i : Nat} (hi : i < n) (hT : T i = true) (htc : 0 < tc) : Met l yX1_go (tC yX1_go cX1_go 3 (some .boolean)) (rmK 2 0 0) (kP D K H [.ref (o 0), .int (nI i)]) (qI D A (fun (r : Int32) (u : Unit) => r = nI 1) (fun u : Unit => dW R o K ad va fl af bl n (tc - 1) sc (va_up T i false) S us ps am)) 0 0 A := by
  refine Met.ofW (cc := cX1_go) (maxL := 3) (ret := (some .boolean)) (by decide) rfl ?_
  intro p e s m args below meth c s₁ B hml hv
  obtain ⟨rfl, hH, hK, hN, hO⟩ := hv
  have hx := B.exec
  have hb := B.bytes
  have hr := B.returns
  have hts : ∀ w ∈ tT, w.before _ s = true := fun w h => atoms_spec (ws := tC yX1_go cX1_go 3 (some .boolean)) B.pre w (List.mem_cons_of_mem _ h)
  have hown : s.vm.findClass RX1 = some m.cls := findClass_of_methodNamed B.named
  have hlocks := B.notSynchronized
  have C : cx RX1 D K p s m _ c cX1_go := ⟨hx, hb, hown, hts, hK, hN, hO⟩
  have hR : rmOk (headSpec (tC yX1_go cX1_go 3 (some .boolean)) (rmK 2 0 0)).room 2 0 0 := ⟨Nat.le_refl _, Nat.le_refl _, Nat.le_refl _, Nat.le_refl _⟩
  subst hH
  have hS : va_S A s.heap s.heap [] := va_S.rf
  have hl := lv_entry ([.ref (o 0), .int (nI i)]) (n := 3) (Nat.le_of_ble_eq_true rfl)
  rw [lg_entry_eq]
  generalize (lg_sl ([.ref (o 0), .int (nI i)]) ++ List.replicate (3 - (lg_sl ([.ref (o 0), .int (nI i)])).length) Slot.unset).toArray = ls at hl ⊢
  have hl : lv_has ls 3 [(0, .ref (o 0)), (1, .int (nI i))] := hl
  refine lv_aload_n hx hb dX1_go_0 rfl (lv_at hl 0 rfl) ?_
  refine lv_iload_n hx hb dX1_go_1 rfl (lv_at hl 1 rfl) ?_
  refine pv (va_runV (As := [.int (nI i)]) (rest := []) ⟨hx, hb, hml, hown, hts⟩ (cD_itemThere l hP hn200 hi hT) (cwV 1 hts gD_45 rfl rfl rfl (by decide +kernel) (rmF hR (by decide) (by decide))) (kP_V C (va_recv C.2.2.2.2.1 hP (ci := ciD) (q0 := 0) rfl rfl)) rfl rfl hl.1 rfl (lv_room (Nat.le_of_ble_eq_true rfl)) dX1_go_2 ⟨hR.2.2.1, hR.2.2.2⟩) ?_
  refine lv_astore_n (lv' := [(2, .ref ((ad i).1)), (0, .ref (o 0)), (1, .int (nI i))]) hx hb dX1_go_5 rfl hl (by decide) rfl (fun ls hl => ?_)
  refine lv_aload_n hx hb dX1_go_6 rfl (lv_at hl 0 rfl) ?_
  refine lv_ifnonnull (tgt := 12) hx hb dX1_go_7 (by decide) ?_
  refine lv_aload_n hx hb dX1_go_12 rfl (lv_at hl 0 rfl) ?_
  refine lv_iconst (v := nI 0) hx hb dX1_go_13 (by decide) ?_
  refine tp_i (y := bI false) (b0 rfl) ?_
  refine pDI_there C hP hD hS hi dX1_go_14 (fun H locs hP hD hS => ?_)
  refine lv_aload_n hx hb dX1_go_17 rfl (lv_at hl 1 rfl) ?_
  refine lv_dup hx hb dX1_go_18 rfl ?_
  refine gD_thereCount C hP dX1_go_19 ?_
  refine lv_iconst (v := nI 1) hx hb dX1_go_22 (by decide) ?_
  refine lv_isub hx hb dX1_go_23 ?_
  refine tp_i (y := nI (tc - 1)) (pk_sub (by omega)) ?_
  refine pD_thereCount C hP hD hS dX1_go_24 (fun H locs hP hD hS => ?_)
  refine lv_iconst (v := nI 1) hx hb dX1_go_27 (by decide) ?_
  exact W.zret (v := nI 1) hx hb hr (by decide) (fun t ht _ => ⟨⟨_, (), rfl, rfl, by rw [ht]; exact hP, hD⟩, hS.F ht⟩) hS.2.2 dX1_go_28
set_option maxHeartbeats 1000000 in
set_option maxRecDepth 100000 in
theorem cD_in_no (l : Launch) (hP : va_P D vwCl (dW R o K ad va fl af bl n tc sc T S us ps am) H) (x : Int32) (h : x < 0 ∨ nI n ≤ x) : Met l yX1_in (tC yX1_in cX1_in 3 (some .boolean)) (rmK 1 0 0) (kP D K H [.ref (o 0), .int x]) (k2_QcV (.int (nI 0))) 0 0 (fun _ => False) := by
  refine Met.ofW (cc := cX1_in) (maxL := 3) (ret := (some .boolean)) (by decide) rfl ?_
  intro p e s m args below meth c s₁ B hml hv
  obtain ⟨rfl, hH, hK, hN, hO⟩ := hv
  have hx := B.exec
  have hb := B.bytes
  have hr := B.returns
  have hts : ∀ w ∈ tT, w.before _ s = true := fun w h => atoms_spec (ws := tC yX1_in cX1_in 3 (some .boolean)) B.pre w (List.mem_cons_of_mem _ h)
  have hown : s.vm.findClass RX1 = some m.cls := findClass_of_methodNamed B.named
  have hlocks := B.notSynchronized
  have C : cx RX1 D K p s m _ c cX1_in := ⟨hx, hb, hown, hts, hK, hN, hO⟩
  have hR : rmOk (headSpec (tC yX1_in cX1_in 3 (some .boolean)) (rmK 1 0 0)).room 1 0 0 := ⟨Nat.le_refl _, Nat.le_refl _, Nat.le_refl _, Nat.le_refl _⟩
  subst hH
  have hl := lv_entry ([.ref (o 0), .int x]) (n := 3) (Nat.le_of_ble_eq_true rfl)
  rw [lg_entry_eq]
  generalize (lg_sl ([.ref (o 0), .int x]) ++ List.replicate (3 - (lg_sl ([.ref (o 0), .int x])).length) Slot.unset).toArray = ls at hl ⊢
  have hl : lv_has ls 3 [(0, .ref (o 0)), (1, .int x)] := hl
  refine lv_aload_n hx hb dX1_in_0 rfl (lv_at hl 0 rfl) ?_
  refine lv_iload_n hx hb dX1_in_1 rfl (lv_at hl 1 rfl) ?_
  refine pv (va_runV (As := [.int x]) (rest := []) ⟨hx, hb, hml, hown, hts⟩ (cD_itemEver_no l hP x h) (cwV 1 hts gD_63 rfl rfl rfl (by decide +kernel) (rmF hR (by decide) (by decide))) (kP_V C (va_recv C.2.2.2.2.1 hP (ci := ciD) (q0 := 0) rfl rfl)) rfl rfl hl.1 rfl (lv_room (Nat.le_of_ble_eq_true rfl)) dX1_in_2 ⟨hR.2.2.1, hR.2.2.2⟩) ?_
  refine lv_astore_nN (lv' := [(2, .null), (0, .ref (o 0)), (1, .int x)]) hx hb dX1_in_5 rfl hl (by decide) rfl (fun ls hl => ?_)
  refine lv_aload_nN hx hb dX1_in_6 rfl (lv_at hl 0 rfl) ?_
  refine lv_ifnullN (tgt := 21) hx hb dX1_in_7 (by decide) ?_
  refine lv_iconst (v := nI 0) hx hb dX1_in_21 (by decide) ?_
  exact W.zret (v := nI 0) hx hb hr (by decide) (fun t ht _ => ⟨rfl, ht⟩) (fun q h => by cases h) dX1_in_22
set_option maxHeartbeats 1000000 in
set_option maxRecDepth 100000 in
theorem cD_in (l : Launch) (hP : va_P D vwCl (dW R o K ad va fl af bl n tc sc T S us ps am) H) (hn200 : n ≤ 200) {i : Nat} (hi : i < n) : Met l yX1_in (tC yX1_in cX1_in 3 (some .boolean)) (rmK 1 0 0) (kP D K H [.ref (o 0), .int (nI i)]) (k2_QcV (.int (bI (S i)))) 0 0 (fun _ => False) := by
  refine Met.ofW (cc := cX1_in) (maxL := 3) (ret := (some .boolean)) (by decide) rfl ?_
  intro p e s m args below meth c s₁ B hml hv
  obtain ⟨rfl, hH, hK, hN, hO⟩ := hv
  have hx := B.exec
  have hb := B.bytes
  have hr := B.returns
  have hts : ∀ w ∈ tT, w.before _ s = true := fun w h => atoms_spec (ws := tC yX1_in cX1_in 3 (some .boolean)) B.pre w (List.mem_cons_of_mem _ h)
  have hown : s.vm.findClass RX1 = some m.cls := findClass_of_methodNamed B.named
  have hlocks := B.notSynchronized
  have C : cx RX1 D K p s m _ c cX1_in := ⟨hx, hb, hown, hts, hK, hN, hO⟩
  have hR : rmOk (headSpec (tC yX1_in cX1_in 3 (some .boolean)) (rmK 1 0 0)).room 1 0 0 := ⟨Nat.le_refl _, Nat.le_refl _, Nat.le_refl _, Nat.le_refl _⟩
  subst hH
  have hl := lv_entry ([.ref (o 0), .int (nI i)]) (n := 3) (Nat.le_of_ble_eq_true rfl)
  rw [lg_entry_eq]
  generalize (lg_sl ([.ref (o 0), .int (nI i)]) ++ List.replicate (3 - (lg_sl ([.ref (o 0), .int (nI i)])).length) Slot.unset).toArray = ls at hl ⊢
  have hl : lv_has ls 3 [(0, .ref (o 0)), (1, .int (nI i))] := hl
  refine lv_aload_n hx hb dX1_in_0 rfl (lv_at hl 0 rfl) ?_
  refine lv_iload_n hx hb dX1_in_1 rfl (lv_at hl 1 rfl) ?_
  refine pv (va_runV (As := [.int (nI i)]) (rest := []) ⟨hx, hb, hml, hown, hts⟩ (cD_itemEver l hP hn200 hi) (cwV 1 hts gD_63 rfl rfl rfl (by decide +kernel) (rmF hR (by decide) (by decide))) (kP_V C (va_recv C.2.2.2.2.1 hP (ci := ciD) (q0 := 0) rfl rfl)) rfl rfl hl.1 rfl (lv_room (Nat.le_of_ble_eq_true rfl)) dX1_in_2 ⟨hR.2.2.1, hR.2.2.2⟩) ?_
  refine lv_astore_n (lv' := [(2, .ref ((ad i).1)), (0, .ref (o 0)), (1, .int (nI i))]) hx hb dX1_in_5 rfl hl (by decide) rfl (fun ls hl => ?_)
  refine lv_aload_n hx hb dX1_in_6 rfl (lv_at hl 0 rfl) ?_
  refine lv_ifnull hx hb dX1_in_7 ?_
  refine lv_aload_n hx hb dX1_in_10 rfl (lv_at hl 0 rfl) ?_
  refine gDI_inSet C hP hi dX1_in_11 ?_
  refine lv_if_eq (tgt := 21) hx hb dX1_in_14 (by decide) (fun c1 => ?_) (fun c1 => ?_)
  · have c1 : (S i) = false := (bI_z (S i)).mp c1
    refine lv_iconst (v := nI 0) hx hb dX1_in_21 (by decide) ?_
    exact W.zret (v := nI 0) hx hb hr (by decide) (fun t ht _ => ⟨rt0 c1, ht⟩) (fun q h => by cases h) dX1_in_22
  · have c1 : (S i) = true := (bI_nz (S i)).mp c1
    refine lv_iconst (v := nI 1) hx hb dX1_in_17 (by decide) ?_
    refine lv_goto (tgt := 22) hx hb dX1_in_18 (by decide) ?_
    exact W.zret (v := nI 1) hx hb hr (by decide) (fun t ht _ => ⟨rt1 c1, ht⟩) (fun q h => by cases h) dX1_in_22
set_option maxHeartbeats 1000000 in
set_option maxRecDepth 100000 in
theorem cD_value_no (l : Launch) (hP : va_P D vwCl (dW R o K ad va fl af bl n tc sc T S us ps am) H) (x : Int32) (h : isP x = false) : Met l yX1_value (tC yX1_value cX1_value 2 (some .long)) (rmK 1 0 0) (kP D K H [.ref (o 0), .int x]) (k2_QcV (.long 0)) 0 0 (fun _ => False) := by
  refine Met.ofW (cc := cX1_value) (maxL := 2) (ret := (some .long)) (by decide) rfl ?_
  intro p e s m args below meth c s₁ B hml hv
  obtain ⟨rfl, hH, hK, hN, hO⟩ := hv
  have hx := B.exec
  have hb := B.bytes
  have hr := B.returns
  have hts : ∀ w ∈ tT, w.before _ s = true := fun w h => atoms_spec (ws := tC yX1_value cX1_value 2 (some .long)) B.pre w (List.mem_cons_of_mem _ h)
  have hown : s.vm.findClass RX1 = some m.cls := findClass_of_methodNamed B.named
  have hlocks := B.notSynchronized
  have C : cx RX1 D K p s m _ c cX1_value := ⟨hx, hb, hown, hts, hK, hN, hO⟩
  have hR : rmOk (headSpec (tC yX1_value cX1_value 2 (some .long)) (rmK 1 0 0)).room 1 0 0 := ⟨Nat.le_refl _, Nat.le_refl _, Nat.le_refl _, Nat.le_refl _⟩
  subst hH
  have hl := lv_entry ([.ref (o 0), .int x]) (n := 2) (Nat.le_of_ble_eq_true rfl)
  rw [lg_entry_eq]
  generalize (lg_sl ([.ref (o 0), .int x]) ++ List.replicate (2 - (lg_sl ([.ref (o 0), .int x])).length) Slot.unset).toArray = ls at hl ⊢
  have hl : lv_has ls 2 [(0, .ref (o 0)), (1, .int x)] := hl
  refine lv_iload_n hx hb dX1_value_0 rfl (lv_at hl 1 rfl) ?_
  refine pv (va_runS (As := [.int x]) (rest := []) ⟨hx, hb, hml, hown, hts⟩ (cD_isPosition l x) (cwS 1 hts gD_29 rfl rfl rfl (by decide +kernel) (rmF hR (by decide) (by decide))) (kP_S C) rfl rfl hl.1 rfl (lv_room (Nat.le_of_ble_eq_true rfl)) dX1_value_1 ⟨hR.2.2.1, hR.2.2.2⟩) ?_
  refine lv_if_eq (tgt := 16) hx hb dX1_value_4 (by decide) (fun c1 => ?_) (fun c1 => ?_)
  · have c1 : (isP x) = false := (bI_z (isP x)).mp c1
    refine lv_lconst (v := 0) hx hb dX1_value_16 (by decide) ?_
    exact W.lret (v := 0) hx hb hr (fun t ht _ => ⟨rfl, ht⟩) (fun q h => by cases h) dX1_value_17
  · have c1 : (isP x) = true := (bI_nz (isP x)).mp c1
    exact absurd (c1.symm.trans h) (by decide)
set_option maxHeartbeats 1000000 in
set_option maxRecDepth 100000 in
theorem cD_value (l : Launch) (hP : va_P D vwCl (dW R o K ad va fl af bl n tc sc T S us ps am) H) {q : Nat} (hq3 : q < 300) : Met l yX1_value (tC yX1_value cX1_value 2 (some .long)) (rmK 1 0 0) (kP D K H [.ref (o 0), .int (nI q)]) (k2_QcV (.long (va q))) 0 0 (fun _ => False) := by
  refine Met.ofW (cc := cX1_value) (maxL := 2) (ret := (some .long)) (by decide) rfl ?_
  intro p e s m args below meth c s₁ B hml hv
  obtain ⟨rfl, hH, hK, hN, hO⟩ := hv
  have hx := B.exec
  have hb := B.bytes
  have hr := B.returns
  have hts : ∀ w ∈ tT, w.before _ s = true := fun w h => atoms_spec (ws := tC yX1_value cX1_value 2 (some .long)) B.pre w (List.mem_cons_of_mem _ h)
  have hown : s.vm.findClass RX1 = some m.cls := findClass_of_methodNamed B.named
  have hlocks := B.notSynchronized
  have C : cx RX1 D K p s m _ c cX1_value := ⟨hx, hb, hown, hts, hK, hN, hO⟩
  have hR : rmOk (headSpec (tC yX1_value cX1_value 2 (some .long)) (rmK 1 0 0)).room 1 0 0 := ⟨Nat.le_refl _, Nat.le_refl _, Nat.le_refl _, Nat.le_refl _⟩
  subst hH
  have hl := lv_entry ([.ref (o 0), .int (nI q)]) (n := 2) (Nat.le_of_ble_eq_true rfl)
  rw [lg_entry_eq]
  generalize (lg_sl ([.ref (o 0), .int (nI q)]) ++ List.replicate (2 - (lg_sl ([.ref (o 0), .int (nI q)])).length) Slot.unset).toArray = ls at hl ⊢
  have hl : lv_has ls 2 [(0, .ref (o 0)), (1, .int (nI q))] := hl
  refine lv_iload_n hx hb dX1_value_0 rfl (lv_at hl 1 rfl) ?_
  refine pv (va_runS (As := [.int (nI q)]) (rest := []) ⟨hx, hb, hml, hown, hts⟩ (cD_isPosition l (nI q)) (cwS 1 hts gD_29 rfl rfl rfl (by decide +kernel) (rmF hR (by decide) (by decide))) (kP_S C) rfl rfl hl.1 rfl (lv_room (Nat.le_of_ble_eq_true rfl)) dX1_value_1 ⟨hR.2.2.1, hR.2.2.2⟩) ?_
  refine lv_if_eq (tgt := 16) hx hb dX1_value_4 (by decide) (fun c1 => ?_) (fun c1 => ?_)
  · have c1 : (isP (nI q)) = false := (bI_z (isP (nI q))).mp c1
    exact absurd ((isP_nI hq3).symm.trans c1) (by decide)
  · have c1 : (isP (nI q)) = true := (bI_nz (isP (nI q))).mp c1
    refine lv_aload_n hx hb dX1_value_7 rfl (lv_at hl 0 rfl) ?_
    refine gD_values C hP dX1_value_8 ?_
    refine lv_iload_n hx hb dX1_value_11 rfl (lv_at hl 1 rfl) ?_
    refine lD_values C hP (by omega) dX1_value_12 ?_
    refine lv_goto (tgt := 17) hx hb dX1_value_13 (by decide) ?_
    exact W.lret (v := va q) hx hb hr (fun t ht _ => ⟨rfl, ht⟩) (fun q h => by cases h) dX1_value_17
set_option maxHeartbeats 1000000 in
set_option maxRecDepth 100000 in
theorem cD_netOf_no (l : Launch) (hP : va_P D vwCl (dW R o K ad va fl af bl n tc sc T S us ps am) H) (hn200 : n ≤ 200) (x y : Int32) (h : nT n T x) : Met l yX1_netOf (tC yX1_netOf cX1_netOf 4 (some .long)) (rmK 2 0 0) (kP D K H [.ref (o 0), .int x, .int y]) (k2_QcV (.long 0)) 0 0 (fun _ => False) := by
  refine Met.ofW (cc := cX1_netOf) (maxL := 4) (ret := (some .long)) (by decide) rfl ?_
  intro p e s m args below meth c s₁ B hml hv
  obtain ⟨rfl, hH, hK, hN, hO⟩ := hv
  have hx := B.exec
  have hb := B.bytes
  have hr := B.returns
  have hts : ∀ w ∈ tT, w.before _ s = true := fun w h => atoms_spec (ws := tC yX1_netOf cX1_netOf 4 (some .long)) B.pre w (List.mem_cons_of_mem _ h)
  have hown : s.vm.findClass RX1 = some m.cls := findClass_of_methodNamed B.named
  have hlocks := B.notSynchronized
  have C : cx RX1 D K p s m _ c cX1_netOf := ⟨hx, hb, hown, hts, hK, hN, hO⟩
  have hR : rmOk (headSpec (tC yX1_netOf cX1_netOf 4 (some .long)) (rmK 2 0 0)).room 2 0 0 := ⟨Nat.le_refl _, Nat.le_refl _, Nat.le_refl _, Nat.le_refl _⟩
  subst hH
  have hl := lv_entry ([.ref (o 0), .int x, .int y]) (n := 4) (Nat.le_of_ble_eq_true rfl)
  rw [lg_entry_eq]
  generalize (lg_sl ([.ref (o 0), .int x, .int y]) ++ List.replicate (4 - (lg_sl ([.ref (o 0), .int x, .int y])).length) Slot.unset).toArray = ls at hl ⊢
  have hl : lv_has ls 4 [(0, .ref (o 0)), (1, .int x), (2, .int y)] := hl
  refine lv_aload_n hx hb dX1_netOf_0 rfl (lv_at hl 0 rfl) ?_
  refine lv_iload_n hx hb dX1_netOf_1 rfl (lv_at hl 1 rfl) ?_
  refine pv (va_runV (As := [.int x]) (rest := []) ⟨hx, hb, hml, hown, hts⟩ (cD_itemThere_no l hP hn200 x h) (cwV 1 hts gD_45 rfl rfl rfl (by decide +kernel) (rmF hR (by decide) (by decide))) (kP_V C (va_recv C.2.2.2.2.1 hP (ci := ciD) (q0 := 0) rfl rfl)) rfl rfl hl.1 rfl (lv_room (Nat.le_of_ble_eq_true rfl)) dX1_netOf_2 ⟨hR.2.2.1, hR.2.2.2⟩) ?_
  refine lv_astore_nN (lv' := [(3, .null), (0, .ref (o 0)), (1, .int x), (2, .int y)]) hx hb dX1_netOf_5 rfl hl (by decide) rfl (fun ls hl => ?_)
  refine lv_aload_nN hx hb dX1_netOf_6 rfl (lv_at hl 0 rfl) ?_
  refine lv_ifnonnullN hx hb dX1_netOf_7 ?_
  refine lv_lconst (v := 0) hx hb dX1_netOf_10 (by decide) ?_
  refine lv_goto (tgt := 19) hx hb dX1_netOf_11 (by decide) ?_
  exact W.lret (v := 0) hx hb hr (fun t ht _ => ⟨rfl, ht⟩) (fun q h => by cases h) dX1_netOf_19
set_option maxHeartbeats 1000000 in
set_option maxRecDepth 100000 in
theorem cD_netOf (l : Launch) (hP : va_P D vwCl (dW R o K ad va fl af bl n tc sc T S us ps am) H) (hn200 : n ≤ 200) {i : Nat} (hi : i < n) (hT : T i = true) (hu : us i ≤ 16) (y : Int32) : Met l yX1_netOf (tC yX1_netOf cX1_netOf 4 (some .long)) (rmK 2 0 0) (kP D K H [.ref (o 0), .int (nI i), .int y]) (k2_QcV (.long (ntq (qx (ps i) y) (us i) (am i)))) 0 0 (fun _ => False) := by
  refine Met.ofW (cc := cX1_netOf) (maxL := 4) (ret := (some .long)) (by decide) rfl ?_
  intro p e s m args below meth c s₁ B hml hv
  obtain ⟨rfl, hH, hK, hN, hO⟩ := hv
  have hx := B.exec
  have hb := B.bytes
  have hr := B.returns
  have hts : ∀ w ∈ tT, w.before _ s = true := fun w h => atoms_spec (ws := tC yX1_netOf cX1_netOf 4 (some .long)) B.pre w (List.mem_cons_of_mem _ h)
  have hown : s.vm.findClass RX1 = some m.cls := findClass_of_methodNamed B.named
  have hlocks := B.notSynchronized
  have C : cx RX1 D K p s m _ c cX1_netOf := ⟨hx, hb, hown, hts, hK, hN, hO⟩
  have hR : rmOk (headSpec (tC yX1_netOf cX1_netOf 4 (some .long)) (rmK 2 0 0)).room 2 0 0 := ⟨Nat.le_refl _, Nat.le_refl _, Nat.le_refl _, Nat.le_refl _⟩
  subst hH
  have hl := lv_entry ([.ref (o 0), .int (nI i), .int y]) (n := 4) (Nat.le_of_ble_eq_true rfl)
  rw [lg_entry_eq]
  generalize (lg_sl ([.ref (o 0), .int (nI i), .int y]) ++ List.replicate (4 - (lg_sl ([.ref (o 0), .int (nI i), .int y])).length) Slot.unset).toArray = ls at hl ⊢
  have hl : lv_has ls 4 [(0, .ref (o 0)), (1, .int (nI i)), (2, .int y)] := hl
  refine lv_aload_n hx hb dX1_netOf_0 rfl (lv_at hl 0 rfl) ?_
  refine lv_iload_n hx hb dX1_netOf_1 rfl (lv_at hl 1 rfl) ?_
  refine pv (va_runV (As := [.int (nI i)]) (rest := []) ⟨hx, hb, hml, hown, hts⟩ (cD_itemThere l hP hn200 hi hT) (cwV 1 hts gD_45 rfl rfl rfl (by decide +kernel) (rmF hR (by decide) (by decide))) (kP_V C (va_recv C.2.2.2.2.1 hP (ci := ciD) (q0 := 0) rfl rfl)) rfl rfl hl.1 rfl (lv_room (Nat.le_of_ble_eq_true rfl)) dX1_netOf_2 ⟨hR.2.2.1, hR.2.2.2⟩) ?_
  refine lv_astore_n (lv' := [(3, .ref ((ad i).1)), (0, .ref (o 0)), (1, .int (nI i)), (2, .int y)]) hx hb dX1_netOf_5 rfl hl (by decide) rfl (fun ls hl => ?_)
  refine lv_aload_n hx hb dX1_netOf_6 rfl (lv_at hl 0 rfl) ?_
  refine lv_ifnonnull (tgt := 14) hx hb dX1_netOf_7 (by decide) ?_
  refine lv_aload_n hx hb dX1_netOf_14 rfl (lv_at hl 0 rfl) ?_
  refine lv_iload_n hx hb dX1_netOf_15 rfl (lv_at hl 3 rfl) ?_
  refine pv (va_runVN (As := [.int y]) (rest := []) ⟨hx, hb, hml, hown, hts⟩ (cI_amountFor l hP hi hu y) ⟨va_cnB 1 hts gD_82.1 rfl rfl rfl (C.2.2.2.2.2.1 _ gD_82.2.1) (hts _ gD_82.2.2.1) (by decide +kernel) (rmF hR (by decide) (by decide)), hts _ gD_82.2.2.2.1, hts _ gD_82.2.2.2.2⟩ (kP_V C (va_recv C.2.2.2.2.1 hP (ci := ciI) (q0 := 6 + (R.length + 3 * i)) rfl (dW_0 hi))) rfl rfl hl.1 rfl (lv_room (Nat.le_of_ble_eq_true rfl)) dX1_netOf_16 ⟨hR.2.2.1, hR.2.2.2⟩) ?_
  exact W.lret (v := ntq (qx (ps i) y) (us i) (am i)) hx hb hr (fun t ht _ => ⟨rfl, ht⟩) (fun q h => by cases h) dX1_netOf_19
set_option maxHeartbeats 1000000 in
set_option maxRecDepth 100000 in
theorem cD_count (l : Launch) (hP : va_P D vwCl (dW R o K ad va fl af bl n tc sc T S us ps am) H) (x : Int32) : Met l yX1_count (tC yX1_count cX1_count 2 (some .int)) (rmK 0 0 0) (kP D K H [.ref (o 0), .int x]) (k2_QcV (.int (cntS x n tc sc))) 0 0 (fun _ => False) := by
  refine Met.ofW (cc := cX1_count) (maxL := 2) (ret := (some .int)) (by decide) rfl ?_
  intro p e s m args below meth c s₁ B hml hv
  obtain ⟨rfl, hH, hK, hN, hO⟩ := hv
  have hx := B.exec
  have hb := B.bytes
  have hr := B.returns
  have hts : ∀ w ∈ tT, w.before _ s = true := fun w h => atoms_spec (ws := tC yX1_count cX1_count 2 (some .int)) B.pre w (List.mem_cons_of_mem _ h)
  have hown : s.vm.findClass RX1 = some m.cls := findClass_of_methodNamed B.named
  have hlocks := B.notSynchronized
  have C : cx RX1 D K p s m _ c cX1_count := ⟨hx, hb, hown, hts, hK, hN, hO⟩
  have hR : rmOk (headSpec (tC yX1_count cX1_count 2 (some .int)) (rmK 0 0 0)).room 0 0 0 := ⟨Nat.le_refl _, Nat.le_refl _, Nat.le_refl _, Nat.le_refl _⟩
  subst hH
  have hl := lv_entry ([.ref (o 0), .int x]) (n := 2) (Nat.le_of_ble_eq_true rfl)
  rw [lg_entry_eq]
  generalize (lg_sl ([.ref (o 0), .int x]) ++ List.replicate (2 - (lg_sl ([.ref (o 0), .int x])).length) Slot.unset).toArray = ls at hl ⊢
  have hl : lv_has ls 2 [(0, .ref (o 0)), (1, .int x)] := hl
  refine lv_iload_n hx hb dX1_count_0 rfl (lv_at hl 1 rfl) ?_
  by_cases h0 : x = nI 0
  · subst h0
    refine lv_tableIn (off := 27) (tgt := 28) hx hb dX1_count_1 (by decide) (by decide) (by decide) (by decide) ?_
    refine lv_aload_n hx hb dX1_count_28 rfl (lv_at hl 0 rfl) ?_
    refine gD_itemCount C hP dX1_count_29 ?_
    exact W.iret (v := nI n) hx hb hr (fun t ht _ => ⟨rti (by unfold cntS; rw [if_pos rfl]), ht⟩) (fun q h => by cases h) dX1_count_32
  by_cases h1 : x = nI 1
  · subst h1
    refine lv_tableIn (off := 32) (tgt := 33) hx hb dX1_count_1 (by decide) (by decide) (by decide) (by decide) ?_
    refine lv_aload_n hx hb dX1_count_33 rfl (lv_at hl 0 rfl) ?_
    refine gD_thereCount C hP dX1_count_34 ?_
    exact W.iret (v := nI tc) hx hb hr (fun t ht _ => ⟨rti (by unfold cntS; rw [if_neg (by decide), if_pos rfl]), ht⟩) (fun q h => by cases h) dX1_count_37
  by_cases h2 : x = nI 2
  · subst h2
    refine lv_tableIn (off := 37) (tgt := 38) hx hb dX1_count_1 (by decide) (by decide) (by decide) (by decide) ?_
    refine lv_aload_n hx hb dX1_count_38 rfl (lv_at hl 0 rfl) ?_
    refine gD_setCount C hP dX1_count_39 ?_
    exact W.iret (v := nI sc) hx hb hr (fun t ht _ => ⟨rti (by unfold cntS; rw [if_neg (by decide), if_neg (by decide), if_pos rfl]), ht⟩) (fun q h => by cases h) dX1_count_42
  have n0 := lv_neT h0 (a := 0) (by decide)
  have n1 := lv_neT h1 (a := 1) (by decide)
  have n2 := lv_neT h2 (a := 2) (by decide)
  refine lv_tableOut (tgt := 43) hx hb dX1_count_1 (by omega) (by decide) ?_
  refine lv_iconst (v := (-1)) hx hb dX1_count_43 (by decide) ?_
  exact W.iret (v := (-1)) hx hb hr (fun t ht _ => ⟨rti (by unfold cntS; rw [if_neg h0, if_neg h1, if_neg h2]), ht⟩) (fun q h => by cases h) dX1_count_44
end MD1
end
section
/-! GRIDDESK: the loops of the search -/
theorem ct_no {p : Nat → Nat} {a fl af : Nat → Int64} {bl : Nat → Bool} {u k : Nat} (hk : k < u) (h : ct_at p a fl af bl k = true) : ct p a u fl af bl = false := decide_eq_false (fun z => by rw [z k hk] at h; cases h)
theorem ct_yes {p : Nat → Nat} {a fl af : Nat → Int64} {bl : Nat → Bool} {u : Nat} (h : ∀ k, k < u → ct_at p a fl af bl k = false) : ct p a u fl af bl = true := decide_eq_true h
theorem ct_1 {p : Nat → Nat} {a fl af : Nat → Int64} {bl : Nat → Bool} {k : Nat} (h1 : a k < 0) (h2 : bl (p k) = true) : ct_at p a fl af bl k = true := by unfold ct_at; rw [decide_eq_true h1, h2]; rfl
theorem ct_2 {p : Nat → Nat} {a fl af : Nat → Int64} {bl : Nat → Bool} {k : Nat} (h1 : a k < 0) (h3 : af (p k) + a k < fl (p k)) : ct_at p a fl af bl k = true := by unfold ct_at; rw [decide_eq_true h1, decide_eq_true h3, Bool.or_true]; rfl
theorem ct_0 {p : Nat → Nat} {a fl af : Nat → Int64} {bl : Nat → Bool} {k : Nat} (h1 : ¬ a k < 0) : ct_at p a fl af bl k = false := by unfold ct_at; rw [decide_eq_false h1]; rfl
theorem ct_3 {p : Nat → Nat} {a fl af : Nat → Int64} {bl : Nat → Bool} {k : Nat} (h2 : bl (p k) = false) (h3 : ¬ af (p k) + a k < fl (p k)) : ct_at p a fl af bl k = false := by unfold ct_at; rw [h2, decide_eq_false h3, Bool.or_false, Bool.and_false]
theorem lt_s' {k : Nat} {P : Nat → Prop} (h : ∀ j, j < k → P j) (hk : P k) : ∀ j, j < k + 1 → P j := fun j hj => by
  by_cases e : j = k
  · rw [e]; exact hk
  · exact h j (by omega)
def vfN (af : Nat → Int64) (m : Nat) : Bool := decide (∀ p, p < m → decide (1000000000000000000 < af p) = false)
abbrev vfB (af : Nat → Int64) : Bool := vfN af 300
section MD2
variable {D : va_G} {K : Nat → ClassId} {H : Heap} {A : Nat → Prop} {R : va_W} {o : Nat → Nat} {ad : Nat → Nat × Nat × Nat} {va fl af : Nat → Int64} {bl : Nat → Bool} {n tc sc : Nat} {T S : Nat → Bool} {us : Nat → Nat} {ps : Nat → Nat → Nat} {am : Nat → Nat → Int64}
set_option maxHeartbeats 1000000 in
set_option maxRecDepth 100000 in
theorem cD_startWithAllThere (l : Launch) (hP : va_P D vwCl (dW R o K ad va fl af bl n tc sc T S us ps am) H) (hD : va_D A (dW R o K ad va fl af bl n tc sc T S us ps am)) (hn200 : n ≤ 200) : Met l yX1_startWithAllThere (tC yX1_startWithAllThere cX1_startWithAllThere 3 none) (rmK 0 0 0) (kP D K H [.ref (o 0)]) (qV D A (fun u : Unit => True) (fun u : Unit => dW R o K ad va fl af bl n tc tc T (st_s T S n) us ps am)) 0 0 A := by
  refine Met.ofW (cc := cX1_startWithAllThere) (maxL := 3) (ret := none) (by decide) rfl ?_
  intro p e s m args below meth c s₁ B hml hv
  obtain ⟨rfl, hH, hK, hN, hO⟩ := hv
  have hx := B.exec
  have hb := B.bytes
  have hr := B.returns
  have hts : ∀ w ∈ tT, w.before _ s = true := fun w h => atoms_spec (ws := tC yX1_startWithAllThere cX1_startWithAllThere 3 none) B.pre w (List.mem_cons_of_mem _ h)
  have hown : s.vm.findClass RX1 = some m.cls := findClass_of_methodNamed B.named
  have hlocks := B.notSynchronized
  have C : cx RX1 D K p s m _ c cX1_startWithAllThere := ⟨hx, hb, hown, hts, hK, hN, hO⟩
  have hR : rmOk (headSpec (tC yX1_startWithAllThere cX1_startWithAllThere 3 none) (rmK 0 0 0)).room 0 0 0 := ⟨Nat.le_refl _, Nat.le_refl _, Nat.le_refl _, Nat.le_refl _⟩
  subst hH
  have hS : va_S A s.heap s.heap [] := va_S.rf
  have hl := lv_entry ([.ref (o 0)]) (n := 3) (Nat.le_of_ble_eq_true rfl)
  rw [lg_entry_eq]
  generalize (lg_sl ([.ref (o 0)]) ++ List.replicate (3 - (lg_sl ([.ref (o 0)])).length) Slot.unset).toArray = ls at hl ⊢
  have hl : lv_has ls 3 [(0, .ref (o 0))] := hl
  refine lv_iconst (v := nI 0) hx hb dX1_startWithAllThere_0 (by decide) ?_
  refine lv_istore_n (lv' := [(1, .int (nI 0)), (0, .ref (o 0))]) hx hb dX1_startWithAllThere_1 rfl hl (by decide) rfl (fun ls hl => ?_)
  refine lpM (U := n) (pcH := 2) (I := fun k ls H locs => lv_has ls 3 [(1, .int (nI k)), (0, .ref (o 0))] ∧ va_P D vwCl (dW R o K ad va fl af bl n tc sc T (st_s T S k) us ps am) H ∧ va_D A (dW R o K ad va fl af bl n tc sc T (st_s T S k) us ps am) ∧ va_S A s.heap H locs) (fun k ls H locs hkk hI ihk => ?_) 0 ls _ _ (Nat.zero_le _) ⟨(lv_sub hl [0, 1] rfl), hP, hD, hS⟩
  obtain ⟨hl, hP, hD, hS⟩ := hI
  refine lv_iload_n hx hb dX1_startWithAllThere_2 rfl (lv_at hl 0 rfl) ?_
  refine lv_aload_n hx hb dX1_startWithAllThere_3 rfl (lv_at hl 1 rfl) ?_
  refine gD_itemCount C hP dX1_startWithAllThere_4 ?_
  refine lv_icmp_ge (tgt := 35) hx hb dX1_startWithAllThere_7 (by decide) (fun c1 => ?_) (fun c1 => ?_)
  · have c1 : n ≤ k := (nI_leI (by omega) (by omega)).mp c1
    rw [show k = n by omega] at hP hD
    refine lv_aload_n hx hb dX1_startWithAllThere_35 rfl (lv_at hl 1 rfl) ?_
    refine lv_aload_n hx hb dX1_startWithAllThere_36 rfl (lv_at hl 1 rfl) ?_
    refine gD_thereCount C hP dX1_startWithAllThere_37 ?_
    refine pD_setCount C hP hD hS dX1_startWithAllThere_40 (fun H locs hP hD hS => ?_)
    exact W.vret hx hb hr (fun t ht _ => ⟨⟨(), rfl, trivial, by rw [ht]; exact hP, hD⟩, hS.F ht⟩) hS.2.2 dX1_startWithAllThere_43
  · have c1 : ¬ n ≤ k := fun z9 => c1 ((nI_leI (by omega) (by omega)).mpr z9)
    refine lv_aload_n hx hb dX1_startWithAllThere_10 rfl (lv_at hl 1 rfl) ?_
    refine gD_items C hP dX1_startWithAllThere_11 ?_
    refine lv_iload_n hx hb dX1_startWithAllThere_14 rfl (lv_at hl 0 rfl) ?_
    refine lD_items C hP hn200 (by omega) dX1_startWithAllThere_15 ?_
    refine lv_astore_n (lv' := [(2, .ref ((ad k).1)), (1, .int (nI k)), (0, .ref (o 0))]) hx hb dX1_startWithAllThere_16 rfl hl (by decide) rfl (fun ls hl => ?_)
    refine lv_aload_n hx hb dX1_startWithAllThere_17 rfl (lv_at hl 0 rfl) ?_
    refine lv_ifnull hx hb dX1_startWithAllThere_18 ?_
    refine lv_aload_n hx hb dX1_startWithAllThere_21 rfl (lv_at hl 0 rfl) ?_
    refine lv_aload_n hx hb dX1_startWithAllThere_22 rfl (lv_at hl 0 rfl) ?_
    refine gDI_there C hP (by omega) dX1_startWithAllThere_23 ?_
    refine pDI_inSet C hP hD hS (by omega) dX1_startWithAllThere_26 (fun H locs hP hD hS => ?_)
    refine lv_iinc (v := nI (k + 1)) (lv' := [(1, .int (nI (k + 1))), (2, .ref ((ad k).1)), (0, .ref (o 0))]) hx hb dX1_startWithAllThere_29 hl (k := 1) rfl (nI_1 k) (by decide) rfl (fun ls hl => ?_)
    refine lv_goto (tgt := 2) hx hb dX1_startWithAllThere_32 (by decide) ?_
    have e_S : (st_s T S (k + 1)) = (va_up (st_s T S k) k (T k)) := rfl
    rw [← e_S] at hP hD
    exact ihk (by omega) ls _ _ ⟨(lv_sub hl [0, 2] rfl), hP, hD, hS⟩
set_option maxHeartbeats 1000000 in
set_option maxRecDepth 100000 in
theorem cD_startRows (l : Launch) (hP : va_P D vwCl (dW R o K ad va fl af bl n tc sc T S us ps am) H) (hD : va_D A (dW R o K ad va fl af bl n tc sc T S us ps am))  : Met l yX1_startRows (tC yX1_startRows cX1_startRows 2 none) (rmK 0 0 0) (kP D K H [.ref (o 0)]) (qV D A (fun u : Unit => True) (fun u : Unit => dW R o K ad va fl (sr_a va af 300) (sr_b bl 300) n tc sc T S us ps am)) 0 0 A := by
  refine Met.ofW (cc := cX1_startRows) (maxL := 2) (ret := none) (by decide) rfl ?_
  intro p e s m args below meth c s₁ B hml hv
  obtain ⟨rfl, hH, hK, hN, hO⟩ := hv
  have hx := B.exec
  have hb := B.bytes
  have hr := B.returns
  have hts : ∀ w ∈ tT, w.before _ s = true := fun w h => atoms_spec (ws := tC yX1_startRows cX1_startRows 2 none) B.pre w (List.mem_cons_of_mem _ h)
  have hown : s.vm.findClass RX1 = some m.cls := findClass_of_methodNamed B.named
  have hlocks := B.notSynchronized
  have C : cx RX1 D K p s m _ c cX1_startRows := ⟨hx, hb, hown, hts, hK, hN, hO⟩
  have hR : rmOk (headSpec (tC yX1_startRows cX1_startRows 2 none) (rmK 0 0 0)).room 0 0 0 := ⟨Nat.le_refl _, Nat.le_refl _, Nat.le_refl _, Nat.le_refl _⟩
  subst hH
  have hS : va_S A s.heap s.heap [] := va_S.rf
  have hl := lv_entry ([.ref (o 0)]) (n := 2) (Nat.le_of_ble_eq_true rfl)
  rw [lg_entry_eq]
  generalize (lg_sl ([.ref (o 0)]) ++ List.replicate (2 - (lg_sl ([.ref (o 0)])).length) Slot.unset).toArray = ls at hl ⊢
  have hl : lv_has ls 2 [(0, .ref (o 0))] := hl
  refine lv_iconst (v := nI 0) hx hb dX1_startRows_0 (by decide) ?_
  refine lv_istore_n (lv' := [(1, .int (nI 0)), (0, .ref (o 0))]) hx hb dX1_startRows_1 rfl hl (by decide) rfl (fun ls hl => ?_)
  refine lpM (U := 300) (pcH := 2) (I := fun k ls H locs => lv_has ls 2 [(1, .int (nI k)), (0, .ref (o 0))] ∧ va_P D vwCl (dW R o K ad va fl (sr_a va af k) (sr_b bl k) n tc sc T S us ps am) H ∧ va_D A (dW R o K ad va fl (sr_a va af k) (sr_b bl k) n tc sc T S us ps am) ∧ va_S A s.heap H locs) (fun k ls H locs hkk hI ihk => ?_) 0 ls _ _ (Nat.zero_le _) ⟨(lv_sub hl [0, 1] rfl), hP, hD, hS⟩
  obtain ⟨hl, hP, hD, hS⟩ := hI
  refine lv_iload_n hx hb dX1_startRows_2 rfl (lv_at hl 0 rfl) ?_
  refine lv_sipush (v := nI 300) hx hb dX1_startRows_3 (by decide) ?_
  refine lv_icmp_ge (tgt := 34) hx hb dX1_startRows_6 (by decide) (fun c1 => ?_) (fun c1 => ?_)
  · have c1 : 300 ≤ k := (nI_leI (by omega) (by omega)).mp c1
    rw [show k = 300 by omega] at hP hD
    exact W.vret hx hb hr (fun t ht _ => ⟨⟨(), rfl, trivial, by rw [ht]; exact hP, hD⟩, hS.F ht⟩) hS.2.2 dX1_startRows_34
  · have c1 : ¬ 300 ≤ k := fun z9 => c1 ((nI_leI (by omega) (by omega)).mpr z9)
    refine lv_aload_n hx hb dX1_startRows_9 rfl (lv_at hl 1 rfl) ?_
    refine gD_after C hP dX1_startRows_10 ?_
    refine lv_iload_n hx hb dX1_startRows_13 rfl (lv_at hl 0 rfl) ?_
    refine lv_aload_n hx hb dX1_startRows_14 rfl (lv_at hl 1 rfl) ?_
    refine gD_values C hP dX1_startRows_15 ?_
    refine lv_iload_n hx hb dX1_startRows_18 rfl (lv_at hl 0 rfl) ?_
    refine lD_values C hP (by omega) dX1_startRows_19 ?_
    refine sD_after (x := va k) C hP hD hS (by omega) dX1_startRows_20 (fun H locs hP hD hS => ?_)
    refine lv_aload_n hx hb dX1_startRows_21 rfl (lv_at hl 1 rfl) ?_
    refine gD_blocked C hP dX1_startRows_22 ?_
    refine lv_iload_n hx hb dX1_startRows_25 rfl (lv_at hl 0 rfl) ?_
    refine lv_iconst (v := nI 0) hx hb dX1_startRows_26 (by decide) ?_
    refine tp_i (y := bI false) (b0 rfl) ?_
    refine sD_blocked (x := false) C hP hD hS (by omega) dX1_startRows_27 (fun H locs hP hD hS => ?_)
    refine lv_iinc (v := nI (k + 1)) (lv' := [(1, .int (nI (k + 1))), (0, .ref (o 0))]) hx hb dX1_startRows_28 hl (k := 0) rfl (nI_1 k) (by decide) rfl (fun ls hl => ?_)
    refine lv_goto (tgt := 2) hx hb dX1_startRows_31 (by decide) ?_
    have e_af : (sr_a va af (k + 1)) = (va_up (sr_a va af k) k (va k)) := rfl
    rw [← e_af] at hP hD
    have e_bl : (sr_b bl (k + 1)) = (va_up (sr_b bl k) k false) := rfl
    rw [← e_bl] at hP hD
    exact ihk (by omega) ls _ _ ⟨(lv_sub hl [0, 1] rfl), hP, hD, hS⟩
set_option maxHeartbeats 1000000 in
set_option maxRecDepth 100000 in
theorem cD_giveAll (l : Launch) (hP : va_P D vwCl (dW R o K ad va fl af bl n tc sc T S us ps am) H) (hD : va_D A (dW R o K ad va fl af bl n tc sc T S us ps am)) (hn200 : n ≤ 200) (hu : ∀ i, i < n → us i ≤ 16) (hp : ∀ i k, i < n → k < us i → ps i k < 300) : Met l yX1_giveAll (tC yX1_giveAll cX1_giveAll 4 none) (rmK 0 0 0) (kP D K H [.ref (o 0)]) (qV D A (fun u : Unit => True) (fun u : Unit => dW R o K ad va fl (gv_out us ps am S af n) bl n tc sc T S us ps am)) 0 0 A := by
  refine Met.ofW (cc := cX1_giveAll) (maxL := 4) (ret := none) (by decide) rfl ?_
  intro p e s m args below meth c s₁ B hml hv
  obtain ⟨rfl, hH, hK, hN, hO⟩ := hv
  have hx := B.exec
  have hb := B.bytes
  have hr := B.returns
  have hts : ∀ w ∈ tT, w.before _ s = true := fun w h => atoms_spec (ws := tC yX1_giveAll cX1_giveAll 4 none) B.pre w (List.mem_cons_of_mem _ h)
  have hown : s.vm.findClass RX1 = some m.cls := findClass_of_methodNamed B.named
  have hlocks := B.notSynchronized
  have C : cx RX1 D K p s m _ c cX1_giveAll := ⟨hx, hb, hown, hts, hK, hN, hO⟩
  have hR : rmOk (headSpec (tC yX1_giveAll cX1_giveAll 4 none) (rmK 0 0 0)).room 0 0 0 := ⟨Nat.le_refl _, Nat.le_refl _, Nat.le_refl _, Nat.le_refl _⟩
  subst hH
  have hS : va_S A s.heap s.heap [] := va_S.rf
  have hl := lv_entry ([.ref (o 0)]) (n := 4) (Nat.le_of_ble_eq_true rfl)
  rw [lg_entry_eq]
  generalize (lg_sl ([.ref (o 0)]) ++ List.replicate (4 - (lg_sl ([.ref (o 0)])).length) Slot.unset).toArray = ls at hl ⊢
  have hl : lv_has ls 4 [(0, .ref (o 0))] := hl
  refine lv_iconst (v := nI 0) hx hb dX1_giveAll_0 (by decide) ?_
  refine lv_istore_n (lv' := [(1, .int (nI 0)), (0, .ref (o 0))]) hx hb dX1_giveAll_1 rfl hl (by decide) rfl (fun ls hl => ?_)
  refine lpM (U := n) (pcH := 2) (I := fun i ls H locs => lv_has ls 4 [(1, .int (nI i)), (0, .ref (o 0))] ∧ va_P D vwCl (dW R o K ad va fl (gv_out us ps am S af i) bl n tc sc T S us ps am) H ∧ va_D A (dW R o K ad va fl (gv_out us ps am S af i) bl n tc sc T S us ps am) ∧ va_S A s.heap H locs) (fun i ls H locs hki hI ihi => ?_) 0 ls _ _ (Nat.zero_le _) ⟨(lv_sub hl [0, 1] rfl), hP, hD, hS⟩
  obtain ⟨hl, hP, hD, hS⟩ := hI
  refine lv_iload_n hx hb dX1_giveAll_2 rfl (lv_at hl 0 rfl) ?_
  refine lv_aload_n hx hb dX1_giveAll_3 rfl (lv_at hl 1 rfl) ?_
  refine gD_itemCount C hP dX1_giveAll_4 ?_
  refine lv_icmp_ge (tgt := 84) hx hb dX1_giveAll_7 (by decide) (fun c1 => ?_) (fun c1 => ?_)
  · have c1 : n ≤ i := (nI_leI (by omega) (by omega)).mp c1
    rw [show i = n by omega] at hP hD
    exact W.vret hx hb hr (fun t ht _ => ⟨⟨(), rfl, trivial, by rw [ht]; exact hP, hD⟩, hS.F ht⟩) hS.2.2 dX1_giveAll_84
  · have c1 : ¬ n ≤ i := fun z9 => c1 ((nI_leI (by omega) (by omega)).mpr z9)
    refine lv_aload_n hx hb dX1_giveAll_10 rfl (lv_at hl 1 rfl) ?_
    refine gD_items C hP dX1_giveAll_11 ?_
    refine lv_iload_n hx hb dX1_giveAll_14 rfl (lv_at hl 0 rfl) ?_
    refine lD_items C hP hn200 (by omega) dX1_giveAll_15 ?_
    refine lv_astore_n (lv' := [(2, .ref ((ad i).1)), (1, .int (nI i)), (0, .ref (o 0))]) hx hb dX1_giveAll_16 rfl hl (by decide) rfl (fun ls hl => ?_)
    refine lv_aload_n hx hb dX1_giveAll_17 rfl (lv_at hl 0 rfl) ?_
    refine lv_ifnull hx hb dX1_giveAll_18 ?_
    refine lv_aload_n hx hb dX1_giveAll_21 rfl (lv_at hl 0 rfl) ?_
    refine gDI_inSet C hP (by omega) dX1_giveAll_22 ?_
    refine lv_if_ne (tgt := 31) hx hb dX1_giveAll_25 (by decide) (fun c2 => ?_) (fun c2 => ?_)
    · have c2 : (S i) = true := (bI_nz (S i)).mp c2
      have hui := hu i (by omega)
      refine lv_iconst (v := nI 0) hx hb dX1_giveAll_31 (by decide) ?_
      refine lv_istore_n (lv' := [(3, .int (nI 0)), (2, .ref ((ad i).1)), (1, .int (nI i)), (0, .ref (o 0))]) hx hb dX1_giveAll_32 rfl hl (by decide) rfl (fun ls hl => ?_)
      refine lpM (U := us i) (pcH := 33) (I := fun k ls H locs => lv_has ls 4 [(3, .int (nI k)), (2, .ref ((ad i).1)), (1, .int (nI i)), (0, .ref (o 0))] ∧ va_P D vwCl (dW R o K ad va fl (gv_in (ps i) (am i) (gv_out us ps am S af i) k) bl n tc sc T S us ps am) H ∧ va_D A (dW R o K ad va fl (gv_in (ps i) (am i) (gv_out us ps am S af i) k) bl n tc sc T S us ps am) ∧ va_S A s.heap H locs) (fun k ls H locs hkk hI ihk => ?_) 0 ls _ _ (Nat.zero_le _) ⟨(lv_sub hl [0, 1, 2, 3] rfl), hP, hD, hS⟩
      obtain ⟨hl, hP, hD, hS⟩ := hI
      refine lv_iload_n hx hb dX1_giveAll_33 rfl (lv_at hl 0 rfl) ?_
      refine lv_aload_n hx hb dX1_giveAll_34 rfl (lv_at hl 1 rfl) ?_
      refine gDI_used C hP (by omega) dX1_giveAll_35 ?_
      refine lv_icmp_ge (tgt := 78) hx hb dX1_giveAll_38 (by decide) (fun c3 => ?_) (fun c3 => ?_)
      · have c3 : (us i) ≤ k := (nI_leI (by omega) (by omega)).mp c3
        rw [show k = us i by omega] at hP hD
        refine lv_iinc (v := nI (i + 1)) (lv' := [(1, .int (nI (i + 1))), (3, .int (nI k)), (2, .ref ((ad i).1)), (0, .ref (o 0))]) hx hb dX1_giveAll_78 hl (k := 2) rfl (nI_1 i) (by decide) rfl (fun ls hl => ?_)
        refine lv_goto (tgt := 2) hx hb dX1_giveAll_81 (by decide) ?_
        have e_af : (gv_out us ps am S af (i + 1)) = (gv_in (ps i) (am i) (gv_out us ps am S af i) (us i)) := if_pos c2
        rw [← e_af] at hP hD
        exact ihi (by omega) ls _ _ ⟨(lv_sub hl [0, 3] rfl), hP, hD, hS⟩
      · have c3 : ¬ (us i) ≤ k := fun z9 => c3 ((nI_leI (by omega) (by omega)).mpr z9)
        have hpk := hp i k (by omega) (by omega)
        refine lv_aload_n hx hb dX1_giveAll_41 rfl (lv_at hl 1 rfl) ?_
        refine gDI_amounts C hP (by omega) dX1_giveAll_42 ?_
        refine lv_iload_n hx hb dX1_giveAll_45 rfl (lv_at hl 0 rfl) ?_
        refine lI_amounts C hP (by omega) (by omega) dX1_giveAll_46 ?_
        refine lv_lconst (v := 0) hx hb dX1_giveAll_47 (by decide) ?_
        refine W.lcmp hx hb dX1_giveAll_48 ?_
        refine lv_if_le (tgt := 72) hx hb dX1_giveAll_49 (by decide) (fun c4 => ?_) (fun c4 => ?_)
        · have c4 : (am i k) ≤ 0 := (lg_cmp_le (am i k) 0).mp c4
          refine lv_iinc (v := nI (k + 1)) (lv' := [(3, .int (nI (k + 1))), (2, .ref ((ad i).1)), (1, .int (nI i)), (0, .ref (o 0))]) hx hb dX1_giveAll_72 hl (k := 0) rfl (nI_1 k) (by decide) rfl (fun ls hl => ?_)
          refine lv_goto (tgt := 33) hx hb dX1_giveAll_75 (by decide) ?_
          have e_af : (gv_in (ps i) (am i) (gv_out us ps am S af i) (k + 1)) = (gv_in (ps i) (am i) (gv_out us ps am S af i) k) := if_neg (i64_le_nlt c4)
          rw [← e_af] at hP hD
          exact ihk (by omega) ls _ _ ⟨(lv_sub hl [0, 1, 2, 3] rfl), hP, hD, hS⟩
        · have c4 : ¬ (am i k) ≤ 0 := fun z9 => c4 ((lg_cmp_le (am i k) 0).mpr z9)
          refine lv_aload_n hx hb dX1_giveAll_52 rfl (lv_at hl 3 rfl) ?_
          refine gD_after C hP dX1_giveAll_53 ?_
          refine lv_aload_n hx hb dX1_giveAll_56 rfl (lv_at hl 1 rfl) ?_
          refine gDI_positions C hP (by omega) dX1_giveAll_57 ?_
          refine lv_iload_n hx hb dX1_giveAll_60 rfl (lv_at hl 0 rfl) ?_
          refine lI_positions C hP (by omega) (by omega) dX1_giveAll_61 ?_
          refine lv_dup2_11 hx hb dX1_giveAll_62 rfl rfl ?_
          refine lD_after C hP (by omega) dX1_giveAll_63 ?_
          refine lv_aload_n hx hb dX1_giveAll_64 rfl (lv_at hl 1 rfl) ?_
          refine gDI_amounts C hP (by omega) dX1_giveAll_65 ?_
          refine lv_iload_n hx hb dX1_giveAll_68 rfl (lv_at hl 0 rfl) ?_
          refine lI_amounts C hP (by omega) (by omega) dX1_giveAll_69 ?_
          refine lv_ladd hx hb dX1_giveAll_70 ?_
          refine sD_after (x := ((gv_in (ps i) (am i) (gv_out us ps am S af i) k) (ps i k)) + (am i k)) C hP hD hS hpk dX1_giveAll_71 (fun H locs hP hD hS => ?_)
          refine lv_iinc (v := nI (k + 1)) (lv' := [(3, .int (nI (k + 1))), (2, .ref ((ad i).1)), (1, .int (nI i)), (0, .ref (o 0))]) hx hb dX1_giveAll_72 hl (k := 0) rfl (nI_1 k) (by decide) rfl (fun ls hl => ?_)
          refine lv_goto (tgt := 33) hx hb dX1_giveAll_75 (by decide) ?_
          have e_af : (gv_in (ps i) (am i) (gv_out us ps am S af i) (k + 1)) = (va_up (gv_in (ps i) (am i) (gv_out us ps am S af i) k) (ps i k) (((gv_in (ps i) (am i) (gv_out us ps am S af i) k) (ps i k)) + (am i k))) := if_pos (i64_nle c4)
          rw [← e_af] at hP hD
          exact ihk (by omega) ls _ _ ⟨(lv_sub hl [0, 1, 2, 3] rfl), hP, hD, hS⟩
    · have c2 : (S i) = false := (bI_z (S i)).mp c2
      refine lv_goto (tgt := 78) hx hb dX1_giveAll_28 (by decide) ?_
      refine lv_iinc (v := nI (i + 1)) (lv' := [(1, .int (nI (i + 1))), (2, .ref ((ad i).1)), (0, .ref (o 0))]) hx hb dX1_giveAll_78 hl (k := 1) rfl (nI_1 i) (by decide) rfl (fun ls hl => ?_)
      refine lv_goto (tgt := 2) hx hb dX1_giveAll_81 (by decide) ?_
      have e_af : (gv_out us ps am S af (i + 1)) = (gv_out us ps am S af i) := if_neg (by rw [c2]; decide)
      rw [← e_af] at hP hD
      exact ihi (by omega) ls _ _ ⟨(lv_sub hl [0, 2] rfl), hP, hD, hS⟩
set_option maxHeartbeats 1000000 in
set_option maxRecDepth 100000 in
theorem cD_canTake (l : Launch) (hP : va_P D vwCl (dW R o K ad va fl af bl n tc sc T S us ps am) H) {i : Nat} (hi : i < n) (hui : us i ≤ 16) (hp : ∀ k, k < us i → ps i k < 300) : Met l yX1_canTake (tC yX1_canTake cX1_canTake 6 (some .boolean)) (rmK 0 0 0) (kP D K H [.ref (o 0), .ref ((ad i).1)]) (k2_QcV (.int (bI (ct (ps i) (am i) (us i) fl af bl)))) 0 0 (fun _ => False) := by
  refine Met.ofW (cc := cX1_canTake) (maxL := 6) (ret := (some .boolean)) (by decide) rfl ?_
  intro p e s m args below meth c s₁ B hml hv
  obtain ⟨rfl, hH, hK, hN, hO⟩ := hv
  have hx := B.exec
  have hb := B.bytes
  have hr := B.returns
  have hts : ∀ w ∈ tT, w.before _ s = true := fun w h => atoms_spec (ws := tC yX1_canTake cX1_canTake 6 (some .boolean)) B.pre w (List.mem_cons_of_mem _ h)
  have hown : s.vm.findClass RX1 = some m.cls := findClass_of_methodNamed B.named
  have hlocks := B.notSynchronized
  have C : cx RX1 D K p s m _ c cX1_canTake := ⟨hx, hb, hown, hts, hK, hN, hO⟩
  have hR : rmOk (headSpec (tC yX1_canTake cX1_canTake 6 (some .boolean)) (rmK 0 0 0)).room 0 0 0 := ⟨Nat.le_refl _, Nat.le_refl _, Nat.le_refl _, Nat.le_refl _⟩
  subst hH
  have hl := lv_entry ([.ref (o 0), .ref ((ad i).1)]) (n := 6) (Nat.le_of_ble_eq_true rfl)
  rw [lg_entry_eq]
  generalize (lg_sl ([.ref (o 0), .ref ((ad i).1)]) ++ List.replicate (6 - (lg_sl ([.ref (o 0), .ref ((ad i).1)])).length) Slot.unset).toArray = ls at hl ⊢
  have hl : lv_has ls 6 [(0, .ref (o 0)), (1, .ref ((ad i).1))] := hl
  refine lv_iconst (v := nI 0) hx hb dX1_canTake_0 (by decide) ?_
  refine lv_istore_n (lv' := [(2, .int (nI 0)), (0, .ref (o 0)), (1, .ref ((ad i).1))]) hx hb dX1_canTake_1 rfl hl (by decide) rfl (fun ls hl => ?_)
  refine lpW (U := us i) (pcH := 2) (I := fun k ls => lv_has ls 6 [(2, .int (nI k)), (0, .ref (o 0)), (1, .ref ((ad i).1))] ∧ ∀ j, j < k → ct_at (ps i) (am i) fl af bl j = false) (fun k ls hkk hI ihk => ?_) 0 ls (Nat.zero_le _) ⟨(lv_sub hl [0, 1, 2] rfl), fun j hj => absurd hj (Nat.not_lt_zero j)⟩
  obtain ⟨hl, hm⟩ := hI
  refine lv_iload_n hx hb dX1_canTake_2 rfl (lv_at hl 0 rfl) ?_
  refine lv_aload_n hx hb dX1_canTake_3 rfl (lv_at hl 2 rfl) ?_
  refine gDI_used C hP hi dX1_canTake_4 ?_
  refine lv_icmp_ge (tgt := 68) hx hb dX1_canTake_7 (by decide) (fun c1 => ?_) (fun c1 => ?_)
  · have c1 : (us i) ≤ k := (nI_leI (by omega) (by omega)).mp c1
    refine lv_iconst (v := nI 1) hx hb dX1_canTake_68 (by decide) ?_
    exact W.zret (v := nI 1) hx hb hr (by decide) (fun t ht _ => ⟨rt1 (ct_yes (fun j hj => hm j (by omega))), ht⟩) (fun q h => by cases h) dX1_canTake_69
  · have c1 : ¬ (us i) ≤ k := fun z9 => c1 ((nI_leI (by omega) (by omega)).mpr z9)
    have hpk := hp k (by omega)
    refine lv_aload_n hx hb dX1_canTake_10 rfl (lv_at hl 2 rfl) ?_
    refine gDI_positions C hP hi dX1_canTake_11 ?_
    refine lv_iload_n hx hb dX1_canTake_14 rfl (lv_at hl 0 rfl) ?_
    refine lI_positions C hP hi (by omega) dX1_canTake_15 ?_
    refine lv_istore_n (lv' := [(3, .int (nI (ps i k))), (2, .int (nI k)), (0, .ref (o 0)), (1, .ref ((ad i).1))]) hx hb dX1_canTake_16 rfl hl (by decide) rfl (fun ls hl => ?_)
    refine lv_aload_n hx hb dX1_canTake_17 rfl (lv_at hl 3 rfl) ?_
    refine gDI_amounts C hP hi dX1_canTake_18 ?_
    refine lv_iload_n hx hb dX1_canTake_21 rfl (lv_at hl 1 rfl) ?_
    refine lI_amounts C hP hi (by omega) dX1_canTake_22 ?_
    refine lv_lstore (lv' := [(4, .long (am i k)), (3, .int (nI (ps i k))), (2, .int (nI k)), (0, .ref (o 0)), (1, .ref ((ad i).1))]) hx hb dX1_canTake_23 hl (by decide) rfl (fun ls hl => ?_)
    refine lv_lload hx hb dX1_canTake_25 (lv_at hl 0 rfl) ?_
    refine lv_lconst (v := 0) hx hb dX1_canTake_27 (by decide) ?_
    refine W.lcmp hx hb dX1_canTake_28 ?_
    refine lv_if_ge (tgt := 62) hx hb dX1_canTake_29 (by decide) (fun c2 => ?_) (fun c2 => ?_)
    · have c2 : 0 ≤ (am i k) := (lg_cmp_ge (am i k) 0).mp c2
      refine lv_iinc (v := nI (k + 1)) (lv' := [(2, .int (nI (k + 1))), (4, .long (am i k)), (3, .int (nI (ps i k))), (0, .ref (o 0)), (1, .ref ((ad i).1))]) hx hb dX1_canTake_62 hl (k := 2) rfl (nI_1 k) (by decide) rfl (fun ls hl => ?_)
      refine lv_goto (tgt := 2) hx hb dX1_canTake_65 (by decide) ?_
      exact ihk (by omega) ls ⟨(lv_sub hl [0, 3, 4] rfl), lt_s' hm (ct_0 (i64_le_nlt c2))⟩
    · have c2 : ¬ 0 ≤ (am i k) := fun z9 => c2 ((lg_cmp_ge (am i k) 0).mpr z9)
      have c2 := i64_nle c2
      refine lv_aload_n hx hb dX1_canTake_32 rfl (lv_at hl 3 rfl) ?_
      refine gD_blocked C hP dX1_canTake_33 ?_
      refine lv_iload_n hx hb dX1_canTake_36 rfl (lv_at hl 1 rfl) ?_
      refine lD_blocked C hP (by omega) dX1_canTake_37 ?_
      refine lv_if_ne (tgt := 60) hx hb dX1_canTake_38 (by decide) (fun c3 => ?_) (fun c3 => ?_)
      · have c3 : (bl (ps i k)) = true := (bI_nz (bl (ps i k))).mp c3
        refine lv_iconst (v := nI 0) hx hb dX1_canTake_60 (by decide) ?_
        exact W.zret (v := nI 0) hx hb hr (by decide) (fun t ht _ => ⟨rt0 (ct_no (by omega) (ct_1 c2 c3)), ht⟩) (fun q h => by cases h) dX1_canTake_61
      · have c3 : (bl (ps i k)) = false := (bI_z (bl (ps i k))).mp c3
        refine lv_aload_n hx hb dX1_canTake_41 rfl (lv_at hl 3 rfl) ?_
        refine gD_after C hP dX1_canTake_42 ?_
        refine lv_iload_n hx hb dX1_canTake_45 rfl (lv_at hl 1 rfl) ?_
        refine lD_after C hP (by omega) dX1_canTake_46 ?_
        refine lv_lload hx hb dX1_canTake_47 (lv_at hl 0 rfl) ?_
        refine lv_ladd hx hb dX1_canTake_49 ?_
        refine lv_aload_n hx hb dX1_canTake_50 rfl (lv_at hl 3 rfl) ?_
        refine gD_floors C hP dX1_canTake_51 ?_
        refine lv_iload_n hx hb dX1_canTake_54 rfl (lv_at hl 1 rfl) ?_
        refine lD_floors C hP (by omega) dX1_canTake_55 ?_
        refine W.lcmp hx hb dX1_canTake_56 ?_
        refine lv_if_ge (tgt := 62) hx hb dX1_canTake_57 (by decide) (fun c4 => ?_) (fun c4 => ?_)
        · have c4 : (fl (ps i k)) ≤ ((af (ps i k)) + (am i k)) := (lg_cmp_ge ((af (ps i k)) + (am i k)) (fl (ps i k))).mp c4
          refine lv_iinc (v := nI (k + 1)) (lv' := [(2, .int (nI (k + 1))), (4, .long (am i k)), (3, .int (nI (ps i k))), (0, .ref (o 0)), (1, .ref ((ad i).1))]) hx hb dX1_canTake_62 hl (k := 2) rfl (nI_1 k) (by decide) rfl (fun ls hl => ?_)
          refine lv_goto (tgt := 2) hx hb dX1_canTake_65 (by decide) ?_
          exact ihk (by omega) ls ⟨(lv_sub hl [0, 3, 4] rfl), lt_s' hm (ct_3 c3 (i64_le_nlt c4))⟩
        · have c4 : ¬ (fl (ps i k)) ≤ ((af (ps i k)) + (am i k)) := fun z9 => c4 ((lg_cmp_ge ((af (ps i k)) + (am i k)) (fl (ps i k))).mpr z9)
          refine lv_iconst (v := nI 0) hx hb dX1_canTake_60 (by decide) ?_
          exact W.zret (v := nI 0) hx hb hr (by decide) (fun t ht _ => ⟨rt0 (ct_no (by omega) (ct_2 c2 (i64_nle c4))), ht⟩) (fun q h => by cases h) dX1_canTake_61
set_option maxHeartbeats 1000000 in
set_option maxRecDepth 100000 in
theorem cD_take (l : Launch) (hP : va_P D vwCl (dW R o K ad va fl af bl n tc sc T S us ps am) H) (hD : va_D A (dW R o K ad va fl af bl n tc sc T S us ps am)) {i : Nat} (hi : i < n) (hui : us i ≤ 16) (hp : ∀ k, k < us i → ps i k < 300) : Met l yX1_take (tC yX1_take cX1_take 3 none) (rmK 0 0 0) (kP D K H [.ref (o 0), .ref ((ad i).1)]) (qV D A (fun u : Unit => True) (fun u : Unit => dW R o K ad va fl (tk_in (ps i) (am i) af (us i)) bl n tc sc T S us ps am)) 0 0 A := by
  refine Met.ofW (cc := cX1_take) (maxL := 3) (ret := none) (by decide) rfl ?_
  intro p e s m args below meth c s₁ B hml hv
  obtain ⟨rfl, hH, hK, hN, hO⟩ := hv
  have hx := B.exec
  have hb := B.bytes
  have hr := B.returns
  have hts : ∀ w ∈ tT, w.before _ s = true := fun w h => atoms_spec (ws := tC yX1_take cX1_take 3 none) B.pre w (List.mem_cons_of_mem _ h)
  have hown : s.vm.findClass RX1 = some m.cls := findClass_of_methodNamed B.named
  have hlocks := B.notSynchronized
  have C : cx RX1 D K p s m _ c cX1_take := ⟨hx, hb, hown, hts, hK, hN, hO⟩
  have hR : rmOk (headSpec (tC yX1_take cX1_take 3 none) (rmK 0 0 0)).room 0 0 0 := ⟨Nat.le_refl _, Nat.le_refl _, Nat.le_refl _, Nat.le_refl _⟩
  subst hH
  have hS : va_S A s.heap s.heap [] := va_S.rf
  have hl := lv_entry ([.ref (o 0), .ref ((ad i).1)]) (n := 3) (Nat.le_of_ble_eq_true rfl)
  rw [lg_entry_eq]
  generalize (lg_sl ([.ref (o 0), .ref ((ad i).1)]) ++ List.replicate (3 - (lg_sl ([.ref (o 0), .ref ((ad i).1)])).length) Slot.unset).toArray = ls at hl ⊢
  have hl : lv_has ls 3 [(0, .ref (o 0)), (1, .ref ((ad i).1))] := hl
  refine lv_iconst (v := nI 0) hx hb dX1_take_0 (by decide) ?_
  refine lv_istore_n (lv' := [(2, .int (nI 0)), (0, .ref (o 0)), (1, .ref ((ad i).1))]) hx hb dX1_take_1 rfl hl (by decide) rfl (fun ls hl => ?_)
  refine lpM (U := us i) (pcH := 2) (I := fun k ls H locs => lv_has ls 3 [(2, .int (nI k)), (0, .ref (o 0)), (1, .ref ((ad i).1))] ∧ va_P D vwCl (dW R o K ad va fl (tk_in (ps i) (am i) af k) bl n tc sc T S us ps am) H ∧ va_D A (dW R o K ad va fl (tk_in (ps i) (am i) af k) bl n tc sc T S us ps am) ∧ va_S A s.heap H locs) (fun k ls H locs hkk hI ihk => ?_) 0 ls _ _ (Nat.zero_le _) ⟨(lv_sub hl [0, 1, 2] rfl), hP, hD, hS⟩
  obtain ⟨hl, hP, hD, hS⟩ := hI
  refine lv_iload_n hx hb dX1_take_2 rfl (lv_at hl 0 rfl) ?_
  refine lv_aload_n hx hb dX1_take_3 rfl (lv_at hl 2 rfl) ?_
  refine gDI_used C hP hi dX1_take_4 ?_
  refine lv_icmp_ge (tgt := 47) hx hb dX1_take_7 (by decide) (fun c1 => ?_) (fun c1 => ?_)
  · have c1 : (us i) ≤ k := (nI_leI (by omega) (by omega)).mp c1
    rw [show k = us i by omega] at hP hD
    exact W.vret hx hb hr (fun t ht _ => ⟨⟨(), rfl, trivial, by rw [ht]; exact hP, hD⟩, hS.F ht⟩) hS.2.2 dX1_take_47
  · have c1 : ¬ (us i) ≤ k := fun z9 => c1 ((nI_leI (by omega) (by omega)).mpr z9)
    have hpk := hp k (by omega)
    refine lv_aload_n hx hb dX1_take_10 rfl (lv_at hl 2 rfl) ?_
    refine gDI_amounts C hP hi dX1_take_11 ?_
    refine lv_iload_n hx hb dX1_take_14 rfl (lv_at hl 0 rfl) ?_
    refine lI_amounts C hP hi (by omega) dX1_take_15 ?_
    refine lv_lconst (v := 0) hx hb dX1_take_16 (by decide) ?_
    refine W.lcmp hx hb dX1_take_17 ?_
    refine lv_if_ge (tgt := 41) hx hb dX1_take_18 (by decide) (fun c2 => ?_) (fun c2 => ?_)
    · have c2 : 0 ≤ (am i k) := (lg_cmp_ge (am i k) 0).mp c2
      refine lv_iinc (v := nI (k + 1)) (lv' := [(2, .int (nI (k + 1))), (0, .ref (o 0)), (1, .ref ((ad i).1))]) hx hb dX1_take_41 hl (k := 0) rfl (nI_1 k) (by decide) rfl (fun ls hl => ?_)
      refine lv_goto (tgt := 2) hx hb dX1_take_44 (by decide) ?_
      have e_af : (tk_in (ps i) (am i) af (k + 1)) = (tk_in (ps i) (am i) af k) := if_neg (i64_le_nlt c2)
      rw [← e_af] at hP hD
      exact ihk (by omega) ls _ _ ⟨(lv_sub hl [0, 1, 2] rfl), hP, hD, hS⟩
    · have c2 : ¬ 0 ≤ (am i k) := fun z9 => c2 ((lg_cmp_ge (am i k) 0).mpr z9)
      refine lv_aload_n hx hb dX1_take_21 rfl (lv_at hl 1 rfl) ?_
      refine gD_after C hP dX1_take_22 ?_
      refine lv_aload_n hx hb dX1_take_25 rfl (lv_at hl 2 rfl) ?_
      refine gDI_positions C hP hi dX1_take_26 ?_
      refine lv_iload_n hx hb dX1_take_29 rfl (lv_at hl 0 rfl) ?_
      refine lI_positions C hP hi (by omega) dX1_take_30 ?_
      refine lv_dup2_11 hx hb dX1_take_31 rfl rfl ?_
      refine lD_after C hP (by omega) dX1_take_32 ?_
      refine lv_aload_n hx hb dX1_take_33 rfl (lv_at hl 2 rfl) ?_
      refine gDI_amounts C hP hi dX1_take_34 ?_
      refine lv_iload_n hx hb dX1_take_37 rfl (lv_at hl 0 rfl) ?_
      refine lI_amounts C hP hi (by omega) dX1_take_38 ?_
      refine lv_ladd hx hb dX1_take_39 ?_
      refine sD_after (x := ((tk_in (ps i) (am i) af k) (ps i k)) + (am i k)) C hP hD hS hpk dX1_take_40 (fun H locs hP hD hS => ?_)
      refine lv_iinc (v := nI (k + 1)) (lv' := [(2, .int (nI (k + 1))), (0, .ref (o 0)), (1, .ref ((ad i).1))]) hx hb dX1_take_41 hl (k := 0) rfl (nI_1 k) (by decide) rfl (fun ls hl => ?_)
      refine lv_goto (tgt := 2) hx hb dX1_take_44 (by decide) ?_
      have e_af : (tk_in (ps i) (am i) af (k + 1)) = (va_up (tk_in (ps i) (am i) af k) (ps i k) (((tk_in (ps i) (am i) af k) (ps i k)) + (am i k))) := if_pos (i64_nle c2)
      rw [← e_af] at hP hD
      exact ihk (by omega) ls _ _ ⟨(lv_sub hl [0, 1, 2] rfl), hP, hD, hS⟩
set_option maxHeartbeats 1000000 in
set_option maxRecDepth 100000 in
theorem cD_drop (l : Launch) (hP : va_P D vwCl (dW R o K ad va fl af bl n tc sc T S us ps am) H) (hD : va_D A (dW R o K ad va fl af bl n tc sc T S us ps am)) {i : Nat} (hi : i < n) (hui : us i ≤ 16) (hp : ∀ k, k < us i → ps i k < 300) (hsc : S i = true → 0 < sc) : Met l yX1_drop (tC yX1_drop cX1_drop 3 none) (rmK 0 0 0) (kP D K H [.ref (o 0), .ref ((ad i).1)]) (qV D A (fun u : Unit => True) (fun u : Unit => dW R o K ad va fl af (bk_in (ps i) (am i) bl (us i)) n tc (if S i = true then sc - 1 else sc) T (va_up S i false) us ps am)) 0 0 A := by
  refine Met.ofW (cc := cX1_drop) (maxL := 3) (ret := none) (by decide) rfl ?_
  intro p e s m args below meth c s₁ B hml hv
  obtain ⟨rfl, hH, hK, hN, hO⟩ := hv
  have hx := B.exec
  have hb := B.bytes
  have hr := B.returns
  have hts : ∀ w ∈ tT, w.before _ s = true := fun w h => atoms_spec (ws := tC yX1_drop cX1_drop 3 none) B.pre w (List.mem_cons_of_mem _ h)
  have hown : s.vm.findClass RX1 = some m.cls := findClass_of_methodNamed B.named
  have hlocks := B.notSynchronized
  have C : cx RX1 D K p s m _ c cX1_drop := ⟨hx, hb, hown, hts, hK, hN, hO⟩
  have hR : rmOk (headSpec (tC yX1_drop cX1_drop 3 none) (rmK 0 0 0)).room 0 0 0 := ⟨Nat.le_refl _, Nat.le_refl _, Nat.le_refl _, Nat.le_refl _⟩
  subst hH
  have hS : va_S A s.heap s.heap [] := va_S.rf
  have hl := lv_entry ([.ref (o 0), .ref ((ad i).1)]) (n := 3) (Nat.le_of_ble_eq_true rfl)
  rw [lg_entry_eq]
  generalize (lg_sl ([.ref (o 0), .ref ((ad i).1)]) ++ List.replicate (3 - (lg_sl ([.ref (o 0), .ref ((ad i).1)])).length) Slot.unset).toArray = ls at hl ⊢
  have hl : lv_has ls 3 [(0, .ref (o 0)), (1, .ref ((ad i).1))] := hl
  refine lv_iconst (v := nI 0) hx hb dX1_drop_0 (by decide) ?_
  refine lv_istore_n (lv' := [(2, .int (nI 0)), (0, .ref (o 0)), (1, .ref ((ad i).1))]) hx hb dX1_drop_1 rfl hl (by decide) rfl (fun ls hl => ?_)
  refine lpM (U := us i) (pcH := 2) (I := fun k ls H locs => lv_has ls 3 [(2, .int (nI k)), (0, .ref (o 0)), (1, .ref ((ad i).1))] ∧ va_P D vwCl (dW R o K ad va fl af (bk_in (ps i) (am i) bl k) n tc sc T S us ps am) H ∧ va_D A (dW R o K ad va fl af (bk_in (ps i) (am i) bl k) n tc sc T S us ps am) ∧ va_S A s.heap H locs) (fun k ls H locs hkk hI ihk => ?_) 0 ls _ _ (Nat.zero_le _) ⟨(lv_sub hl [0, 1, 2] rfl), hP, hD, hS⟩
  obtain ⟨hl, hP, hD, hS⟩ := hI
  refine lv_iload_n hx hb dX1_drop_2 rfl (lv_at hl 0 rfl) ?_
  refine lv_aload_n hx hb dX1_drop_3 rfl (lv_at hl 2 rfl) ?_
  refine gDI_used C hP hi dX1_drop_4 ?_
  refine lv_icmp_ge (tgt := 39) hx hb dX1_drop_7 (by decide) (fun c1 => ?_) (fun c1 => ?_)
  · have c1 : (us i) ≤ k := (nI_leI (by omega) (by omega)).mp c1
    rw [show k = us i by omega] at hP hD
    refine lv_aload_n hx hb dX1_drop_39 rfl (lv_at hl 2 rfl) ?_
    refine gDI_inSet C hP hi dX1_drop_40 ?_
    refine lv_if_eq (tgt := 61) hx hb dX1_drop_43 (by decide) (fun c3 => ?_) (fun c3 => ?_)
    · have c3 : (S i) = false := (bI_z (S i)).mp c3
      have e0 : va_up S i false = S := by
        have q := up_same S i
        rw [c3] at q
        exact q
      have e1 : dW R o K ad va fl af (bk_in (ps i) (am i) bl (us i)) n tc (if S i = true then sc - 1 else sc) T (va_up S i false) us ps am = dW R o K ad va fl af (bk_in (ps i) (am i) bl (us i)) n tc sc T S us ps am := by rw [e0, if_neg (by rw [c3]; decide)]
      rw [← e1] at hP hD
      exact W.vret hx hb hr (fun t ht _ => ⟨⟨(), rfl, trivial, by rw [ht]; exact hP, hD⟩, hS.F ht⟩) hS.2.2 dX1_drop_61
    · have c3 : (S i) = true := (bI_nz (S i)).mp c3
      refine lv_aload_n hx hb dX1_drop_46 rfl (lv_at hl 2 rfl) ?_
      refine lv_iconst (v := nI 0) hx hb dX1_drop_47 (by decide) ?_
      refine tp_i (y := bI false) (b0 rfl) ?_
      refine pDI_inSet C hP hD hS hi dX1_drop_48 (fun H locs hP hD hS => ?_)
      refine lv_aload_n hx hb dX1_drop_51 rfl (lv_at hl 1 rfl) ?_
      refine lv_dup hx hb dX1_drop_52 rfl ?_
      refine gD_setCount C hP dX1_drop_53 ?_
      refine lv_iconst (v := nI 1) hx hb dX1_drop_56 (by decide) ?_
      refine lv_isub hx hb dX1_drop_57 ?_
      have h0 := hsc c3
      refine tp_i (y := nI (sc - 1)) (pk_sub (by omega)) ?_
      refine pD_setCount C hP hD hS dX1_drop_58 (fun H locs hP hD hS => ?_)
      have e1 : dW R o K ad va fl af (bk_in (ps i) (am i) bl (us i)) n tc (if S i = true then sc - 1 else sc) T (va_up S i false) us ps am = dW R o K ad va fl af (bk_in (ps i) (am i) bl (us i)) n tc (sc - 1) T (va_up S i false) us ps am := by rw [if_pos c3]
      rw [← e1] at hP hD
      exact W.vret hx hb hr (fun t ht _ => ⟨⟨(), rfl, trivial, by rw [ht]; exact hP, hD⟩, hS.F ht⟩) hS.2.2 dX1_drop_61
  · have c1 : ¬ (us i) ≤ k := fun z9 => c1 ((nI_leI (by omega) (by omega)).mpr z9)
    have hpk := hp k (by omega)
    refine lv_aload_n hx hb dX1_drop_10 rfl (lv_at hl 2 rfl) ?_
    refine gDI_amounts C hP hi dX1_drop_11 ?_
    refine lv_iload_n hx hb dX1_drop_14 rfl (lv_at hl 0 rfl) ?_
    refine lI_amounts C hP hi (by omega) dX1_drop_15 ?_
    refine lv_lconst (v := 0) hx hb dX1_drop_16 (by decide) ?_
    refine W.lcmp hx hb dX1_drop_17 ?_
    refine lv_if_ge (tgt := 33) hx hb dX1_drop_18 (by decide) (fun c2 => ?_) (fun c2 => ?_)
    · have c2 : 0 ≤ (am i k) := (lg_cmp_ge (am i k) 0).mp c2
      refine lv_iinc (v := nI (k + 1)) (lv' := [(2, .int (nI (k + 1))), (0, .ref (o 0)), (1, .ref ((ad i).1))]) hx hb dX1_drop_33 hl (k := 0) rfl (nI_1 k) (by decide) rfl (fun ls hl => ?_)
      refine lv_goto (tgt := 2) hx hb dX1_drop_36 (by decide) ?_
      have e_bl : (bk_in (ps i) (am i) bl (k + 1)) = (bk_in (ps i) (am i) bl k) := if_neg (i64_le_nlt c2)
      rw [← e_bl] at hP hD
      exact ihk (by omega) ls _ _ ⟨(lv_sub hl [0, 1, 2] rfl), hP, hD, hS⟩
    · have c2 : ¬ 0 ≤ (am i k) := fun z9 => c2 ((lg_cmp_ge (am i k) 0).mpr z9)
      refine lv_aload_n hx hb dX1_drop_21 rfl (lv_at hl 1 rfl) ?_
      refine gD_blocked C hP dX1_drop_22 ?_
      refine lv_aload_n hx hb dX1_drop_25 rfl (lv_at hl 2 rfl) ?_
      refine gDI_positions C hP hi dX1_drop_26 ?_
      refine lv_iload_n hx hb dX1_drop_29 rfl (lv_at hl 0 rfl) ?_
      refine lI_positions C hP hi (by omega) dX1_drop_30 ?_
      refine lv_iconst (v := nI 1) hx hb dX1_drop_31 (by decide) ?_
      refine tp_i (y := bI true) (b1 rfl) ?_
      refine sD_blocked (x := true) C hP hD hS hpk dX1_drop_32 (fun H locs hP hD hS => ?_)
      refine lv_iinc (v := nI (k + 1)) (lv' := [(2, .int (nI (k + 1))), (0, .ref (o 0)), (1, .ref ((ad i).1))]) hx hb dX1_drop_33 hl (k := 0) rfl (nI_1 k) (by decide) rfl (fun ls hl => ?_)
      refine lv_goto (tgt := 2) hx hb dX1_drop_36 (by decide) ?_
      have e_bl : (bk_in (ps i) (am i) bl (k + 1)) = (va_up (bk_in (ps i) (am i) bl k) (ps i k) true) := if_pos (i64_nle c2)
      rw [← e_bl] at hP hD
      exact ihk (by omega) ls _ _ ⟨(lv_sub hl [0, 1, 2] rfl), hP, hD, hS⟩
set_option maxHeartbeats 1000000 in
set_option maxRecDepth 100000 in
theorem cD_valuesFit (l : Launch) (hP : va_P D vwCl (dW R o K ad va fl af bl n tc sc T S us ps am) H)  : Met l yX1_valuesFit (tC yX1_valuesFit cX1_valuesFit 2 (some .boolean)) (rmK 0 0 0) (kP D K H [.ref (o 0)]) (k2_QcV (.int (bI (vfB af)))) 0 0 (fun _ => False) := by
  refine Met.ofW (cc := cX1_valuesFit) (maxL := 2) (ret := (some .boolean)) (by decide) rfl ?_
  intro p e s m args below meth c s₁ B hml hv
  obtain ⟨rfl, hH, hK, hN, hO⟩ := hv
  have hx := B.exec
  have hb := B.bytes
  have hr := B.returns
  have hts : ∀ w ∈ tT, w.before _ s = true := fun w h => atoms_spec (ws := tC yX1_valuesFit cX1_valuesFit 2 (some .boolean)) B.pre w (List.mem_cons_of_mem _ h)
  have hown : s.vm.findClass RX1 = some m.cls := findClass_of_methodNamed B.named
  have hlocks := B.notSynchronized
  have C : cx RX1 D K p s m _ c cX1_valuesFit := ⟨hx, hb, hown, hts, hK, hN, hO⟩
  have hR : rmOk (headSpec (tC yX1_valuesFit cX1_valuesFit 2 (some .boolean)) (rmK 0 0 0)).room 0 0 0 := ⟨Nat.le_refl _, Nat.le_refl _, Nat.le_refl _, Nat.le_refl _⟩
  subst hH
  have hl := lv_entry ([.ref (o 0)]) (n := 2) (Nat.le_of_ble_eq_true rfl)
  rw [lg_entry_eq]
  generalize (lg_sl ([.ref (o 0)]) ++ List.replicate (2 - (lg_sl ([.ref (o 0)])).length) Slot.unset).toArray = ls at hl ⊢
  have hl : lv_has ls 2 [(0, .ref (o 0))] := hl
  refine lv_iconst (v := nI 0) hx hb dX1_valuesFit_0 (by decide) ?_
  refine lv_istore_n (lv' := [(1, .int (nI 0)), (0, .ref (o 0))]) hx hb dX1_valuesFit_1 rfl hl (by decide) rfl (fun ls hl => ?_)
  refine lpW (U := 300) (pcH := 2) (I := fun k ls => lv_has ls 2 [(1, .int (nI k)), (0, .ref (o 0))] ∧ ∀ j, j < k → ¬ 1000000000000000000 < af j) (fun k ls hkk hI ihk => ?_) 0 ls (Nat.zero_le _) ⟨(lv_sub hl [0, 1] rfl), fun j hj => absurd hj (Nat.not_lt_zero j)⟩
  obtain ⟨hl, hm⟩ := hI
  refine lv_iload_n hx hb dX1_valuesFit_2 rfl (lv_at hl 0 rfl) ?_
  refine lv_sipush (v := nI 300) hx hb dX1_valuesFit_3 (by decide) ?_
  refine lv_icmp_ge (tgt := 30) hx hb dX1_valuesFit_6 (by decide) (fun c1 => ?_) (fun c1 => ?_)
  · have c1 : 300 ≤ k := (nI_leI (by omega) (by omega)).mp c1
    refine lv_iconst (v := nI 1) hx hb dX1_valuesFit_30 (by decide) ?_
    exact W.zret (v := nI 1) hx hb hr (by decide) (fun t ht _ => ⟨rt1 (decide_eq_true (fun j hj => decide_eq_false (hm j (by omega)))), ht⟩) (fun q h => by cases h) dX1_valuesFit_31
  · have c1 : ¬ 300 ≤ k := fun z9 => c1 ((nI_leI (by omega) (by omega)).mpr z9)
    refine lv_aload_n hx hb dX1_valuesFit_9 rfl (lv_at hl 1 rfl) ?_
    refine gD_after C hP dX1_valuesFit_10 ?_
    refine lv_iload_n hx hb dX1_valuesFit_13 rfl (lv_at hl 0 rfl) ?_
    refine lD_after C hP (by omega) dX1_valuesFit_14 ?_
    refine lv_ldc2 (v := 1000000000000000000) hx hb hown (hts _ (by decide +kernel : Cond.constantLong RX1 88 1000000000000000000 ∈ tT)) dX1_valuesFit_15 ?_
    refine W.lcmp hx hb dX1_valuesFit_18 ?_
    refine lv_if_le (tgt := 24) hx hb dX1_valuesFit_19 (by decide) (fun c2 => ?_) (fun c2 => ?_)
    · have c2 : (af k) ≤ 1000000000000000000 := (lg_cmp_le (af k) 1000000000000000000).mp c2
      refine lv_iinc (v := nI (k + 1)) (lv' := [(1, .int (nI (k + 1))), (0, .ref (o 0))]) hx hb dX1_valuesFit_24 hl (k := 0) rfl (nI_1 k) (by decide) rfl (fun ls hl => ?_)
      refine lv_goto (tgt := 2) hx hb dX1_valuesFit_27 (by decide) ?_
      exact ihk (by omega) ls ⟨(lv_sub hl [0, 1] rfl), lt_s' hm (i64_le_nlt c2)⟩
    · have c2 : ¬ (af k) ≤ 1000000000000000000 := fun z9 => c2 ((lg_cmp_le (af k) 1000000000000000000).mpr z9)
      refine lv_iconst (v := nI 0) hx hb dX1_valuesFit_22 (by decide) ?_
      exact W.zret (v := nI 0) hx hb hr (by decide) (fun t ht _ => ⟨rt0 (decide_eq_false (fun z => of_decide_eq_false (z k (by omega)) (i64_nle c2))), ht⟩) (fun q h => by cases h) dX1_valuesFit_23
set_option maxHeartbeats 1000000 in
set_option maxRecDepth 100000 in
theorem cD_endItemsOfSet (l : Launch) (hP : va_P D vwCl (dW R o K ad va fl af bl n tc sc T S us ps am) H) (hD : va_D A (dW R o K ad va fl af bl n tc sc T S us ps am)) (hn200 : n ≤ 200) (hsc : sc ≤ tc) : Met l yX1_endItemsOfSet (tC yX1_endItemsOfSet cX1_endItemsOfSet 3 none) (rmK 0 0 0) (kP D K H [.ref (o 0)]) (qV D A (fun u : Unit => True) (fun u : Unit => dW R o K ad va fl af bl n (tc - sc) sc (d_en S T n) S us ps am)) 0 0 A := by
  refine Met.ofW (cc := cX1_endItemsOfSet) (maxL := 3) (ret := none) (by decide) rfl ?_
  intro p e s m args below meth c s₁ B hml hv
  obtain ⟨rfl, hH, hK, hN, hO⟩ := hv
  have hx := B.exec
  have hb := B.bytes
  have hr := B.returns
  have hts : ∀ w ∈ tT, w.before _ s = true := fun w h => atoms_spec (ws := tC yX1_endItemsOfSet cX1_endItemsOfSet 3 none) B.pre w (List.mem_cons_of_mem _ h)
  have hown : s.vm.findClass RX1 = some m.cls := findClass_of_methodNamed B.named
  have hlocks := B.notSynchronized
  have C : cx RX1 D K p s m _ c cX1_endItemsOfSet := ⟨hx, hb, hown, hts, hK, hN, hO⟩
  have hR : rmOk (headSpec (tC yX1_endItemsOfSet cX1_endItemsOfSet 3 none) (rmK 0 0 0)).room 0 0 0 := ⟨Nat.le_refl _, Nat.le_refl _, Nat.le_refl _, Nat.le_refl _⟩
  subst hH
  have hS : va_S A s.heap s.heap [] := va_S.rf
  have hl := lv_entry ([.ref (o 0)]) (n := 3) (Nat.le_of_ble_eq_true rfl)
  rw [lg_entry_eq]
  generalize (lg_sl ([.ref (o 0)]) ++ List.replicate (3 - (lg_sl ([.ref (o 0)])).length) Slot.unset).toArray = ls at hl ⊢
  have hl : lv_has ls 3 [(0, .ref (o 0))] := hl
  refine lv_iconst (v := nI 0) hx hb dX1_endItemsOfSet_0 (by decide) ?_
  refine lv_istore_n (lv' := [(1, .int (nI 0)), (0, .ref (o 0))]) hx hb dX1_endItemsOfSet_1 rfl hl (by decide) rfl (fun ls hl => ?_)
  refine lpM (U := n) (pcH := 2) (I := fun k ls H locs => lv_has ls 3 [(1, .int (nI k)), (0, .ref (o 0))] ∧ va_P D vwCl (dW R o K ad va fl af bl n tc sc (d_en S T k) S us ps am) H ∧ va_D A (dW R o K ad va fl af bl n tc sc (d_en S T k) S us ps am) ∧ va_S A s.heap H locs) (fun k ls H locs hkk hI ihk => ?_) 0 ls _ _ (Nat.zero_le _) ⟨(lv_sub hl [0, 1] rfl), hP, hD, hS⟩
  obtain ⟨hl, hP, hD, hS⟩ := hI
  refine lv_iload_n hx hb dX1_endItemsOfSet_2 rfl (lv_at hl 0 rfl) ?_
  refine lv_aload_n hx hb dX1_endItemsOfSet_3 rfl (lv_at hl 1 rfl) ?_
  refine gD_itemCount C hP dX1_endItemsOfSet_4 ?_
  refine lv_icmp_ge (tgt := 39) hx hb dX1_endItemsOfSet_7 (by decide) (fun c1 => ?_) (fun c1 => ?_)
  · have c1 : n ≤ k := (nI_leI (by omega) (by omega)).mp c1
    rw [show k = n by omega] at hP hD
    refine lv_aload_n hx hb dX1_endItemsOfSet_39 rfl (lv_at hl 1 rfl) ?_
    refine lv_dup hx hb dX1_endItemsOfSet_40 rfl ?_
    refine gD_thereCount C hP dX1_endItemsOfSet_41 ?_
    refine lv_aload_n hx hb dX1_endItemsOfSet_44 rfl (lv_at hl 1 rfl) ?_
    refine gD_setCount C hP dX1_endItemsOfSet_45 ?_
    refine lv_isub hx hb dX1_endItemsOfSet_48 ?_
    refine tp_i (y := nI (tc - sc)) (pk_sub hsc) ?_
    refine pD_thereCount C hP hD hS dX1_endItemsOfSet_49 (fun H locs hP hD hS => ?_)
    exact W.vret hx hb hr (fun t ht _ => ⟨⟨(), rfl, trivial, by rw [ht]; exact hP, hD⟩, hS.F ht⟩) hS.2.2 dX1_endItemsOfSet_52
  · have c1 : ¬ n ≤ k := fun z9 => c1 ((nI_leI (by omega) (by omega)).mpr z9)
    refine lv_aload_n hx hb dX1_endItemsOfSet_10 rfl (lv_at hl 1 rfl) ?_
    refine gD_items C hP dX1_endItemsOfSet_11 ?_
    refine lv_iload_n hx hb dX1_endItemsOfSet_14 rfl (lv_at hl 0 rfl) ?_
    refine lD_items C hP hn200 (by omega) dX1_endItemsOfSet_15 ?_
    refine lv_astore_n (lv' := [(2, .ref ((ad k).1)), (1, .int (nI k)), (0, .ref (o 0))]) hx hb dX1_endItemsOfSet_16 rfl hl (by decide) rfl (fun ls hl => ?_)
    refine lv_aload_n hx hb dX1_endItemsOfSet_17 rfl (lv_at hl 0 rfl) ?_
    refine lv_ifnull hx hb dX1_endItemsOfSet_18 ?_
    refine lv_aload_n hx hb dX1_endItemsOfSet_21 rfl (lv_at hl 0 rfl) ?_
    refine gDI_inSet C hP (by omega) dX1_endItemsOfSet_22 ?_
    refine lv_if_eq (tgt := 33) hx hb dX1_endItemsOfSet_25 (by decide) (fun c2 => ?_) (fun c2 => ?_)
    · have c2 : (S k) = false := (bI_z (S k)).mp c2
      refine lv_iinc (v := nI (k + 1)) (lv' := [(1, .int (nI (k + 1))), (2, .ref ((ad k).1)), (0, .ref (o 0))]) hx hb dX1_endItemsOfSet_33 hl (k := 1) rfl (nI_1 k) (by decide) rfl (fun ls hl => ?_)
      refine lv_goto (tgt := 2) hx hb dX1_endItemsOfSet_36 (by decide) ?_
      have e_T : (d_en S T (k + 1)) = (d_en S T k) := if_neg (by rw [c2]; decide)
      rw [← e_T] at hP hD
      exact ihk (by omega) ls _ _ ⟨(lv_sub hl [0, 2] rfl), hP, hD, hS⟩
    · have c2 : (S k) = true := (bI_nz (S k)).mp c2
      refine lv_aload_n hx hb dX1_endItemsOfSet_28 rfl (lv_at hl 0 rfl) ?_
      refine lv_iconst (v := nI 0) hx hb dX1_endItemsOfSet_29 (by decide) ?_
      refine tp_i (y := bI false) (b0 rfl) ?_
      refine pDI_there C hP hD hS (by omega) dX1_endItemsOfSet_30 (fun H locs hP hD hS => ?_)
      refine lv_iinc (v := nI (k + 1)) (lv' := [(1, .int (nI (k + 1))), (2, .ref ((ad k).1)), (0, .ref (o 0))]) hx hb dX1_endItemsOfSet_33 hl (k := 1) rfl (nI_1 k) (by decide) rfl (fun ls hl => ?_)
      refine lv_goto (tgt := 2) hx hb dX1_endItemsOfSet_36 (by decide) ?_
      have e_T : (d_en S T (k + 1)) = (va_up (d_en S T k) k false) := if_pos c2
      rw [← e_T] at hP hD
      exact ihk (by omega) ls _ _ ⟨(lv_sub hl [0, 2] rfl), hP, hD, hS⟩
end MD2
end
section
/-! GRIDDESK: the search, solve, perform -/
section CPY
variable {p : Program} {l : Launch} {e : Env} {Rm : Room} {s : State} {m : MethodId} {args : Array Value} {below : List Frame} {meth : Method} {c : Code} {H : Heap} {locs : List Loc} {cells slots : Nat} {Q : State → Prop} {cc : ByteArray} {pc : Nat} {ls : Array Slot} {D : va_G} {A : Nat → Prop} {H0 : Heap}
variable {R : va_W} {o : Nat → Nat} {K : Nat → ClassId} {ad : Nat → Nat × Nat × Nat} {va fl af : Nat → Int64} {bl : Nat → Bool} {n tc sc : Nat} {T S : Nat → Bool} {us : Nat → Nat} {ps : Nat → Nat → Nat} {am : Nat → Nat → Int64}
/-- after is copied to values -/
theorem cpD (C : cx RX1 D K p s m args c cc) (hml : c.maxLocals = ls.size) (hP : va_P D vwCl (dW R o K ad va fl af bl n tc sc T S us ps am) H) (hD : va_D A (dW R o K ad va fl af bl n tc sc T S us ps am)) (hS : va_S A H0 H locs) (hf : 1 ≤ Rm.frames) (hlo : 28 ≤ Rm.locals) (hdg : decode cc pc = .ok (.invokestatic 73, 3)) (kk : ∀ (H1 : Heap) (locs1 : List Loc), va_P D vwCl (dW R o K ad (va_cpy af va 0 0 300) fl af bl n tc sc T S us ps am) H1 → va_D A (dW R o K ad (va_cpy af va 0 0 300) fl af bl n tc sc T S us ps am) → va_S A H0 H1 locs1 → W p l e Rm s m args below meth c H1 locs1 cells slots Q (F0 m (pc + 3) ls [])) : W p l e Rm s m args below meth c H locs cells slots Q (F0 m pc ls [.int (nI 300), .int (nI 0), .ref (o 1), .int (nI 0), .ref (o 4)]) := by
  refine va_copyl (ty := .long) C.1 C.2.1 hml C.2.2.1 (C.2.2.2.1 _ (by decide +kernel : Cond.methodLink RX1 73 arraycopyName ∈ tT)) (C.2.2.2.1 _ (by decide +kernel : Cond.native arraycopyName ∈ tT)) (C.2.2.2.1 _ (by decide +kernel : Cond.static arraycopyName ∈ tT)) (C.2.2.2.1 _ (by decide +kernel : Cond.initialized "java/lang/System" ∈ tT)) C.2.2.2.2.1 hP hD hS 4 1 0 0 rfl rfl rfl rfl rfl (by decide) (by decide) (by decide) (by decide) (by decide) (fun _ _ => rfl) hf (Nat.le_trans (Nat.le_of_ble_eq_true rfl) hlo) hdg (fun H1 locs1 h1 h2 h3 => ?_)
  rw [show (nI 0).toNatClampNeg = 0 by decide, show (nI 300).toNatClampNeg = 300 by decide] at h1 h2
  exact kk H1 locs1 h1 h2 h3
end CPY
section MD3
variable {D : va_G} {K : Nat → ClassId} {H : Heap} {A : Nat → Prop} {R : va_W} {o : Nat → Nat} {ad : Nat → Nat × Nat × Nat} {va fl af : Nat → Int64} {bl : Nat → Bool} {n tc sc : Nat} {T S : Nat → Bool} {us : Nat → Nat} {ps : Nat → Nat → Nat} {am : Nat → Nat → Int64}
set_option maxHeartbeats 1000000 in
set_option maxRecDepth 100000 in
theorem cD_dropHopeless (l : Launch) (hP : va_P D vwCl (dW R o K ad va fl af bl n tc sc T S us ps am) H) (hD : va_D A (dW R o K ad va fl af bl n tc sc T S us ps am)) (hok : cl_ok us ps am va fl n) (hI : fg_inv us ps am T va fl n (S, af, bl, sc)) : Met l yX1_dropHopeless (tC yX1_dropHopeless cX1_dropHopeless 4 (some .boolean)) (rmK 1 0 0) (kP D K H [.ref (o 0)]) (qI D A (fun (r : Int32) (u : Unit) => r = bI (decide ((swp us ps am T va fl n (S, af, bl, sc)).2.2.2 < sc))) (fun u : Unit => dW R o K ad va fl ((swp us ps am T va fl n (S, af, bl, sc)).2.1) ((swp us ps am T va fl n (S, af, bl, sc)).2.2.1) n tc ((swp us ps am T va fl n (S, af, bl, sc)).2.2.2) T ((swp us ps am T va fl n (S, af, bl, sc)).1) us ps am)) 0 0 A := by
  refine Met.ofW (cc := cX1_dropHopeless) (maxL := 4) (ret := (some .boolean)) (by decide) rfl ?_
  intro p e s m args below meth c s₁ B hml hv
  obtain ⟨rfl, hH, hK, hN, hO⟩ := hv
  have hx := B.exec
  have hb := B.bytes
  have hr := B.returns
  have hts : ∀ w ∈ tT, w.before _ s = true := fun w h => atoms_spec (ws := tC yX1_dropHopeless cX1_dropHopeless 4 (some .boolean)) B.pre w (List.mem_cons_of_mem _ h)
  have hown : s.vm.findClass RX1 = some m.cls := findClass_of_methodNamed B.named
  have hlocks := B.notSynchronized
  have C : cx RX1 D K p s m _ c cX1_dropHopeless := ⟨hx, hb, hown, hts, hK, hN, hO⟩
  have hR : rmOk (headSpec (tC yX1_dropHopeless cX1_dropHopeless 4 (some .boolean)) (rmK 1 0 0)).room 1 0 0 := ⟨Nat.le_refl _, Nat.le_refl _, Nat.le_refl _, Nat.le_refl _⟩
  subst hH
  have hS : va_S A s.heap s.heap [] := va_S.rf
  have hl := lv_entry ([.ref (o 0)]) (n := 4) (Nat.le_of_ble_eq_true rfl)
  rw [lg_entry_eq]
  generalize (lg_sl ([.ref (o 0)]) ++ List.replicate (4 - (lg_sl ([.ref (o 0)])).length) Slot.unset).toArray = ls at hl ⊢
  have hl : lv_has ls 4 [(0, .ref (o 0))] := hl
  have hn200 : n ≤ 200 := hok.1
  have hu : ∀ i, i < n → us i ≤ 16 := fun i hi => (hok.2.1 i hi).1
  have hp : ∀ i k, i < n → k < us i → ps i k < 300 := fun i k hi hk => (hok.2.1 i hi).2.1 k hk
  have hall : ∀ i, i ≤ n → sw_inv us ps am T va fl n S i (dh us ps am T fl (S, gv_out us ps am S (sr_a va af 300) n, sr_b bl 300, sc) i) := sw_all hok hI
  have hb2 : sc ≤ 200 := by
    have q1 : sc = cn S n := hI.2.2
    have q2 := cn_le S n
    omega
  have hb1 : (dh us ps am T fl (S, gv_out us ps am S (sr_a va af 300) n, sr_b bl 300, sc) n).2.2.2 ≤ 200 := by
    rw [(hall n (Nat.le_refl n)).2.2.2.2.1]
    exact Nat.le_trans (cn_le _ n) hn200
  refine lv_aload_n hx hb dX1_dropHopeless_0 rfl (lv_at hl 0 rfl) ?_
  refine wv (va_runV (As := []) (rest := []) ⟨hx, hb, hml, hown, hts⟩ (cD_startRows l hP hD) (cwV 0 hts gD_96 rfl rfl rfl (by decide +kernel) (rmF hR (by decide) (by decide))) (kP_V C (va_recv C.2.2.2.2.1 hP (ci := ciD) (q0 := 0) rfl rfl)) rfl rfl hl.1 rfl (lv_room (Nat.le_of_ble_eq_true rfl)) dX1_dropHopeless_1 ⟨hR.2.2.1, hR.2.2.2⟩) hS (fun _ H locs hq hP hD hS => ?_)
  refine lv_aload_n hx hb dX1_dropHopeless_4 rfl (lv_at hl 0 rfl) ?_
  refine wv (va_runV (As := []) (rest := []) ⟨hx, hb, hml, hown, hts⟩ (cD_giveAll l hP hD hn200 hu hp) (cwV 0 hts gD_99 rfl rfl rfl (by decide +kernel) (rmF hR (by decide) (by decide))) (kP_V C (va_recv C.2.2.2.2.1 hP (ci := ciD) (q0 := 0) rfl rfl)) rfl rfl hl.1 rfl (lv_room (Nat.le_of_ble_eq_true rfl)) dX1_dropHopeless_5 ⟨hR.2.2.1, hR.2.2.2⟩) hS (fun _ H locs hq hP hD hS => ?_)
  refine lv_aload_n hx hb dX1_dropHopeless_8 rfl (lv_at hl 0 rfl) ?_
  refine gD_setCount C hP dX1_dropHopeless_9 ?_
  refine lv_istore_n (lv' := [(1, .int (nI sc)), (0, .ref (o 0))]) hx hb dX1_dropHopeless_12 rfl hl (by decide) rfl (fun ls hl => ?_)
  refine lv_iconst (v := nI 0) hx hb dX1_dropHopeless_13 (by decide) ?_
  refine lv_istore_n (lv' := [(2, .int (nI 0)), (1, .int (nI sc)), (0, .ref (o 0))]) hx hb dX1_dropHopeless_14 rfl hl (by decide) rfl (fun ls hl => ?_)
  refine lpM (U := n) (pcH := 15) (I := fun i ls H locs => lv_has ls 4 [(2, .int (nI i)), (1, .int (nI sc)), (0, .ref (o 0))] ∧ va_P D vwCl (dW R o K ad va fl ((dh us ps am T fl (S, gv_out us ps am S (sr_a va af 300) n, sr_b bl 300, sc) i).2.1) ((dh us ps am T fl (S, gv_out us ps am S (sr_a va af 300) n, sr_b bl 300, sc) i).2.2.1) n tc ((dh us ps am T fl (S, gv_out us ps am S (sr_a va af 300) n, sr_b bl 300, sc) i).2.2.2) T ((dh us ps am T fl (S, gv_out us ps am S (sr_a va af 300) n, sr_b bl 300, sc) i).1) us ps am) H ∧ va_D A (dW R o K ad va fl ((dh us ps am T fl (S, gv_out us ps am S (sr_a va af 300) n, sr_b bl 300, sc) i).2.1) ((dh us ps am T fl (S, gv_out us ps am S (sr_a va af 300) n, sr_b bl 300, sc) i).2.2.1) n tc ((dh us ps am T fl (S, gv_out us ps am S (sr_a va af 300) n, sr_b bl 300, sc) i).2.2.2) T ((dh us ps am T fl (S, gv_out us ps am S (sr_a va af 300) n, sr_b bl 300, sc) i).1) us ps am) ∧ va_S A s.heap H locs) (fun i ls H locs hki hI ihi => ?_) 0 ls _ _ (Nat.zero_le _) ⟨(lv_sub hl [0, 1, 2] rfl), hP, hD, hS⟩
  obtain ⟨hl, hP, hD, hS⟩ := hI
  refine lv_iload_n hx hb dX1_dropHopeless_15 rfl (lv_at hl 0 rfl) ?_
  refine lv_aload_n hx hb dX1_dropHopeless_16 rfl (lv_at hl 2 rfl) ?_
  refine gD_itemCount C hP dX1_dropHopeless_17 ?_
  refine lv_icmp_ge (tgt := 78) hx hb dX1_dropHopeless_20 (by decide) (fun c1 => ?_) (fun c1 => ?_)
  · have c1 : n ≤ i := (nI_leI (by omega) (by omega)).mp c1
    rw [show i = n by omega] at hP hD
    refine lv_aload_n hx hb dX1_dropHopeless_78 rfl (lv_at hl 2 rfl) ?_
    refine gD_setCount C hP dX1_dropHopeless_79 ?_
    refine lv_iload_n hx hb dX1_dropHopeless_82 rfl (lv_at hl 1 rfl) ?_
    refine lv_icmp_ge (tgt := 90) hx hb dX1_dropHopeless_83 (by decide) (fun c5 => ?_) (fun c5 => ?_)
    · have c5 : sc ≤ (dh us ps am T fl (S, gv_out us ps am S (sr_a va af 300) n, sr_b bl 300, sc) n).2.2.2 := (nI_leI (by omega) (by omega)).mp c5
      refine lv_iconst (v := nI 0) hx hb dX1_dropHopeless_90 (by decide) ?_
      exact W.zret (v := nI 0) hx hb hr (by decide) (fun t ht _ => ⟨⟨_, (), rfl, b0 (decide_eq_false (show ¬ (swp us ps am T va fl n (S, af, bl, sc)).2.2.2 < sc from Nat.not_lt.mpr c5)), by rw [ht]; exact hP, hD⟩, hS.F ht⟩) hS.2.2 dX1_dropHopeless_91
    · have c5 : ¬ sc ≤ (dh us ps am T fl (S, gv_out us ps am S (sr_a va af 300) n, sr_b bl 300, sc) n).2.2.2 := fun z9 => c5 ((nI_leI (by omega) (by omega)).mpr z9)
      refine lv_iconst (v := nI 1) hx hb dX1_dropHopeless_86 (by decide) ?_
      refine lv_goto (tgt := 91) hx hb dX1_dropHopeless_87 (by decide) ?_
      exact W.zret (v := nI 1) hx hb hr (by decide) (fun t ht _ => ⟨⟨_, (), rfl, b1 (decide_eq_true (show (swp us ps am T va fl n (S, af, bl, sc)).2.2.2 < sc from Nat.not_le.mp c5)), by rw [ht]; exact hP, hD⟩, hS.F ht⟩) hS.2.2 dX1_dropHopeless_91
  · have c1 : ¬ n ≤ i := fun z9 => c1 ((nI_leI (by omega) (by omega)).mpr z9)
    refine lv_aload_n hx hb dX1_dropHopeless_23 rfl (lv_at hl 2 rfl) ?_
    refine gD_items C hP dX1_dropHopeless_24 ?_
    refine lv_iload_n hx hb dX1_dropHopeless_27 rfl (lv_at hl 0 rfl) ?_
    refine lD_items C hP hn200 (by omega) dX1_dropHopeless_28 ?_
    refine lv_astore_n (lv' := [(3, .ref ((ad i).1)), (2, .int (nI i)), (1, .int (nI sc)), (0, .ref (o 0))]) hx hb dX1_dropHopeless_29 rfl hl (by decide) rfl (fun ls hl => ?_)
    refine lv_aload_n hx hb dX1_dropHopeless_30 rfl (lv_at hl 0 rfl) ?_
    refine lv_ifnull hx hb dX1_dropHopeless_31 ?_
    refine lv_aload_n hx hb dX1_dropHopeless_34 rfl (lv_at hl 0 rfl) ?_
    refine gDI_there C hP (by omega) dX1_dropHopeless_35 ?_
    refine lv_if_ne (tgt := 44) hx hb dX1_dropHopeless_38 (by decide) (fun c2 => ?_) (fun c2 => ?_)
    · have c2 : (T i) = true := (bI_nz (T i)).mp c2
      refine lv_aload_n hx hb dX1_dropHopeless_44 rfl (lv_at hl 0 rfl) ?_
      refine gDI_inSet C hP (by omega) dX1_dropHopeless_45 ?_
      refine lv_if_eq (tgt := 67) hx hb dX1_dropHopeless_48 (by decide) (fun c3 => ?_) (fun c3 => ?_)
      · have c3 : ((dh us ps am T fl (S, gv_out us ps am S (sr_a va af 300) n, sr_b bl 300, sc) i).1 i) = false := (bI_z ((dh us ps am T fl (S, gv_out us ps am S (sr_a va af 300) n, sr_b bl 300, sc) i).1 i)).mp c3
        refine lv_aload_n hx hb dX1_dropHopeless_67 rfl (lv_at hl 3 rfl) ?_
        refine lv_aload_n hx hb dX1_dropHopeless_68 rfl (lv_at hl 0 rfl) ?_
        refine wv (va_runV (As := [.ref ((ad i).1)]) (rest := []) ⟨hx, hb, hml, hown, hts⟩ (cD_drop l hP hD (by omega) (hu i (by omega)) (fun k hk => hp i k (by omega) hk) (fun z => by rw [(hall i (by omega)).2.2.2.2.1]; exact cn_pos (by omega) z)) (cwV 1 hts gD_110 rfl rfl rfl (by decide +kernel) (rmF hR (by decide) (by decide))) (kP_V C (va_recv C.2.2.2.2.1 hP (ci := ciD) (q0 := 0) rfl rfl)) rfl rfl hl.1 rfl (lv_room (Nat.le_of_ble_eq_true rfl)) dX1_dropHopeless_69 ⟨hR.2.2.1, hR.2.2.2⟩) hS (fun _ H locs hq hP hD hS => ?_)
        refine lv_iinc (v := nI (i + 1)) (lv' := [(2, .int (nI (i + 1))), (3, .ref ((ad i).1)), (1, .int (nI sc)), (0, .ref (o 0))]) hx hb dX1_dropHopeless_72 hl (k := 1) rfl (nI_1 i) (by decide) rfl (fun ls hl => ?_)
        refine lv_goto (tgt := 15) hx hb dX1_dropHopeless_75 (by decide) ?_
        have hd : (dh us ps am T fl (S, gv_out us ps am S (sr_a va af 300) n, sr_b bl 300, sc) (i + 1)) = (va_up (dh us ps am T fl (S, gv_out us ps am S (sr_a va af 300) n, sr_b bl 300, sc) i).1 i false, (dh us ps am T fl (S, gv_out us ps am S (sr_a va af 300) n, sr_b bl 300, sc) i).2.1, bk_in (ps i) (am i) (dh us ps am T fl (S, gv_out us ps am S (sr_a va af 300) n, sr_b bl 300, sc) i).2.2.1 (us i), if (dh us ps am T fl (S, gv_out us ps am S (sr_a va af 300) n, sr_b bl 300, sc) i).1 i = true then (dh us ps am T fl (S, gv_out us ps am S (sr_a va af 300) n, sr_b bl 300, sc) i).2.2.2 - 1 else (dh us ps am T fl (S, gv_out us ps am S (sr_a va af 300) n, sr_b bl 300, sc) i).2.2.2) := (if_pos c2).trans (if_neg (fun z => absurd (c3.symm.trans z.1) (by decide)))
        have e_S : (dh us ps am T fl (S, gv_out us ps am S (sr_a va af 300) n, sr_b bl 300, sc) (i + 1)).1 = (va_up (dh us ps am T fl (S, gv_out us ps am S (sr_a va af 300) n, sr_b bl 300, sc) i).1 i false) := by rw [hd]
        rw [← e_S] at hP hD
        have e_af : (dh us ps am T fl (S, gv_out us ps am S (sr_a va af 300) n, sr_b bl 300, sc) (i + 1)).2.1 = (dh us ps am T fl (S, gv_out us ps am S (sr_a va af 300) n, sr_b bl 300, sc) i).2.1 := by rw [hd]
        rw [← e_af] at hP hD
        have e_bl : (dh us ps am T fl (S, gv_out us ps am S (sr_a va af 300) n, sr_b bl 300, sc) (i + 1)).2.2.1 = (bk_in (ps i) (am i) (dh us ps am T fl (S, gv_out us ps am S (sr_a va af 300) n, sr_b bl 300, sc) i).2.2.1 (us i)) := by rw [hd]
        rw [← e_bl] at hP hD
        have e_sc : (dh us ps am T fl (S, gv_out us ps am S (sr_a va af 300) n, sr_b bl 300, sc) (i + 1)).2.2.2 = (if (dh us ps am T fl (S, gv_out us ps am S (sr_a va af 300) n, sr_b bl 300, sc) i).1 i = true then (dh us ps am T fl (S, gv_out us ps am S (sr_a va af 300) n, sr_b bl 300, sc) i).2.2.2 - 1 else (dh us ps am T fl (S, gv_out us ps am S (sr_a va af 300) n, sr_b bl 300, sc) i).2.2.2) := by rw [hd]
        rw [← e_sc] at hP hD
        exact ihi (by omega) ls _ _ ⟨(lv_sub hl [0, 2, 3] rfl), hP, hD, hS⟩
      · have c3 : ((dh us ps am T fl (S, gv_out us ps am S (sr_a va af 300) n, sr_b bl 300, sc) i).1 i) = true := (bI_nz ((dh us ps am T fl (S, gv_out us ps am S (sr_a va af 300) n, sr_b bl 300, sc) i).1 i)).mp c3
        refine lv_aload_n hx hb dX1_dropHopeless_51 rfl (lv_at hl 3 rfl) ?_
        refine lv_aload_n hx hb dX1_dropHopeless_52 rfl (lv_at hl 0 rfl) ?_
        refine pv (va_runV (As := [.ref ((ad i).1)]) (rest := []) ⟨hx, hb, hml, hown, hts⟩ (cD_canTake l hP (by omega) (hu i (by omega)) (fun k hk => hp i k (by omega) hk)) (cwV 1 hts gD_102 rfl rfl rfl (by decide +kernel) (rmF hR (by decide) (by decide))) (kP_V C (va_recv C.2.2.2.2.1 hP (ci := ciD) (q0 := 0) rfl rfl)) rfl rfl hl.1 rfl (lv_room (Nat.le_of_ble_eq_true rfl)) dX1_dropHopeless_53 ⟨hR.2.2.1, hR.2.2.2⟩) ?_
        refine lv_if_eq (tgt := 67) hx hb dX1_dropHopeless_56 (by decide) (fun c4 => ?_) (fun c4 => ?_)
        · have c4 : (ct (ps i) (am i) (us i) fl (dh us ps am T fl (S, gv_out us ps am S (sr_a va af 300) n, sr_b bl 300, sc) i).2.1 (dh us ps am T fl (S, gv_out us ps am S (sr_a va af 300) n, sr_b bl 300, sc) i).2.2.1) = false := (bI_z (ct (ps i) (am i) (us i) fl (dh us ps am T fl (S, gv_out us ps am S (sr_a va af 300) n, sr_b bl 300, sc) i).2.1 (dh us ps am T fl (S, gv_out us ps am S (sr_a va af 300) n, sr_b bl 300, sc) i).2.2.1)).mp c4
          refine lv_aload_n hx hb dX1_dropHopeless_67 rfl (lv_at hl 3 rfl) ?_
          refine lv_aload_n hx hb dX1_dropHopeless_68 rfl (lv_at hl 0 rfl) ?_
          refine wv (va_runV (As := [.ref ((ad i).1)]) (rest := []) ⟨hx, hb, hml, hown, hts⟩ (cD_drop l hP hD (by omega) (hu i (by omega)) (fun k hk => hp i k (by omega) hk) (fun z => by rw [(hall i (by omega)).2.2.2.2.1]; exact cn_pos (by omega) z)) (cwV 1 hts gD_110 rfl rfl rfl (by decide +kernel) (rmF hR (by decide) (by decide))) (kP_V C (va_recv C.2.2.2.2.1 hP (ci := ciD) (q0 := 0) rfl rfl)) rfl rfl hl.1 rfl (lv_room (Nat.le_of_ble_eq_true rfl)) dX1_dropHopeless_69 ⟨hR.2.2.1, hR.2.2.2⟩) hS (fun _ H locs hq hP hD hS => ?_)
          refine lv_iinc (v := nI (i + 1)) (lv' := [(2, .int (nI (i + 1))), (3, .ref ((ad i).1)), (1, .int (nI sc)), (0, .ref (o 0))]) hx hb dX1_dropHopeless_72 hl (k := 1) rfl (nI_1 i) (by decide) rfl (fun ls hl => ?_)
          refine lv_goto (tgt := 15) hx hb dX1_dropHopeless_75 (by decide) ?_
          have hd : (dh us ps am T fl (S, gv_out us ps am S (sr_a va af 300) n, sr_b bl 300, sc) (i + 1)) = (va_up (dh us ps am T fl (S, gv_out us ps am S (sr_a va af 300) n, sr_b bl 300, sc) i).1 i false, (dh us ps am T fl (S, gv_out us ps am S (sr_a va af 300) n, sr_b bl 300, sc) i).2.1, bk_in (ps i) (am i) (dh us ps am T fl (S, gv_out us ps am S (sr_a va af 300) n, sr_b bl 300, sc) i).2.2.1 (us i), if (dh us ps am T fl (S, gv_out us ps am S (sr_a va af 300) n, sr_b bl 300, sc) i).1 i = true then (dh us ps am T fl (S, gv_out us ps am S (sr_a va af 300) n, sr_b bl 300, sc) i).2.2.2 - 1 else (dh us ps am T fl (S, gv_out us ps am S (sr_a va af 300) n, sr_b bl 300, sc) i).2.2.2) := (if_pos c2).trans (if_neg (fun z => absurd (c4.symm.trans z.2) (by decide)))
          have e_S : (dh us ps am T fl (S, gv_out us ps am S (sr_a va af 300) n, sr_b bl 300, sc) (i + 1)).1 = (va_up (dh us ps am T fl (S, gv_out us ps am S (sr_a va af 300) n, sr_b bl 300, sc) i).1 i false) := by rw [hd]
          rw [← e_S] at hP hD
          have e_af : (dh us ps am T fl (S, gv_out us ps am S (sr_a va af 300) n, sr_b bl 300, sc) (i + 1)).2.1 = (dh us ps am T fl (S, gv_out us ps am S (sr_a va af 300) n, sr_b bl 300, sc) i).2.1 := by rw [hd]
          rw [← e_af] at hP hD
          have e_bl : (dh us ps am T fl (S, gv_out us ps am S (sr_a va af 300) n, sr_b bl 300, sc) (i + 1)).2.2.1 = (bk_in (ps i) (am i) (dh us ps am T fl (S, gv_out us ps am S (sr_a va af 300) n, sr_b bl 300, sc) i).2.2.1 (us i)) := by rw [hd]
          rw [← e_bl] at hP hD
          have e_sc : (dh us ps am T fl (S, gv_out us ps am S (sr_a va af 300) n, sr_b bl 300, sc) (i + 1)).2.2.2 = (if (dh us ps am T fl (S, gv_out us ps am S (sr_a va af 300) n, sr_b bl 300, sc) i).1 i = true then (dh us ps am T fl (S, gv_out us ps am S (sr_a va af 300) n, sr_b bl 300, sc) i).2.2.2 - 1 else (dh us ps am T fl (S, gv_out us ps am S (sr_a va af 300) n, sr_b bl 300, sc) i).2.2.2) := by rw [hd]
          rw [← e_sc] at hP hD
          exact ihi (by omega) ls _ _ ⟨(lv_sub hl [0, 2, 3] rfl), hP, hD, hS⟩
        · have c4 : (ct (ps i) (am i) (us i) fl (dh us ps am T fl (S, gv_out us ps am S (sr_a va af 300) n, sr_b bl 300, sc) i).2.1 (dh us ps am T fl (S, gv_out us ps am S (sr_a va af 300) n, sr_b bl 300, sc) i).2.2.1) = true := (bI_nz (ct (ps i) (am i) (us i) fl (dh us ps am T fl (S, gv_out us ps am S (sr_a va af 300) n, sr_b bl 300, sc) i).2.1 (dh us ps am T fl (S, gv_out us ps am S (sr_a va af 300) n, sr_b bl 300, sc) i).2.2.1)).mp c4
          refine lv_aload_n hx hb dX1_dropHopeless_59 rfl (lv_at hl 3 rfl) ?_
          refine lv_aload_n hx hb dX1_dropHopeless_60 rfl (lv_at hl 0 rfl) ?_
          refine wv (va_runV (As := [.ref ((ad i).1)]) (rest := []) ⟨hx, hb, hml, hown, hts⟩ (cD_take l hP hD (by omega) (hu i (by omega)) (fun k hk => hp i k (by omega) hk)) (cwV 1 hts gD_106 rfl rfl rfl (by decide +kernel) (rmF hR (by decide) (by decide))) (kP_V C (va_recv C.2.2.2.2.1 hP (ci := ciD) (q0 := 0) rfl rfl)) rfl rfl hl.1 rfl (lv_room (Nat.le_of_ble_eq_true rfl)) dX1_dropHopeless_61 ⟨hR.2.2.1, hR.2.2.2⟩) hS (fun _ H locs hq hP hD hS => ?_)
          refine lv_goto (tgt := 72) hx hb dX1_dropHopeless_64 (by decide) ?_
          refine lv_iinc (v := nI (i + 1)) (lv' := [(2, .int (nI (i + 1))), (3, .ref ((ad i).1)), (1, .int (nI sc)), (0, .ref (o 0))]) hx hb dX1_dropHopeless_72 hl (k := 1) rfl (nI_1 i) (by decide) rfl (fun ls hl => ?_)
          refine lv_goto (tgt := 15) hx hb dX1_dropHopeless_75 (by decide) ?_
          have hd : (dh us ps am T fl (S, gv_out us ps am S (sr_a va af 300) n, sr_b bl 300, sc) (i + 1)) = ((dh us ps am T fl (S, gv_out us ps am S (sr_a va af 300) n, sr_b bl 300, sc) i).1, tk_in (ps i) (am i) (dh us ps am T fl (S, gv_out us ps am S (sr_a va af 300) n, sr_b bl 300, sc) i).2.1 (us i), (dh us ps am T fl (S, gv_out us ps am S (sr_a va af 300) n, sr_b bl 300, sc) i).2.2.1, (dh us ps am T fl (S, gv_out us ps am S (sr_a va af 300) n, sr_b bl 300, sc) i).2.2.2) := (if_pos c2).trans (if_pos ⟨c3, c4⟩)
          have e_S : (dh us ps am T fl (S, gv_out us ps am S (sr_a va af 300) n, sr_b bl 300, sc) (i + 1)).1 = (dh us ps am T fl (S, gv_out us ps am S (sr_a va af 300) n, sr_b bl 300, sc) i).1 := by rw [hd]
          rw [← e_S] at hP hD
          have e_af : (dh us ps am T fl (S, gv_out us ps am S (sr_a va af 300) n, sr_b bl 300, sc) (i + 1)).2.1 = (tk_in (ps i) (am i) (dh us ps am T fl (S, gv_out us ps am S (sr_a va af 300) n, sr_b bl 300, sc) i).2.1 (us i)) := by rw [hd]
          rw [← e_af] at hP hD
          have e_bl : (dh us ps am T fl (S, gv_out us ps am S (sr_a va af 300) n, sr_b bl 300, sc) (i + 1)).2.2.1 = (dh us ps am T fl (S, gv_out us ps am S (sr_a va af 300) n, sr_b bl 300, sc) i).2.2.1 := by rw [hd]
          rw [← e_bl] at hP hD
          have e_sc : (dh us ps am T fl (S, gv_out us ps am S (sr_a va af 300) n, sr_b bl 300, sc) (i + 1)).2.2.2 = (dh us ps am T fl (S, gv_out us ps am S (sr_a va af 300) n, sr_b bl 300, sc) i).2.2.2 := by rw [hd]
          rw [← e_sc] at hP hD
          exact ihi (by omega) ls _ _ ⟨(lv_sub hl [0, 2, 3] rfl), hP, hD, hS⟩
    · have c2 : (T i) = false := (bI_z (T i)).mp c2
      refine lv_goto (tgt := 72) hx hb dX1_dropHopeless_41 (by decide) ?_
      refine lv_iinc (v := nI (i + 1)) (lv' := [(2, .int (nI (i + 1))), (3, .ref ((ad i).1)), (1, .int (nI sc)), (0, .ref (o 0))]) hx hb dX1_dropHopeless_72 hl (k := 1) rfl (nI_1 i) (by decide) rfl (fun ls hl => ?_)
      refine lv_goto (tgt := 15) hx hb dX1_dropHopeless_75 (by decide) ?_
      have hd : (dh us ps am T fl (S, gv_out us ps am S (sr_a va af 300) n, sr_b bl 300, sc) (i + 1)) = (dh us ps am T fl (S, gv_out us ps am S (sr_a va af 300) n, sr_b bl 300, sc) i) := if_neg (by rw [c2]; decide)
      have e_S : (dh us ps am T fl (S, gv_out us ps am S (sr_a va af 300) n, sr_b bl 300, sc) (i + 1)).1 = (dh us ps am T fl (S, gv_out us ps am S (sr_a va af 300) n, sr_b bl 300, sc) i).1 := by rw [hd]
      rw [← e_S] at hP hD
      have e_af : (dh us ps am T fl (S, gv_out us ps am S (sr_a va af 300) n, sr_b bl 300, sc) (i + 1)).2.1 = (dh us ps am T fl (S, gv_out us ps am S (sr_a va af 300) n, sr_b bl 300, sc) i).2.1 := by rw [hd]
      rw [← e_af] at hP hD
      have e_bl : (dh us ps am T fl (S, gv_out us ps am S (sr_a va af 300) n, sr_b bl 300, sc) (i + 1)).2.2.1 = (dh us ps am T fl (S, gv_out us ps am S (sr_a va af 300) n, sr_b bl 300, sc) i).2.2.1 := by rw [hd]
      rw [← e_bl] at hP hD
      have e_sc : (dh us ps am T fl (S, gv_out us ps am S (sr_a va af 300) n, sr_b bl 300, sc) (i + 1)).2.2.2 = (dh us ps am T fl (S, gv_out us ps am S (sr_a va af 300) n, sr_b bl 300, sc) i).2.2.2 := by rw [hd]
      rw [← e_sc] at hP hD
      exact ihi (by omega) ls _ _ ⟨(lv_sub hl [0, 2, 3] rfl), hP, hD, hS⟩
theorem fgE (hok : cl_ok us ps am va fl n) (htc : tc = cn T n) (S : Nat → Bool) (af : Nat → Int64) (bl : Nat → Bool) : fg_end us ps am T va fl n (fg us ps am T va fl n 201 (st_s T S n, af, bl, tc)) := fg_all hok 201 _ (fg_start S af bl htc) (by
  show tc < 201
  have q1 := cn_le T n
  have q2 := hok.1
  omega)
set_option maxHeartbeats 1000000 in
set_option maxRecDepth 100000 in
theorem cD_findGreatest (l : Launch) (hP : va_P D vwCl (dW R o K ad va fl af bl n tc sc T S us ps am) H) (hD : va_D A (dW R o K ad va fl af bl n tc sc T S us ps am)) (hok : cl_ok us ps am va fl n) (htc : tc = cn T n) : Met l yX1_findGreatest (tC yX1_findGreatest cX1_findGreatest 2 none) (rmK 2 0 0) (kP D K H [.ref (o 0)]) (qV D A (fun u : Unit => True) (fun u : Unit => dW R o K ad va fl ((fg us ps am T va fl n 201 (st_s T S n, af, bl, tc)).2.1) ((fg us ps am T va fl n 201 (st_s T S n, af, bl, tc)).2.2.1) n tc ((fg us ps am T va fl n 201 (st_s T S n, af, bl, tc)).2.2.2) T ((fg us ps am T va fl n 201 (st_s T S n, af, bl, tc)).1) us ps am)) 0 0 A := by
  refine Met.ofW (cc := cX1_findGreatest) (maxL := 2) (ret := none) (by decide) rfl ?_
  intro p e s m args below meth c s₁ B hml hv
  obtain ⟨rfl, hH, hK, hN, hO⟩ := hv
  have hx := B.exec
  have hb := B.bytes
  have hr := B.returns
  have hts : ∀ w ∈ tT, w.before _ s = true := fun w h => atoms_spec (ws := tC yX1_findGreatest cX1_findGreatest 2 none) B.pre w (List.mem_cons_of_mem _ h)
  have hown : s.vm.findClass RX1 = some m.cls := findClass_of_methodNamed B.named
  have hlocks := B.notSynchronized
  have C : cx RX1 D K p s m _ c cX1_findGreatest := ⟨hx, hb, hown, hts, hK, hN, hO⟩
  have hR : rmOk (headSpec (tC yX1_findGreatest cX1_findGreatest 2 none) (rmK 2 0 0)).room 2 0 0 := ⟨Nat.le_refl _, Nat.le_refl _, Nat.le_refl _, Nat.le_refl _⟩
  subst hH
  have hS : va_S A s.heap s.heap [] := va_S.rf
  have hl := lv_entry ([.ref (o 0)]) (n := 2) (Nat.le_of_ble_eq_true rfl)
  rw [lg_entry_eq]
  generalize (lg_sl ([.ref (o 0)]) ++ List.replicate (2 - (lg_sl ([.ref (o 0)])).length) Slot.unset).toArray = ls at hl ⊢
  have hl : lv_has ls 2 [(0, .ref (o 0))] := hl
  have hn200 : n ≤ 200 := hok.1
  refine lv_aload_n hx hb dX1_findGreatest_0 rfl (lv_at hl 0 rfl) ?_
  refine wv (va_runV (As := []) (rest := []) ⟨hx, hb, hml, hown, hts⟩ (cD_startWithAllThere l hP hD hn200) (cwV 0 hts gD_90 rfl rfl rfl (by decide +kernel) (rmF hR (by decide) (by decide))) (kP_V C (va_recv C.2.2.2.2.1 hP (ci := ciD) (q0 := 0) rfl rfl)) rfl rfl hl.1 rfl (lv_room (Nat.le_of_ble_eq_true rfl)) dX1_findGreatest_1 ⟨hR.2.2.1, hR.2.2.2⟩) hS (fun _ H locs hq hP hD hS => ?_)
  refine lv_iconst (v := nI 0) hx hb dX1_findGreatest_4 (by decide) ?_
  refine lv_istore_n (lv' := [(1, .int (nI 0)), (0, .ref (o 0))]) hx hb dX1_findGreatest_5 rfl hl (by decide) rfl (fun ls hl => ?_)
  refine lpM (U := 201) (pcH := 6) (I := fun k ls H locs => lv_has ls 2 [(1, .int (nI k)), (0, .ref (o 0))] ∧ ∃ σ : DS, va_P D vwCl (dW R o K ad va fl σ.2.1 σ.2.2.1 n tc σ.2.2.2 T σ.1 us ps am) H ∧ va_D A (dW R o K ad va fl σ.2.1 σ.2.2.1 n tc σ.2.2.2 T σ.1 us ps am) ∧ va_S A s.heap H locs ∧ fg_inv us ps am T va fl n σ ∧ fg us ps am T va fl n (201 - k) σ = (fg us ps am T va fl n 201 (st_s T S n, af, bl, tc))) (fun k ls H locs hkk hI ihk => ?_) 0 ls _ _ (Nat.zero_le _) ⟨(lv_sub hl [0, 1] rfl), (st_s T S n, af, bl, tc), hP, hD, hS, fg_start S af bl htc, rfl⟩
  obtain ⟨hl, σ, hP, hD, hS, hI, hF⟩ := hI
  refine lv_iload_n hx hb dX1_findGreatest_6 rfl (lv_at hl 0 rfl) ?_
  refine lv_sipush (v := nI 200) hx hb dX1_findGreatest_7 (by decide) ?_
  refine lv_icmp_gt (tgt := 29) hx hb dX1_findGreatest_10 (by decide) (fun c1 => ?_) (fun c1 => ?_)
  · have c1 : 200 < k := (nI_ltI (by omega) (by omega)).mp c1
    have e : σ = (fg us ps am T va fl n 201 (st_s T S n, af, bl, tc)) := by
      rw [show 201 - k = 0 by omega] at hF
      exact hF
    rw [e] at hP hD
    exact W.vret hx hb hr (fun t ht _ => ⟨⟨(), rfl, trivial, by rw [ht]; exact hP, hD⟩, hS.F ht⟩) hS.2.2 dX1_findGreatest_29
  · have c1 : ¬ 200 < k := fun z9 => c1 ((nI_ltI (by omega) (by omega)).mpr z9)
    rw [show 201 - k = (201 - (k + 1)) + 1 by omega] at hF
    refine lv_aload_n hx hb dX1_findGreatest_13 rfl (lv_at hl 1 rfl) ?_
    refine wi (va_runV (As := []) (rest := []) ⟨hx, hb, hml, hown, hts⟩ (cD_dropHopeless l hP hD hok hI) (cwV 0 hts gD_93 rfl rfl rfl (by decide +kernel) (rmF hR (by decide) (by decide))) (kP_V C (va_recv C.2.2.2.2.1 hP (ci := ciD) (q0 := 0) rfl rfl)) rfl rfl hl.1 rfl (lv_room (Nat.le_of_ble_eq_true rfl)) dX1_findGreatest_14 ⟨hR.2.2.1, hR.2.2.2⟩) hS (fun r _ H locs hq hP hD hS => ?_)
    subst hq
    have hP : va_P D vwCl (dW R o K ad va fl ((swp us ps am T va fl n σ).2.1) ((swp us ps am T va fl n σ).2.2.1) n tc ((swp us ps am T va fl n σ).2.2.2) T ((swp us ps am T va fl n σ).1) us ps am) H := hP
    have hD : va_D A (dW R o K ad va fl ((swp us ps am T va fl n σ).2.1) ((swp us ps am T va fl n σ).2.2.1) n tc ((swp us ps am T va fl n σ).2.2.2) T ((swp us ps am T va fl n σ).1) us ps am) := hD
    refine lv_if_ne (tgt := 23) hx hb dX1_findGreatest_17 (by decide) (fun c2 => ?_) (fun c2 => ?_)
    · have c2 : (decide ((swp us ps am T va fl n σ).2.2.2 < σ.2.2.2)) = true := (bI_nz (decide ((swp us ps am T va fl n σ).2.2.2 < σ.2.2.2))).mp c2
      have c2 := of_decide_eq_true c2
      refine lv_iinc (v := nI (k + 1)) (lv' := [(1, .int (nI (k + 1))), (0, .ref (o 0))]) hx hb dX1_findGreatest_23 hl (k := 0) rfl (nI_1 k) (by decide) rfl (fun ls hl => ?_)
      refine lv_goto (tgt := 6) hx hb dX1_findGreatest_26 (by decide) ?_
      exact ihk (by omega) ls _ _ ⟨(lv_sub hl [0, 1] rfl), (swp us ps am T va fl n σ), hP, hD, hS, (sw_next hok hI).1, (if_pos c2).symm.trans hF⟩
    · have c2 : (decide ((swp us ps am T va fl n σ).2.2.2 < σ.2.2.2)) = false := (bI_z (decide ((swp us ps am T va fl n σ).2.2.2 < σ.2.2.2))).mp c2
      have c2 := of_decide_eq_false c2
      have e : (swp us ps am T va fl n σ) = (fg us ps am T va fl n 201 (st_s T S n, af, bl, tc)) := (if_neg c2).symm.trans hF
      rw [e] at hP hD
      refine lv_goto (tgt := 29) hx hb dX1_findGreatest_20 (by decide) ?_
      exact W.vret hx hb hr (fun t ht _ => ⟨⟨(), rfl, trivial, by rw [ht]; exact hP, hD⟩, hS.F ht⟩) hS.2.2 dX1_findGreatest_29
set_option maxHeartbeats 1000000 in
set_option maxRecDepth 100000 in
theorem cD_solve (l : Launch) (hP : va_P D vwCl (dW R o K ad va fl af bl n tc sc T S us ps am) H) (hD : va_D A (dW R o K ad va fl af bl n tc sc T S us ps am)) (hok : cl_ok us ps am va fl n) (htc : tc = cn T n) : Met l yX1_solve (tC yX1_solve cX1_solve 1 (some .int)) (rmK 3 0 0) (kP D K H [.ref (o 0)]) (qI D A (fun (r : Int32) (u : Unit) => r = nI (fg us ps am T va fl n 201 (st_s T S n, af, bl, tc)).2.2.2) (fun u : Unit => dW R o K ad va fl ((fg us ps am T va fl n 201 (st_s T S n, af, bl, tc)).2.1) ((fg us ps am T va fl n 201 (st_s T S n, af, bl, tc)).2.2.1) n tc ((fg us ps am T va fl n 201 (st_s T S n, af, bl, tc)).2.2.2) T ((fg us ps am T va fl n 201 (st_s T S n, af, bl, tc)).1) us ps am)) 0 0 A := by
  refine Met.ofW (cc := cX1_solve) (maxL := 1) (ret := (some .int)) (by decide) rfl ?_
  intro p e s m args below meth c s₁ B hml hv
  obtain ⟨rfl, hH, hK, hN, hO⟩ := hv
  have hx := B.exec
  have hb := B.bytes
  have hr := B.returns
  have hts : ∀ w ∈ tT, w.before _ s = true := fun w h => atoms_spec (ws := tC yX1_solve cX1_solve 1 (some .int)) B.pre w (List.mem_cons_of_mem _ h)
  have hown : s.vm.findClass RX1 = some m.cls := findClass_of_methodNamed B.named
  have hlocks := B.notSynchronized
  have C : cx RX1 D K p s m _ c cX1_solve := ⟨hx, hb, hown, hts, hK, hN, hO⟩
  have hR : rmOk (headSpec (tC yX1_solve cX1_solve 1 (some .int)) (rmK 3 0 0)).room 3 0 0 := ⟨Nat.le_refl _, Nat.le_refl _, Nat.le_refl _, Nat.le_refl _⟩
  subst hH
  have hS : va_S A s.heap s.heap [] := va_S.rf
  have hl := lv_entry ([.ref (o 0)]) (n := 1) (Nat.le_of_ble_eq_true rfl)
  rw [lg_entry_eq]
  generalize (lg_sl ([.ref (o 0)]) ++ List.replicate (1 - (lg_sl ([.ref (o 0)])).length) Slot.unset).toArray = ls at hl ⊢
  have hl : lv_has ls 1 [(0, .ref (o 0))] := hl
  refine lv_aload_n hx hb dX1_solve_0 rfl (lv_at hl 0 rfl) ?_
  refine wv (va_runV (As := []) (rest := []) ⟨hx, hb, hml, hown, hts⟩ (cD_findGreatest l hP hD hok htc) (cwV 0 hts gD_57 rfl rfl rfl (by decide +kernel) (rmF hR (by decide) (by decide))) (kP_V C (va_recv C.2.2.2.2.1 hP (ci := ciD) (q0 := 0) rfl rfl)) rfl rfl hl.1 rfl (lv_room (Nat.le_of_ble_eq_true rfl)) dX1_solve_1 ⟨hR.2.2.1, hR.2.2.2⟩) hS (fun _ H locs hq hP hD hS => ?_)
  refine lv_aload_n hx hb dX1_solve_4 rfl (lv_at hl 0 rfl) ?_
  refine gD_setCount C hP dX1_solve_5 ?_
  exact W.iret (v := nI (fg us ps am T va fl n 201 (st_s T S n, af, bl, tc)).2.2.2) hx hb hr (fun t ht _ => ⟨⟨_, (), rfl, rfl, by rw [ht]; exact hP, hD⟩, hS.F ht⟩) hS.2.2 dX1_solve_8
set_option maxHeartbeats 1000000 in
set_option maxRecDepth 100000 in
theorem cD_perform_no (l : Launch) (hP : va_P D vwCl (dW R o K ad va fl af bl n tc sc T S us ps am) H) (hD : va_D A (dW R o K ad va fl af bl n tc sc T S us ps am)) (hok : cl_ok us ps am va fl n) (htc : tc = cn T n) (hv : vfB (fg us ps am T va fl n 201 (st_s T S n, af, bl, tc)).2.1 = false) : Met l yX1_perform (tC yX1_perform cX1_perform 1 (some .int)) (rmK 3 0 0) (kP D K H [.ref (o 0)]) (qI D A (fun (r : Int32) (u : Unit) => r = (-1)) (fun u : Unit => dW R o K ad va fl ((fg us ps am T va fl n 201 (st_s T S n, af, bl, tc)).2.1) ((fg us ps am T va fl n 201 (st_s T S n, af, bl, tc)).2.2.1) n tc ((fg us ps am T va fl n 201 (st_s T S n, af, bl, tc)).2.2.2) T ((fg us ps am T va fl n 201 (st_s T S n, af, bl, tc)).1) us ps am)) 0 0 A := by
  refine Met.ofW (cc := cX1_perform) (maxL := 1) (ret := (some .int)) (by decide) rfl ?_
  intro p e s m args below meth c s₁ B hml hv
  obtain ⟨rfl, hH, hK, hN, hO⟩ := hv
  have hx := B.exec
  have hb := B.bytes
  have hr := B.returns
  have hts : ∀ w ∈ tT, w.before _ s = true := fun w h => atoms_spec (ws := tC yX1_perform cX1_perform 1 (some .int)) B.pre w (List.mem_cons_of_mem _ h)
  have hown : s.vm.findClass RX1 = some m.cls := findClass_of_methodNamed B.named
  have hlocks := B.notSynchronized
  have C : cx RX1 D K p s m _ c cX1_perform := ⟨hx, hb, hown, hts, hK, hN, hO⟩
  have hR : rmOk (headSpec (tC yX1_perform cX1_perform 1 (some .int)) (rmK 3 0 0)).room 3 0 0 := ⟨Nat.le_refl _, Nat.le_refl _, Nat.le_refl _, Nat.le_refl _⟩
  subst hH
  have hS : va_S A s.heap s.heap [] := va_S.rf
  have hl := lv_entry ([.ref (o 0)]) (n := 1) (Nat.le_of_ble_eq_true rfl)
  rw [lg_entry_eq]
  generalize (lg_sl ([.ref (o 0)]) ++ List.replicate (1 - (lg_sl ([.ref (o 0)])).length) Slot.unset).toArray = ls at hl ⊢
  have hl : lv_has ls 1 [(0, .ref (o 0))] := hl
  refine lv_aload_n hx hb dX1_perform_0 rfl (lv_at hl 0 rfl) ?_
  refine wv (va_runV (As := []) (rest := []) ⟨hx, hb, hml, hown, hts⟩ (cD_findGreatest l hP hD hok htc) (cwV 0 hts gD_57 rfl rfl rfl (by decide +kernel) (rmF hR (by decide) (by decide))) (kP_V C (va_recv C.2.2.2.2.1 hP (ci := ciD) (q0 := 0) rfl rfl)) rfl rfl hl.1 rfl (lv_room (Nat.le_of_ble_eq_true rfl)) dX1_perform_1 ⟨hR.2.2.1, hR.2.2.2⟩) hS (fun _ H locs hq hP hD hS => ?_)
  refine lv_aload_n hx hb dX1_perform_4 rfl (lv_at hl 0 rfl) ?_
  refine pv (va_runV (As := []) (rest := []) ⟨hx, hb, hml, hown, hts⟩ (cD_valuesFit l hP) (cwV 0 hts gD_69 rfl rfl rfl (by decide +kernel) (rmF hR (by decide) (by decide))) (kP_V C (va_recv C.2.2.2.2.1 hP (ci := ciD) (q0 := 0) rfl rfl)) rfl rfl hl.1 rfl (lv_room (Nat.le_of_ble_eq_true rfl)) dX1_perform_5 ⟨hR.2.2.1, hR.2.2.2⟩) ?_
  refine lv_if_ne (tgt := 13) hx hb dX1_perform_8 (by decide) (fun c1 => ?_) (fun c1 => ?_)
  · have c1 : (vfB (fg us ps am T va fl n 201 (st_s T S n, af, bl, tc)).2.1) = true := (bI_nz (vfB (fg us ps am T va fl n 201 (st_s T S n, af, bl, tc)).2.1)).mp c1
    exact absurd (c1.symm.trans hv) (by decide)
  · have c1 : (vfB (fg us ps am T va fl n 201 (st_s T S n, af, bl, tc)).2.1) = false := (bI_z (vfB (fg us ps am T va fl n 201 (st_s T S n, af, bl, tc)).2.1)).mp c1
    refine lv_iconst (v := (-1)) hx hb dX1_perform_11 (by decide) ?_
    exact W.iret (v := (-1)) hx hb hr (fun t ht _ => ⟨⟨_, (), rfl, rfl, by rw [ht]; exact hP, hD⟩, hS.F ht⟩) hS.2.2 dX1_perform_12
set_option maxHeartbeats 1000000 in
set_option maxRecDepth 100000 in
theorem cD_perform (l : Launch) (hP : va_P D vwCl (dW R o K ad va fl af bl n tc sc T S us ps am) H) (hD : va_D A (dW R o K ad va fl af bl n tc sc T S us ps am)) (hok : cl_ok us ps am va fl n) (htc : tc = cn T n) (hv : vfB (fg us ps am T va fl n 201 (st_s T S n, af, bl, tc)).2.1 = true) : Met l yX1_perform (tC yX1_perform cX1_perform 1 (some .int)) (rmK 3 0 0) (kP D K H [.ref (o 0)]) (qI D A (fun (r : Int32) (u : Unit) => r = nI (fg us ps am T va fl n 201 (st_s T S n, af, bl, tc)).2.2.2) (fun u : Unit => dW R o K ad (va_cpy (fg us ps am T va fl n 201 (st_s T S n, af, bl, tc)).2.1 va 0 0 300) fl ((fg us ps am T va fl n 201 (st_s T S n, af, bl, tc)).2.1) ((fg us ps am T va fl n 201 (st_s T S n, af, bl, tc)).2.2.1) n (tc - (fg us ps am T va fl n 201 (st_s T S n, af, bl, tc)).2.2.2) ((fg us ps am T va fl n 201 (st_s T S n, af, bl, tc)).2.2.2) (d_en (fg us ps am T va fl n 201 (st_s T S n, af, bl, tc)).1 T n) ((fg us ps am T va fl n 201 (st_s T S n, af, bl, tc)).1) us ps am)) 0 0 A := by
  refine Met.ofW (cc := cX1_perform) (maxL := 1) (ret := (some .int)) (by decide) rfl ?_
  intro p e s m args below meth c s₁ B hml hv
  obtain ⟨rfl, hH, hK, hN, hO⟩ := hv
  have hx := B.exec
  have hb := B.bytes
  have hr := B.returns
  have hts : ∀ w ∈ tT, w.before _ s = true := fun w h => atoms_spec (ws := tC yX1_perform cX1_perform 1 (some .int)) B.pre w (List.mem_cons_of_mem _ h)
  have hown : s.vm.findClass RX1 = some m.cls := findClass_of_methodNamed B.named
  have hlocks := B.notSynchronized
  have C : cx RX1 D K p s m _ c cX1_perform := ⟨hx, hb, hown, hts, hK, hN, hO⟩
  have hR : rmOk (headSpec (tC yX1_perform cX1_perform 1 (some .int)) (rmK 3 0 0)).room 3 0 0 := ⟨Nat.le_refl _, Nat.le_refl _, Nat.le_refl _, Nat.le_refl _⟩
  subst hH
  have hS : va_S A s.heap s.heap [] := va_S.rf
  have hl := lv_entry ([.ref (o 0)]) (n := 1) (Nat.le_of_ble_eq_true rfl)
  rw [lg_entry_eq]
  generalize (lg_sl ([.ref (o 0)]) ++ List.replicate (1 - (lg_sl ([.ref (o 0)])).length) Slot.unset).toArray = ls at hl ⊢
  have hl : lv_has ls 1 [(0, .ref (o 0))] := hl
  have hsc : (fg us ps am T va fl n 201 (st_s T S n, af, bl, tc)).2.2.2 ≤ tc := by
    have q := fgE hok htc S af bl
    have q2 := cn_mono (T := T) (fun k hk h => q.1.1 k hk h)
    rw [q.2.2.1]
    omega
  refine lv_aload_n hx hb dX1_perform_0 rfl (lv_at hl 0 rfl) ?_
  refine wv (va_runV (As := []) (rest := []) ⟨hx, hb, hml, hown, hts⟩ (cD_findGreatest l hP hD hok htc) (cwV 0 hts gD_57 rfl rfl rfl (by decide +kernel) (rmF hR (by decide) (by decide))) (kP_V C (va_recv C.2.2.2.2.1 hP (ci := ciD) (q0 := 0) rfl rfl)) rfl rfl hl.1 rfl (lv_room (Nat.le_of_ble_eq_true rfl)) dX1_perform_1 ⟨hR.2.2.1, hR.2.2.2⟩) hS (fun _ H locs hq hP hD hS => ?_)
  refine lv_aload_n hx hb dX1_perform_4 rfl (lv_at hl 0 rfl) ?_
  refine pv (va_runV (As := []) (rest := []) ⟨hx, hb, hml, hown, hts⟩ (cD_valuesFit l hP) (cwV 0 hts gD_69 rfl rfl rfl (by decide +kernel) (rmF hR (by decide) (by decide))) (kP_V C (va_recv C.2.2.2.2.1 hP (ci := ciD) (q0 := 0) rfl rfl)) rfl rfl hl.1 rfl (lv_room (Nat.le_of_ble_eq_true rfl)) dX1_perform_5 ⟨hR.2.2.1, hR.2.2.2⟩) ?_
  refine lv_if_ne (tgt := 13) hx hb dX1_perform_8 (by decide) (fun c1 => ?_) (fun c1 => ?_)
  · have c1 : (vfB (fg us ps am T va fl n 201 (st_s T S n, af, bl, tc)).2.1) = true := (bI_nz (vfB (fg us ps am T va fl n 201 (st_s T S n, af, bl, tc)).2.1)).mp c1
    refine lv_aload_n hx hb dX1_perform_13 rfl (lv_at hl 0 rfl) ?_
    refine gD_after C hP dX1_perform_14 ?_
    refine lv_iconst (v := nI 0) hx hb dX1_perform_17 (by decide) ?_
    refine lv_aload_n hx hb dX1_perform_18 rfl (lv_at hl 0 rfl) ?_
    refine gD_values C hP dX1_perform_19 ?_
    refine lv_iconst (v := nI 0) hx hb dX1_perform_22 (by decide) ?_
    refine lv_sipush (v := nI 300) hx hb dX1_perform_23 (by decide) ?_
    refine cpD C (hml.trans hl.1.symm) hP hD hS (Nat.le_trans (by decide) hR.1) (Nat.le_trans (by decide) hR.2.1) dX1_perform_26 (fun H locs hP hD hS => ?_)
    refine lv_aload_n hx hb dX1_perform_29 rfl (lv_at hl 0 rfl) ?_
    refine wv (va_runV (As := []) (rest := []) ⟨hx, hb, hml, hown, hts⟩ (cD_endItemsOfSet l hP hD hok.1 hsc) (cwV 0 hts gD_79 rfl rfl rfl (by decide +kernel) (rmF hR (by decide) (by decide))) (kP_V C (va_recv C.2.2.2.2.1 hP (ci := ciD) (q0 := 0) rfl rfl)) rfl rfl hl.1 rfl (lv_room (Nat.le_of_ble_eq_true rfl)) dX1_perform_30 ⟨hR.2.2.1, hR.2.2.2⟩) hS (fun _ H locs hq hP hD hS => ?_)
    refine lv_aload_n hx hb dX1_perform_33 rfl (lv_at hl 0 rfl) ?_
    refine gD_setCount C hP dX1_perform_34 ?_
    exact W.iret (v := nI (fg us ps am T va fl n 201 (st_s T S n, af, bl, tc)).2.2.2) hx hb hr (fun t ht _ => ⟨⟨_, (), rfl, rfl, by rw [ht]; exact hP, hD⟩, hS.F ht⟩) hS.2.2 dX1_perform_37
  · have c1 : (vfB (fg us ps am T va fl n 201 (st_s T S n, af, bl, tc)).2.1) = false := (bI_z (vfB (fg us ps am T va fl n 201 (st_s T S n, af, bl, tc)).2.1)).mp c1
    exact absurd (c1.symm.trans hv) (by decide)
end MD3
end
section
/-! THE REFERENCE: its looking methods -/
theorem fs_eq2 {q : Nat → Bool} {m k0 k : Nat} (h1 : k0 ≤ k) (h2 : k < k0 + m) (h : q k = true) (hm : ∀ j, k0 ≤ j → j < k → q j = false) : fs q m k0 = k := by
  have g1 := fs_le q m k0
  have g2 := fs_ge q m k0
  rcases Nat.lt_trichotomy (fs q m k0) k with z | z | z
  · have := fs_hit q m k0 (by omega)
    rw [hm _ g2 z] at this
    cases this
  · exact z
  · have := fs_miss q m k0 k h1 z
    rw [h] at this
    cases this
theorem fs_no2 {q : Nat → Bool} {m k0 : Nat} (hm : ∀ j, k0 ≤ j → j < k0 + m → q j = false) : fs q m k0 = k0 + m := by
  have g1 := fs_le q m k0
  have g2 := fs_ge q m k0
  rcases Nat.lt_or_ge (fs q m k0) (k0 + m) with z | z
  · have := fs_hit q m k0 z
    rw [hm _ g2 z] at this
    cases this
  · omega
theorem tot_t {mn po : Nat → Nat} {an va : Nat → Int64} {ch : Nat → Bool} {p i : Nat} (h : ch i = true) : m_tot mn po an va ch p i + netA mn po an i p = m_tot mn po an va ch p (i + 1) := by
  show _ = m_tot mn po an va ch p i + (if ch i = true then netA mn po an i p else 0)
  rw [if_pos h]
theorem tot_f {mn po : Nat → Nat} {an va : Nat → Int64} {ch : Nat → Bool} {p i : Nat} (h : ch i = false) : m_tot mn po an va ch p i + 0 = m_tot mn po an va ch p (i + 1) := by
  show _ = m_tot mn po an va ch p i + (if ch i = true then netA mn po an i p else 0)
  rw [if_neg (by rw [h]; decide)]
theorem last_t {mn po : Nat → Nat} {an : Nat → Int64} {ch : Nat → Bool} {p i : Nat} (h : ch i = true) (h2 : netA mn po an i p < 0) : nI i = m_last mn po an ch p (i + 1) := (if_pos ⟨h, h2⟩).symm
theorem last_f {mn po : Nat → Nat} {an : Nat → Int64} {ch : Nat → Bool} {p i : Nat} (h : ch i = false) : m_last mn po an ch p i = m_last mn po an ch p (i + 1) := (if_neg (fun z => by rw [h] at z; cases z.1)).symm
theorem last_f2 {mn po : Nat → Nat} {an : Nat → Int64} {ch : Nat → Bool} {p i : Nat} (h : ¬ netA mn po an i p < 0) : m_last mn po an ch p i = m_last mn po an ch p (i + 1) := (if_neg (fun z => h z.2)).symm
theorem meet_1 {mn po : Nat → Nat} {an : Nat → Int64} {a b k : Nat} (h : m_meet mn po an a b k = true) : m_meet mn po an a b (k + 1) = true := by unfold m_meet; rw [h]; rfl
theorem meet_2 {mn po : Nat → Nat} {an : Nat → Int64} {a b k : Nat} (h1 : an (16 * a + k) < 0) (h2 : netA mn po an b (po (16 * a + k)) < 0) : m_meet mn po an a b (k + 1) = true := by unfold m_meet; rw [decide_eq_true h1, decide_eq_true h2, Bool.and_self, Bool.or_true]
theorem meet_3 {mn po : Nat → Nat} {an : Nat → Int64} {a b k : Nat} (h : m_meet mn po an a b k = false) (h1 : ¬ an (16 * a + k) < 0) : m_meet mn po an a b (k + 1) = false := by unfold m_meet; rw [h, decide_eq_false h1]; rfl
theorem meet_4 {mn po : Nat → Nat} {an : Nat → Int64} {a b k : Nat} (h : m_meet mn po an a b k = false) (h2 : ¬ netA mn po an b (po (16 * a + k)) < 0) : m_meet mn po an a b (k + 1) = false := by unfold m_meet; rw [h, decide_eq_false h2, Bool.and_false]; rfl
theorem lack_1 {mn po : Nat → Nat} {an : Nat → Int64} {T ch : Nat → Bool} {i j : Nat} (h : m_lack mn po an T ch i j = true) : m_lack mn po an T ch i (j + 1) = true := by unfold m_lack; rw [h]; rfl
theorem lack_2 {mn po : Nat → Nat} {an : Nat → Int64} {T ch : Nat → Bool} {i j : Nat} (h1 : T j = true) (h2 : ch j = false) (h3 : m_meet mn po an j i (mn j) = true) : m_lack mn po an T ch i (j + 1) = true := by unfold m_lack; rw [h1, h2, h3]; simp
theorem lack_3 {mn po : Nat → Nat} {an : Nat → Int64} {T ch : Nat → Bool} {i j : Nat} (h : m_lack mn po an T ch i j = false) (h1 : T j = false) : m_lack mn po an T ch i (j + 1) = false := by unfold m_lack; rw [h, h1]; rfl
theorem lack_4 {mn po : Nat → Nat} {an : Nat → Int64} {T ch : Nat → Bool} {i j : Nat} (h : m_lack mn po an T ch i j = false) (h1 : ch j = true) : m_lack mn po an T ch i (j + 1) = false := by unfold m_lack; rw [h, h1]; simp
theorem lack_5 {mn po : Nat → Nat} {an : Nat → Int64} {T ch : Nat → Bool} {i j : Nat} (h : m_lack mn po an T ch i j = false) (h3 : m_meet mn po an j i (mn j) = false) : m_lack mn po an T ch i (j + 1) = false := by unfold m_lack; rw [h, h3]; simp
theorem cn_t {S : Nat → Bool} {k : Nat} (h : S k = true) : cn S k + 1 = cn S (k + 1) := by rw [cn_succ, if_pos h]
theorem cn_f {S : Nat → Bool} {k : Nat} (h : S k = false) : cn S k + 0 = cn S (k + 1) := by rw [cn_succ, if_neg (by rw [h]; decide)]
section MM1
variable {D : va_G} {K : Nat → ClassId} {H : Heap} {A : Nat → Prop} {R : va_W} {o : Nat → Nat} {va fl an : Nat → Int64} {n : Nat} {th ch : Nat → Bool} {mn po : Nat → Nat}
set_option maxHeartbeats 1000000 in
set_option maxRecDepth 100000 in
theorem cM_isPosition (l : Launch)  (x : Int32) : Met l yX2_isPosition (tC yX2_isPosition cX2_isPosition 1 (some .boolean)) (rmK 0 0 0) (kP D K H [.int x]) (k2_QcV (.int (bI (isP x)))) 0 0 (fun _ => False) := by
  refine Met.ofW (cc := cX2_isPosition) (maxL := 1) (ret := (some .boolean)) (by decide) rfl ?_
  intro p e s m args below meth c s₁ B hml hv
  obtain ⟨rfl, hH, hK, hN, hO⟩ := hv
  have hx := B.exec
  have hb := B.bytes
  have hr := B.returns
  have hts : ∀ w ∈ tT, w.before _ s = true := fun w h => atoms_spec (ws := tC yX2_isPosition cX2_isPosition 1 (some .boolean)) B.pre w (List.mem_cons_of_mem _ h)
  have hown : s.vm.findClass RX2 = some m.cls := findClass_of_methodNamed B.named
  have hlocks := B.notSynchronized
  have C : cx RX2 D K p s m _ c cX2_isPosition := ⟨hx, hb, hown, hts, hK, hN, hO⟩
  have hR : rmOk (headSpec (tC yX2_isPosition cX2_isPosition 1 (some .boolean)) (rmK 0 0 0)).room 0 0 0 := ⟨Nat.le_refl _, Nat.le_refl _, Nat.le_refl _, Nat.le_refl _⟩
  subst hH
  have hl := lv_entry ([.int x]) (n := 1) (Nat.le_of_ble_eq_true rfl)
  rw [lg_entry_eq]
  generalize (lg_sl ([.int x]) ++ List.replicate (1 - (lg_sl ([.int x])).length) Slot.unset).toArray = ls at hl ⊢
  have hl : lv_has ls 1 [(0, .int x)] := hl
  refine lv_iload_n hx hb dX2_isPosition_0 rfl (lv_at hl 0 rfl) ?_
  refine lv_if_lt (tgt := 15) hx hb dX2_isPosition_1 (by decide) (fun c1 => ?_) (fun c1 => ?_)
  · refine lv_iconst (v := nI 0) hx hb dX2_isPosition_15 (by decide) ?_
    exact W.zret (v := nI 0) hx hb hr (by decide) (fun t ht _ => ⟨rt0 (decide_eq_false (fun z => z.1 c1)), ht⟩) (fun q h => by cases h) dX2_isPosition_16
  · refine lv_iload_n hx hb dX2_isPosition_4 rfl (lv_at hl 0 rfl) ?_
    refine lv_sipush (v := nI 300) hx hb dX2_isPosition_5 (by decide) ?_
    refine lv_icmp_ge (tgt := 15) hx hb dX2_isPosition_8 (by decide) (fun c2 => ?_) (fun c2 => ?_)
    · refine lv_iconst (v := nI 0) hx hb dX2_isPosition_15 (by decide) ?_
      exact W.zret (v := nI 0) hx hb hr (by decide) (fun t ht _ => ⟨rt0 (decide_eq_false (fun z => z.2 c2)), ht⟩) (fun q h => by cases h) dX2_isPosition_16
    · refine lv_iconst (v := nI 1) hx hb dX2_isPosition_11 (by decide) ?_
      refine lv_goto (tgt := 16) hx hb dX2_isPosition_12 (by decide) ?_
      exact W.zret (v := nI 1) hx hb hr (by decide) (fun t ht _ => ⟨rt1 (decide_eq_true ⟨c1, c2⟩), ht⟩) (fun q h => by cases h) dX2_isPosition_16
set_option maxHeartbeats 1000000 in
set_option maxRecDepth 100000 in
theorem cM_isValue (l : Launch)  (v : Int64) : Met l yX2_isValue (tC yX2_isValue cX2_isValue 2 (some .boolean)) (rmK 0 0 0) (kP D K H [.long v]) (k2_QcV (.int (bI (isV v)))) 0 0 (fun _ => False) := by
  refine Met.ofW (cc := cX2_isValue) (maxL := 2) (ret := (some .boolean)) (by decide) rfl ?_
  intro p e s m args below meth c s₁ B hml hv
  obtain ⟨rfl, hH, hK, hN, hO⟩ := hv
  have hx := B.exec
  have hb := B.bytes
  have hr := B.returns
  have hts : ∀ w ∈ tT, w.before _ s = true := fun w h => atoms_spec (ws := tC yX2_isValue cX2_isValue 2 (some .boolean)) B.pre w (List.mem_cons_of_mem _ h)
  have hown : s.vm.findClass RX2 = some m.cls := findClass_of_methodNamed B.named
  have hlocks := B.notSynchronized
  have C : cx RX2 D K p s m _ c cX2_isValue := ⟨hx, hb, hown, hts, hK, hN, hO⟩
  have hR : rmOk (headSpec (tC yX2_isValue cX2_isValue 2 (some .boolean)) (rmK 0 0 0)).room 0 0 0 := ⟨Nat.le_refl _, Nat.le_refl _, Nat.le_refl _, Nat.le_refl _⟩
  subst hH
  have hl := lv_entry ([.long v]) (n := 2) (Nat.le_of_ble_eq_true rfl)
  rw [lg_entry_eq]
  generalize (lg_sl ([.long v]) ++ List.replicate (2 - (lg_sl ([.long v])).length) Slot.unset).toArray = ls at hl ⊢
  have hl : lv_has ls 2 [(0, .long v)] := hl
  refine lv_lload_n hx hb dX2_isValue_0 rfl (lv_at hl 0 rfl) ?_
  refine lv_ldc2 (v := (-1000000000000000000)) hx hb hown (hts _ (by decide +kernel : Cond.constantLong RX2 33 (-1000000000000000000) ∈ tT)) dX2_isValue_1 ?_
  refine W.lcmp hx hb dX2_isValue_4 ?_
  refine lv_if_lt (tgt := 20) hx hb dX2_isValue_5 (by decide) (fun c1 => ?_) (fun c1 => ?_)
  · have c1 : v < (-1000000000000000000) := (lg_cmp_lt v (-1000000000000000000)).mp c1
    refine lv_iconst (v := nI 0) hx hb dX2_isValue_20 (by decide) ?_
    exact W.zret (v := nI 0) hx hb hr (by decide) (fun t ht _ => ⟨rt0 (decide_eq_false (fun z => z.1 c1)), ht⟩) (fun q h => by cases h) dX2_isValue_21
  · have c1 : ¬ v < (-1000000000000000000) := fun z9 => c1 ((lg_cmp_lt v (-1000000000000000000)).mpr z9)
    refine lv_lload_n hx hb dX2_isValue_8 rfl (lv_at hl 0 rfl) ?_
    refine lv_ldc2 (v := 1000000000000000000) hx hb hown (hts _ (by decide +kernel : Cond.constantLong RX2 35 1000000000000000000 ∈ tT)) dX2_isValue_9 ?_
    refine W.lcmp hx hb dX2_isValue_12 ?_
    refine lv_if_gt (tgt := 20) hx hb dX2_isValue_13 (by decide) (fun c2 => ?_) (fun c2 => ?_)
    · have c2 : 1000000000000000000 < v := (lg_cmp_gt v 1000000000000000000).mp c2
      refine lv_iconst (v := nI 0) hx hb dX2_isValue_20 (by decide) ?_
      exact W.zret (v := nI 0) hx hb hr (by decide) (fun t ht _ => ⟨rt0 (decide_eq_false (fun z => z.2 c2)), ht⟩) (fun q h => by cases h) dX2_isValue_21
    · have c2 : ¬ 1000000000000000000 < v := fun z9 => c2 ((lg_cmp_gt v 1000000000000000000).mpr z9)
      refine lv_iconst (v := nI 1) hx hb dX2_isValue_16 (by decide) ?_
      refine lv_goto (tgt := 21) hx hb dX2_isValue_17 (by decide) ?_
      exact W.zret (v := nI 1) hx hb hr (by decide) (fun t ht _ => ⟨rt1 (decide_eq_true ⟨c1, c2⟩), ht⟩) (fun q h => by cases h) dX2_isValue_21
set_option maxHeartbeats 1000000 in
set_option maxRecDepth 100000 in
theorem cM_place_no (l : Launch) (hP : va_P D vwCl (mW R o K va fl n th ch mn po an) H) (x : Int32) (v f : Int64) (h : ¬ (isP x = true ∧ isV v = true ∧ isV f = true ∧ f ≤ v)) : Met l yX2_place (tC yX2_place cX2_place 6 (some .boolean)) (rmK 1 0 0) (kP D K H [.ref (o 0), .int x, .long v, .long f]) (k2_QcV (.int (nI 0))) 0 0 (fun _ => False) := by
  refine Met.ofW (cc := cX2_place) (maxL := 6) (ret := (some .boolean)) (by decide) rfl ?_
  intro p e s m args below meth c s₁ B hml hv
  obtain ⟨rfl, hH, hK, hN, hO⟩ := hv
  have hx := B.exec
  have hb := B.bytes
  have hr := B.returns
  have hts : ∀ w ∈ tT, w.before _ s = true := fun w h => atoms_spec (ws := tC yX2_place cX2_place 6 (some .boolean)) B.pre w (List.mem_cons_of_mem _ h)
  have hown : s.vm.findClass RX2 = some m.cls := findClass_of_methodNamed B.named
  have hlocks := B.notSynchronized
  have C : cx RX2 D K p s m _ c cX2_place := ⟨hx, hb, hown, hts, hK, hN, hO⟩
  have hR : rmOk (headSpec (tC yX2_place cX2_place 6 (some .boolean)) (rmK 1 0 0)).room 1 0 0 := ⟨Nat.le_refl _, Nat.le_refl _, Nat.le_refl _, Nat.le_refl _⟩
  subst hH
  have hl := lv_entry ([.ref (o 0), .int x, .long v, .long f]) (n := 6) (Nat.le_of_ble_eq_true rfl)
  rw [lg_entry_eq]
  generalize (lg_sl ([.ref (o 0), .int x, .long v, .long f]) ++ List.replicate (6 - (lg_sl ([.ref (o 0), .int x, .long v, .long f])).length) Slot.unset).toArray = ls at hl ⊢
  have hl : lv_has ls 6 [(0, .ref (o 0)), (1, .int x), (2, .long v), (4, .long f)] := hl
  refine lv_iload_n hx hb dX2_place_0 rfl (lv_at hl 1 rfl) ?_
  refine pv (va_runS (As := [.int x]) (rest := []) ⟨hx, hb, hml, hown, hts⟩ (cM_isPosition l x) (cwS 1 hts gM_37 rfl rfl rfl (by decide +kernel) (rmF hR (by decide) (by decide))) (kP_S C) rfl rfl hl.1 rfl (lv_room (Nat.le_of_ble_eq_true rfl)) dX2_place_1 ⟨hR.2.2.1, hR.2.2.2⟩) ?_
  refine lv_if_eq (tgt := 29) hx hb dX2_place_4 (by decide) (fun c1 => ?_) (fun c1 => ?_)
  · have c1 : (isP x) = false := (bI_z (isP x)).mp c1
    refine lv_iconst (v := nI 0) hx hb dX2_place_29 (by decide) ?_
    exact W.zret (v := nI 0) hx hb hr (by decide) (fun t ht _ => ⟨rfl, ht⟩) (fun q h => by cases h) dX2_place_30
  · have c1 : (isP x) = true := (bI_nz (isP x)).mp c1
    refine lv_lload_n hx hb dX2_place_7 rfl (lv_at hl 2 rfl) ?_
    refine pv (va_runS (As := [.long v]) (rest := []) ⟨hx, hb, hml, hown, hts⟩ (cM_isValue l v) (cwS 1 hts gM_41 rfl rfl rfl (by decide +kernel) (rmF hR (by decide) (by decide))) (kP_S C) rfl rfl hl.1 rfl (lv_room (Nat.le_of_ble_eq_true rfl)) dX2_place_8 ⟨hR.2.2.1, hR.2.2.2⟩) ?_
    refine lv_if_eq (tgt := 29) hx hb dX2_place_11 (by decide) (fun c2 => ?_) (fun c2 => ?_)
    · have c2 : (isV v) = false := (bI_z (isV v)).mp c2
      refine lv_iconst (v := nI 0) hx hb dX2_place_29 (by decide) ?_
      exact W.zret (v := nI 0) hx hb hr (by decide) (fun t ht _ => ⟨rfl, ht⟩) (fun q h => by cases h) dX2_place_30
    · have c2 : (isV v) = true := (bI_nz (isV v)).mp c2
      refine lv_lload hx hb dX2_place_14 (lv_at hl 3 rfl) ?_
      refine pv (va_runS (As := [.long f]) (rest := []) ⟨hx, hb, hml, hown, hts⟩ (cM_isValue l f) (cwS 1 hts gM_41 rfl rfl rfl (by decide +kernel) (rmF hR (by decide) (by decide))) (kP_S C) rfl rfl hl.1 rfl (lv_room (Nat.le_of_ble_eq_true rfl)) dX2_place_16 ⟨hR.2.2.1, hR.2.2.2⟩) ?_
      refine lv_if_eq (tgt := 29) hx hb dX2_place_19 (by decide) (fun c3 => ?_) (fun c3 => ?_)
      · have c3 : (isV f) = false := (bI_z (isV f)).mp c3
        refine lv_iconst (v := nI 0) hx hb dX2_place_29 (by decide) ?_
        exact W.zret (v := nI 0) hx hb hr (by decide) (fun t ht _ => ⟨rfl, ht⟩) (fun q h => by cases h) dX2_place_30
      · have c3 : (isV f) = true := (bI_nz (isV f)).mp c3
        refine lv_lload_n hx hb dX2_place_22 rfl (lv_at hl 2 rfl) ?_
        refine lv_lload hx hb dX2_place_23 (lv_at hl 3 rfl) ?_
        refine W.lcmp hx hb dX2_place_25 ?_
        refine lv_if_ge (tgt := 31) hx hb dX2_place_26 (by decide) (fun c4 => ?_) (fun c4 => ?_)
        · have c4 : f ≤ v := (lg_cmp_ge v f).mp c4
          exact absurd ⟨c1, c2, c3, c4⟩ h
        · have c4 : ¬ f ≤ v := fun z9 => c4 ((lg_cmp_ge v f).mpr z9)
          refine lv_iconst (v := nI 0) hx hb dX2_place_29 (by decide) ?_
          exact W.zret (v := nI 0) hx hb hr (by decide) (fun t ht _ => ⟨rfl, ht⟩) (fun q h => by cases h) dX2_place_30
set_option maxHeartbeats 1000000 in
set_option maxRecDepth 100000 in
theorem cM_place (l : Launch) (hP : va_P D vwCl (mW R o K va fl n th ch mn po an) H) (hD : va_D A (mW R o K va fl n th ch mn po an)) {q : Nat} (hq3 : q < 300) (v f : Int64) (h2 : isV v = true) (h3 : isV f = true) (h4 : f ≤ v) : Met l yX2_place (tC yX2_place cX2_place 6 (some .boolean)) (rmK 1 0 0) (kP D K H [.ref (o 0), .int (nI q), .long v, .long f]) (qI D A (fun (r : Int32) (u : Unit) => r = nI 1) (fun u : Unit => mW R o K (va_up va q v) (va_up fl q f) n th ch mn po an)) 0 0 A := by
  refine Met.ofW (cc := cX2_place) (maxL := 6) (ret := (some .boolean)) (by decide) rfl ?_
  intro p e s m args below meth c s₁ B hml hv
  obtain ⟨rfl, hH, hK, hN, hO⟩ := hv
  have hx := B.exec
  have hb := B.bytes
  have hr := B.returns
  have hts : ∀ w ∈ tT, w.before _ s = true := fun w h => atoms_spec (ws := tC yX2_place cX2_place 6 (some .boolean)) B.pre w (List.mem_cons_of_mem _ h)
  have hown : s.vm.findClass RX2 = some m.cls := findClass_of_methodNamed B.named
  have hlocks := B.notSynchronized
  have C : cx RX2 D K p s m _ c cX2_place := ⟨hx, hb, hown, hts, hK, hN, hO⟩
  have hR : rmOk (headSpec (tC yX2_place cX2_place 6 (some .boolean)) (rmK 1 0 0)).room 1 0 0 := ⟨Nat.le_refl _, Nat.le_refl _, Nat.le_refl _, Nat.le_refl _⟩
  subst hH
  have hS : va_S A s.heap s.heap [] := va_S.rf
  have hl := lv_entry ([.ref (o 0), .int (nI q), .long v, .long f]) (n := 6) (Nat.le_of_ble_eq_true rfl)
  rw [lg_entry_eq]
  generalize (lg_sl ([.ref (o 0), .int (nI q), .long v, .long f]) ++ List.replicate (6 - (lg_sl ([.ref (o 0), .int (nI q), .long v, .long f])).length) Slot.unset).toArray = ls at hl ⊢
  have hl : lv_has ls 6 [(0, .ref (o 0)), (1, .int (nI q)), (2, .long v), (4, .long f)] := hl
  refine lv_iload_n hx hb dX2_place_0 rfl (lv_at hl 1 rfl) ?_
  refine pv (va_runS (As := [.int (nI q)]) (rest := []) ⟨hx, hb, hml, hown, hts⟩ (cM_isPosition l (nI q)) (cwS 1 hts gM_37 rfl rfl rfl (by decide +kernel) (rmF hR (by decide) (by decide))) (kP_S C) rfl rfl hl.1 rfl (lv_room (Nat.le_of_ble_eq_true rfl)) dX2_place_1 ⟨hR.2.2.1, hR.2.2.2⟩) ?_
  refine lv_if_eq (tgt := 29) hx hb dX2_place_4 (by decide) (fun c1 => ?_) (fun c1 => ?_)
  · have c1 : (isP (nI q)) = false := (bI_z (isP (nI q))).mp c1
    exact absurd ((isP_nI hq3).symm.trans c1) (by decide)
  · have c1 : (isP (nI q)) = true := (bI_nz (isP (nI q))).mp c1
    refine lv_lload_n hx hb dX2_place_7 rfl (lv_at hl 2 rfl) ?_
    refine pv (va_runS (As := [.long v]) (rest := []) ⟨hx, hb, hml, hown, hts⟩ (cM_isValue l v) (cwS 1 hts gM_41 rfl rfl rfl (by decide +kernel) (rmF hR (by decide) (by decide))) (kP_S C) rfl rfl hl.1 rfl (lv_room (Nat.le_of_ble_eq_true rfl)) dX2_place_8 ⟨hR.2.2.1, hR.2.2.2⟩) ?_
    refine lv_if_eq (tgt := 29) hx hb dX2_place_11 (by decide) (fun c2 => ?_) (fun c2 => ?_)
    · have c2 : (isV v) = false := (bI_z (isV v)).mp c2
      exact absurd (h2.symm.trans c2) (by decide)
    · have c2 : (isV v) = true := (bI_nz (isV v)).mp c2
      refine lv_lload hx hb dX2_place_14 (lv_at hl 3 rfl) ?_
      refine pv (va_runS (As := [.long f]) (rest := []) ⟨hx, hb, hml, hown, hts⟩ (cM_isValue l f) (cwS 1 hts gM_41 rfl rfl rfl (by decide +kernel) (rmF hR (by decide) (by decide))) (kP_S C) rfl rfl hl.1 rfl (lv_room (Nat.le_of_ble_eq_true rfl)) dX2_place_16 ⟨hR.2.2.1, hR.2.2.2⟩) ?_
      refine lv_if_eq (tgt := 29) hx hb dX2_place_19 (by decide) (fun c3 => ?_) (fun c3 => ?_)
      · have c3 : (isV f) = false := (bI_z (isV f)).mp c3
        exact absurd (h3.symm.trans c3) (by decide)
      · have c3 : (isV f) = true := (bI_nz (isV f)).mp c3
        refine lv_lload_n hx hb dX2_place_22 rfl (lv_at hl 2 rfl) ?_
        refine lv_lload hx hb dX2_place_23 (lv_at hl 3 rfl) ?_
        refine W.lcmp hx hb dX2_place_25 ?_
        refine lv_if_ge (tgt := 31) hx hb dX2_place_26 (by decide) (fun c4 => ?_) (fun c4 => ?_)
        · have c4 : f ≤ v := (lg_cmp_ge v f).mp c4
          refine lv_aload_n hx hb dX2_place_31 rfl (lv_at hl 0 rfl) ?_
          refine gM_values C hP dX2_place_32 ?_
          refine lv_iload_n hx hb dX2_place_35 rfl (lv_at hl 1 rfl) ?_
          refine lv_lload_n hx hb dX2_place_36 rfl (lv_at hl 2 rfl) ?_
          refine sM_values (x := v) C hP hD hS (by omega) dX2_place_37 (fun H locs hP hD hS => ?_)
          refine lv_aload_n hx hb dX2_place_38 rfl (lv_at hl 0 rfl) ?_
          refine gM_floors C hP dX2_place_39 ?_
          refine lv_iload_n hx hb dX2_place_42 rfl (lv_at hl 1 rfl) ?_
          refine lv_lload hx hb dX2_place_43 (lv_at hl 3 rfl) ?_
          refine sM_floors (x := f) C hP hD hS (by omega) dX2_place_45 (fun H locs hP hD hS => ?_)
          refine lv_iconst (v := nI 1) hx hb dX2_place_46 (by decide) ?_
          exact W.zret (v := nI 1) hx hb hr (by decide) (fun t ht _ => ⟨⟨_, (), rfl, rfl, by rw [ht]; exact hP, hD⟩, hS.F ht⟩) hS.2.2 dX2_place_47
        · have c4 : ¬ f ≤ v := fun z9 => c4 ((lg_cmp_ge v f).mpr z9)
          exact absurd h4 c4
set_option maxHeartbeats 1000000 in
set_option maxRecDepth 100000 in
theorem cM_item_no (l : Launch) (hP : va_P D vwCl (mW R o K va fl n th ch mn po an) H) (h : n = 200) : Met l yX2_item (tC yX2_item cX2_item 1 (some .int)) (rmK 0 0 0) (kP D K H [.ref (o 0)]) (k2_QcV (.int (-1))) 0 0 (fun _ => False) := by
  refine Met.ofW (cc := cX2_item) (maxL := 1) (ret := (some .int)) (by decide) rfl ?_
  intro p e s m args below meth c s₁ B hml hv
  obtain ⟨rfl, hH, hK, hN, hO⟩ := hv
  have hx := B.exec
  have hb := B.bytes
  have hr := B.returns
  have hts : ∀ w ∈ tT, w.before _ s = true := fun w h => atoms_spec (ws := tC yX2_item cX2_item 1 (some .int)) B.pre w (List.mem_cons_of_mem _ h)
  have hown : s.vm.findClass RX2 = some m.cls := findClass_of_methodNamed B.named
  have hlocks := B.notSynchronized
  have C : cx RX2 D K p s m _ c cX2_item := ⟨hx, hb, hown, hts, hK, hN, hO⟩
  have hR : rmOk (headSpec (tC yX2_item cX2_item 1 (some .int)) (rmK 0 0 0)).room 0 0 0 := ⟨Nat.le_refl _, Nat.le_refl _, Nat.le_refl _, Nat.le_refl _⟩
  subst hH
  have hl := lv_entry ([.ref (o 0)]) (n := 1) (Nat.le_of_ble_eq_true rfl)
  rw [lg_entry_eq]
  generalize (lg_sl ([.ref (o 0)]) ++ List.replicate (1 - (lg_sl ([.ref (o 0)])).length) Slot.unset).toArray = ls at hl ⊢
  have hl : lv_has ls 1 [(0, .ref (o 0))] := hl
  refine lv_aload_n hx hb dX2_item_0 rfl (lv_at hl 0 rfl) ?_
  refine gM_items C hP dX2_item_1 ?_
  refine lv_sipush (v := nI 200) hx hb dX2_item_4 (by decide) ?_
  refine lv_icmp_ne (tgt := 12) hx hb dX2_item_7 (by decide) (fun c1 => ?_) (fun c1 => ?_)
  · have c1 : ¬ n = 200 := fun z9 => c1 ((nI_eq (by omega) (by omega)).mpr z9)
    exact absurd h c1
  · have c1 : n = 200 := (nI_eq (by omega) (by omega)).mp c1
    refine lv_iconst (v := (-1)) hx hb dX2_item_10 (by decide) ?_
    exact W.iret (v := (-1)) hx hb hr (fun t ht _ => ⟨rfl, ht⟩) (fun q h => by cases h) dX2_item_11
set_option maxHeartbeats 1000000 in
set_option maxRecDepth 100000 in
theorem cM_item (l : Launch) (hP : va_P D vwCl (mW R o K va fl n th ch mn po an) H) (hD : va_D A (mW R o K va fl n th ch mn po an)) (h : n < 200) : Met l yX2_item (tC yX2_item cX2_item 1 (some .int)) (rmK 0 0 0) (kP D K H [.ref (o 0)]) (qI D A (fun (r : Int32) (u : Unit) => r = nI n) (fun u : Unit => mW R o K va fl (n + 1) (va_up th n true) ch mn po an)) 0 0 A := by
  refine Met.ofW (cc := cX2_item) (maxL := 1) (ret := (some .int)) (by decide) rfl ?_
  intro p e s m args below meth c s₁ B hml hv
  obtain ⟨rfl, hH, hK, hN, hO⟩ := hv
  have hx := B.exec
  have hb := B.bytes
  have hr := B.returns
  have hts : ∀ w ∈ tT, w.before _ s = true := fun w h => atoms_spec (ws := tC yX2_item cX2_item 1 (some .int)) B.pre w (List.mem_cons_of_mem _ h)
  have hown : s.vm.findClass RX2 = some m.cls := findClass_of_methodNamed B.named
  have hlocks := B.notSynchronized
  have C : cx RX2 D K p s m _ c cX2_item := ⟨hx, hb, hown, hts, hK, hN, hO⟩
  have hR : rmOk (headSpec (tC yX2_item cX2_item 1 (some .int)) (rmK 0 0 0)).room 0 0 0 := ⟨Nat.le_refl _, Nat.le_refl _, Nat.le_refl _, Nat.le_refl _⟩
  subst hH
  have hS : va_S A s.heap s.heap [] := va_S.rf
  have hl := lv_entry ([.ref (o 0)]) (n := 1) (Nat.le_of_ble_eq_true rfl)
  rw [lg_entry_eq]
  generalize (lg_sl ([.ref (o 0)]) ++ List.replicate (1 - (lg_sl ([.ref (o 0)])).length) Slot.unset).toArray = ls at hl ⊢
  have hl : lv_has ls 1 [(0, .ref (o 0))] := hl
  refine lv_aload_n hx hb dX2_item_0 rfl (lv_at hl 0 rfl) ?_
  refine gM_items C hP dX2_item_1 ?_
  refine lv_sipush (v := nI 200) hx hb dX2_item_4 (by decide) ?_
  refine lv_icmp_ne (tgt := 12) hx hb dX2_item_7 (by decide) (fun c1 => ?_) (fun c1 => ?_)
  · have c1 : ¬ n = 200 := fun z9 => c1 ((nI_eq (by omega) (by omega)).mpr z9)
    refine lv_aload_n hx hb dX2_item_12 rfl (lv_at hl 0 rfl) ?_
    refine gM_there C hP dX2_item_13 ?_
    refine lv_aload_n hx hb dX2_item_16 rfl (lv_at hl 0 rfl) ?_
    refine gM_items C hP dX2_item_17 ?_
    refine lv_iconst (v := nI 1) hx hb dX2_item_20 (by decide) ?_
    refine tp_i (y := bI true) (b1 rfl) ?_
    refine sM_there (x := true) C hP hD hS (by omega) dX2_item_21 (fun H locs hP hD hS => ?_)
    refine lv_aload_n hx hb dX2_item_22 rfl (lv_at hl 0 rfl) ?_
    refine lv_aload_n hx hb dX2_item_23 rfl (lv_at hl 0 rfl) ?_
    refine gM_items C hP dX2_item_24 ?_
    refine lv_iconst (v := nI 1) hx hb dX2_item_27 (by decide) ?_
    refine lv_iadd hx hb dX2_item_28 ?_
    refine tp_i (y := nI (n + 1)) (nI_add n 1) ?_
    refine pM_items C hP hD hS dX2_item_29 (fun H locs hP hD hS => ?_)
    refine lv_aload_n hx hb dX2_item_32 rfl (lv_at hl 0 rfl) ?_
    refine gM_items C hP dX2_item_33 ?_
    refine lv_iconst (v := nI 1) hx hb dX2_item_36 (by decide) ?_
    refine lv_isub hx hb dX2_item_37 ?_
    refine tp_i (y := nI ((n + 1) - 1)) (pk_sub (by omega)) ?_
    refine tp_i (y := nI n) (congrArg nI (Nat.add_sub_cancel n 1)) ?_
    exact W.iret (v := nI n) hx hb hr (fun t ht _ => ⟨⟨_, (), rfl, rfl, by rw [ht]; exact hP, hD⟩, hS.F ht⟩) hS.2.2 dX2_item_38
  · have c1 : n = 200 := (nI_eq (by omega) (by omega)).mp c1
    exact absurd c1 (by omega)
set_option maxHeartbeats 1000000 in
set_option maxRecDepth 100000 in
theorem cM_isThere (l : Launch) (hP : va_P D vwCl (mW R o K va fl n th ch mn po an) H) (hn200 : n ≤ 200) {i : Nat} (hi : i < n) (hT : th i = true) : Met l yX2_isThere (tC yX2_isThere cX2_isThere 2 (some .boolean)) (rmK 0 0 0) (kP D K H [.ref (o 0), .int (nI i)]) (k2_QcV (.int (nI 1))) 0 0 (fun _ => False) := by
  refine Met.ofW (cc := cX2_isThere) (maxL := 2) (ret := (some .boolean)) (by decide) rfl ?_
  intro p e s m args below meth c s₁ B hml hv
  obtain ⟨rfl, hH, hK, hN, hO⟩ := hv
  have hx := B.exec
  have hb := B.bytes
  have hr := B.returns
  have hts : ∀ w ∈ tT, w.before _ s = true := fun w h => atoms_spec (ws := tC yX2_isThere cX2_isThere 2 (some .boolean)) B.pre w (List.mem_cons_of_mem _ h)
  have hown : s.vm.findClass RX2 = some m.cls := findClass_of_methodNamed B.named
  have hlocks := B.notSynchronized
  have C : cx RX2 D K p s m _ c cX2_isThere := ⟨hx, hb, hown, hts, hK, hN, hO⟩
  have hR : rmOk (headSpec (tC yX2_isThere cX2_isThere 2 (some .boolean)) (rmK 0 0 0)).room 0 0 0 := ⟨Nat.le_refl _, Nat.le_refl _, Nat.le_refl _, Nat.le_refl _⟩
  subst hH
  have hl := lv_entry ([.ref (o 0), .int (nI i)]) (n := 2) (Nat.le_of_ble_eq_true rfl)
  rw [lg_entry_eq]
  generalize (lg_sl ([.ref (o 0), .int (nI i)]) ++ List.replicate (2 - (lg_sl ([.ref (o 0), .int (nI i)])).length) Slot.unset).toArray = ls at hl ⊢
  have hl : lv_has ls 2 [(0, .ref (o 0)), (1, .int (nI i))] := hl
  refine lv_iload_n hx hb dX2_isThere_0 rfl (lv_at hl 1 rfl) ?_
  refine lv_if_lt (tgt := 25) hx hb dX2_isThere_1 (by decide) (fun c1 => ?_) (fun c1 => ?_)
  · exact absurd c1 (nI_pos (by omega))
  · refine lv_iload_n hx hb dX2_isThere_4 rfl (lv_at hl 1 rfl) ?_
    refine lv_aload_n hx hb dX2_isThere_5 rfl (lv_at hl 0 rfl) ?_
    refine gM_items C hP dX2_isThere_6 ?_
    refine lv_icmp_ge (tgt := 25) hx hb dX2_isThere_9 (by decide) (fun c2 => ?_) (fun c2 => ?_)
    · have c2 : n ≤ i := (nI_leI (by omega) (by omega)).mp c2
      exact absurd hi (by omega)
    · have c2 : ¬ n ≤ i := fun z9 => c2 ((nI_leI (by omega) (by omega)).mpr z9)
      refine lv_aload_n hx hb dX2_isThere_12 rfl (lv_at hl 0 rfl) ?_
      refine gM_there C hP dX2_isThere_13 ?_
      refine lv_iload_n hx hb dX2_isThere_16 rfl (lv_at hl 1 rfl) ?_
      refine lM_there C hP (by omega) dX2_isThere_17 ?_
      refine lv_if_eq (tgt := 25) hx hb dX2_isThere_18 (by decide) (fun c3 => ?_) (fun c3 => ?_)
      · have c3 : (th i) = false := (bI_z (th i)).mp c3
        exact absurd (hT.symm.trans c3) (by decide)
      · have c3 : (th i) = true := (bI_nz (th i)).mp c3
        refine lv_iconst (v := nI 1) hx hb dX2_isThere_21 (by decide) ?_
        refine lv_goto (tgt := 26) hx hb dX2_isThere_22 (by decide) ?_
        exact W.zret (v := nI 1) hx hb hr (by decide) (fun t ht _ => ⟨rfl, ht⟩) (fun q h => by cases h) dX2_isThere_26
set_option maxHeartbeats 1000000 in
set_option maxRecDepth 100000 in
theorem cM_isThere_no (l : Launch) (hP : va_P D vwCl (mW R o K va fl n th ch mn po an) H) (hn200 : n ≤ 200) (x : Int32) (h : nT n th x) : Met l yX2_isThere (tC yX2_isThere cX2_isThere 2 (some .boolean)) (rmK 0 0 0) (kP D K H [.ref (o 0), .int x]) (k2_QcV (.int (nI 0))) 0 0 (fun _ => False) := by
  refine Met.ofW (cc := cX2_isThere) (maxL := 2) (ret := (some .boolean)) (by decide) rfl ?_
  intro p e s m args below meth c s₁ B hml hv
  obtain ⟨rfl, hH, hK, hN, hO⟩ := hv
  have hx := B.exec
  have hb := B.bytes
  have hr := B.returns
  have hts : ∀ w ∈ tT, w.before _ s = true := fun w h => atoms_spec (ws := tC yX2_isThere cX2_isThere 2 (some .boolean)) B.pre w (List.mem_cons_of_mem _ h)
  have hown : s.vm.findClass RX2 = some m.cls := findClass_of_methodNamed B.named
  have hlocks := B.notSynchronized
  have C : cx RX2 D K p s m _ c cX2_isThere := ⟨hx, hb, hown, hts, hK, hN, hO⟩
  have hR : rmOk (headSpec (tC yX2_isThere cX2_isThere 2 (some .boolean)) (rmK 0 0 0)).room 0 0 0 := ⟨Nat.le_refl _, Nat.le_refl _, Nat.le_refl _, Nat.le_refl _⟩
  subst hH
  have hl := lv_entry ([.ref (o 0), .int x]) (n := 2) (Nat.le_of_ble_eq_true rfl)
  rw [lg_entry_eq]
  generalize (lg_sl ([.ref (o 0), .int x]) ++ List.replicate (2 - (lg_sl ([.ref (o 0), .int x])).length) Slot.unset).toArray = ls at hl ⊢
  have hl : lv_has ls 2 [(0, .ref (o 0)), (1, .int x)] := hl
  rcases h with h | h | ⟨i, hi, rfl, hT⟩
  · refine lv_iload_n hx hb dX2_isThere_0 rfl (lv_at hl 1 rfl) ?_
    refine lv_if_lt (tgt := 25) hx hb dX2_isThere_1 (by decide) (fun c1 => ?_) (fun c1 => ?_)
    · refine lv_iconst (v := nI 0) hx hb dX2_isThere_25 (by decide) ?_
      exact W.zret (v := nI 0) hx hb hr (by decide) (fun t ht _ => ⟨rfl, ht⟩) (fun q h => by cases h) dX2_isThere_26
    · exact absurd h c1
  · refine lv_iload_n hx hb dX2_isThere_0 rfl (lv_at hl 1 rfl) ?_
    refine lv_if_lt (tgt := 25) hx hb dX2_isThere_1 (by decide) (fun c1 => ?_) (fun c1 => ?_)
    · refine lv_iconst (v := nI 0) hx hb dX2_isThere_25 (by decide) ?_
      exact W.zret (v := nI 0) hx hb hr (by decide) (fun t ht _ => ⟨rfl, ht⟩) (fun q h => by cases h) dX2_isThere_26
    · refine lv_iload_n hx hb dX2_isThere_4 rfl (lv_at hl 1 rfl) ?_
      refine lv_aload_n hx hb dX2_isThere_5 rfl (lv_at hl 0 rfl) ?_
      refine gM_items C hP dX2_isThere_6 ?_
      refine lv_icmp_ge (tgt := 25) hx hb dX2_isThere_9 (by decide) (fun c2 => ?_) (fun c2 => ?_)
      · refine lv_iconst (v := nI 0) hx hb dX2_isThere_25 (by decide) ?_
        exact W.zret (v := nI 0) hx hb hr (by decide) (fun t ht _ => ⟨rfl, ht⟩) (fun q h => by cases h) dX2_isThere_26
      · exact absurd h c2
  · refine lv_iload_n hx hb dX2_isThere_0 rfl (lv_at hl 1 rfl) ?_
    refine lv_if_lt (tgt := 25) hx hb dX2_isThere_1 (by decide) (fun c1 => ?_) (fun c1 => ?_)
    · exact absurd c1 (nI_pos (by omega))
    · refine lv_iload_n hx hb dX2_isThere_4 rfl (lv_at hl 1 rfl) ?_
      refine lv_aload_n hx hb dX2_isThere_5 rfl (lv_at hl 0 rfl) ?_
      refine gM_items C hP dX2_isThere_6 ?_
      refine lv_icmp_ge (tgt := 25) hx hb dX2_isThere_9 (by decide) (fun c2 => ?_) (fun c2 => ?_)
      · have c2 : n ≤ i := (nI_leI (by omega) (by omega)).mp c2
        exact absurd hi (by omega)
      · have c2 : ¬ n ≤ i := fun z9 => c2 ((nI_leI (by omega) (by omega)).mpr z9)
        refine lv_aload_n hx hb dX2_isThere_12 rfl (lv_at hl 0 rfl) ?_
        refine gM_there C hP dX2_isThere_13 ?_
        refine lv_iload_n hx hb dX2_isThere_16 rfl (lv_at hl 1 rfl) ?_
        refine lM_there C hP (by omega) dX2_isThere_17 ?_
        refine lv_if_eq (tgt := 25) hx hb dX2_isThere_18 (by decide) (fun c3 => ?_) (fun c3 => ?_)
        · have c3 : (th i) = false := (bI_z (th i)).mp c3
          refine lv_iconst (v := nI 0) hx hb dX2_isThere_25 (by decide) ?_
          exact W.zret (v := nI 0) hx hb hr (by decide) (fun t ht _ => ⟨rfl, ht⟩) (fun q h => by cases h) dX2_isThere_26
        · have c3 : (th i) = true := (bI_nz (th i)).mp c3
          exact absurd (c3.symm.trans hT) (by decide)
set_option maxHeartbeats 1000000 in
set_option maxRecDepth 100000 in
theorem cM_find (l : Launch) (hP : va_P D vwCl (mW R o K va fl n th ch mn po an) H) {i g : Nat} (hi : i < 200) (hmi : mn i ≤ 16) (hpo : ∀ k, k < mn i → psM po i k < 300) (hp : g < 300) : Met l yX2_find (tC yX2_find cX2_find 4 (some .int)) (rmK 0 0 0) (kP D K H [.ref (o 0), .int (nI i), .int (nI g)]) (k2_QcV (.int (nI (mfd mn po i g)))) 0 0 (fun _ => False) := by
  refine Met.ofW (cc := cX2_find) (maxL := 4) (ret := (some .int)) (by decide) rfl ?_
  intro p e s m args below meth c s₁ B hml hv
  obtain ⟨rfl, hH, hK, hN, hO⟩ := hv
  have hx := B.exec
  have hb := B.bytes
  have hr := B.returns
  have hts : ∀ w ∈ tT, w.before _ s = true := fun w h => atoms_spec (ws := tC yX2_find cX2_find 4 (some .int)) B.pre w (List.mem_cons_of_mem _ h)
  have hown : s.vm.findClass RX2 = some m.cls := findClass_of_methodNamed B.named
  have hlocks := B.notSynchronized
  have C : cx RX2 D K p s m _ c cX2_find := ⟨hx, hb, hown, hts, hK, hN, hO⟩
  have hR : rmOk (headSpec (tC yX2_find cX2_find 4 (some .int)) (rmK 0 0 0)).room 0 0 0 := ⟨Nat.le_refl _, Nat.le_refl _, Nat.le_refl _, Nat.le_refl _⟩
  subst hH
  have hl := lv_entry ([.ref (o 0), .int (nI i), .int (nI g)]) (n := 4) (Nat.le_of_ble_eq_true rfl)
  rw [lg_entry_eq]
  generalize (lg_sl ([.ref (o 0), .int (nI i), .int (nI g)]) ++ List.replicate (4 - (lg_sl ([.ref (o 0), .int (nI i), .int (nI g)])).length) Slot.unset).toArray = ls at hl ⊢
  have hl : lv_has ls 4 [(0, .ref (o 0)), (1, .int (nI i)), (2, .int (nI g))] := hl
  refine lv_bipush (v := nI 16) hx hb dX2_find_0 (by decide) ?_
  refine lv_iload_n hx hb dX2_find_2 rfl (lv_at hl 1 rfl) ?_
  refine lv_imul hx hb dX2_find_3 ?_
  refine tp_i (y := nI (16 * i)) (pk_mul 16 i) ?_
  refine lv_istore_n (lv' := [(3, .int (nI (16 * i))), (0, .ref (o 0)), (1, .int (nI i)), (2, .int (nI g))]) hx hb dX2_find_4 rfl hl (by decide) rfl (fun ls hl => ?_)
  refine lpW (U := 16 * i + mn i) (pcH := 5) (I := fun k ls => lv_has ls 4 [(3, .int (nI k)), (0, .ref (o 0)), (1, .int (nI i)), (2, .int (nI g))] ∧ 16 * i ≤ k ∧ ∀ j, 16 * i ≤ j → j < k → ¬ po j = g) (fun k ls hkk hI ihk => ?_) (16 * i) ls (Nat.le_add_right _ _) ⟨(lv_sub hl [0, 1, 2, 3] rfl), Nat.le_refl _, fun j h1 h2 => absurd h2 (by omega)⟩
  obtain ⟨hl, hk0, hm⟩ := hI
  refine lv_iload_n hx hb dX2_find_5 rfl (lv_at hl 0 rfl) ?_
  refine lv_bipush (v := nI 16) hx hb dX2_find_6 (by decide) ?_
  refine lv_iload_n hx hb dX2_find_8 rfl (lv_at hl 2 rfl) ?_
  refine lv_imul hx hb dX2_find_9 ?_
  refine tp_i (y := nI (16 * i)) (pk_mul 16 i) ?_
  refine lv_aload_n hx hb dX2_find_10 rfl (lv_at hl 1 rfl) ?_
  refine gM_many C hP dX2_find_11 ?_
  refine lv_iload_n hx hb dX2_find_14 rfl (lv_at hl 2 rfl) ?_
  refine lM_many C hP (by omega) dX2_find_15 ?_
  refine lv_iadd hx hb dX2_find_16 ?_
  refine tp_i (y := nI ((16 * i) + (mn i))) (nI_add (16 * i) (mn i)) ?_
  refine lv_icmp_ge (tgt := 37) hx hb dX2_find_17 (by decide) (fun c1 => ?_) (fun c1 => ?_)
  · have c1 : ((16 * i) + (mn i)) ≤ k := (nI_leI (by omega) (by omega)).mp c1
    refine lv_iload_n hx hb dX2_find_37 rfl (lv_at hl 0 rfl) ?_
    exact W.iret (v := nI k) hx hb hr (fun t ht _ => ⟨rti (congrArg nI ((show k = 16 * i + mn i by omega).trans (fs_no2 (q := mq po g) (fun j h1 h2 => decide_eq_false (hm j h1 (by omega)))).symm)), ht⟩) (fun q h => by cases h) dX2_find_38
  · have c1 : ¬ ((16 * i) + (mn i)) ≤ k := fun z9 => c1 ((nI_leI (by omega) (by omega)).mpr z9)
    have hpk : po k < 300 := by
      have g0 := hpo (k - 16 * i) (by omega)
      rw [show psM po i (k - 16 * i) = po k from congrArg po (by omega)] at g0
      exact g0
    refine lv_aload_n hx hb dX2_find_20 rfl (lv_at hl 1 rfl) ?_
    refine gM_positions C hP dX2_find_21 ?_
    refine lv_iload_n hx hb dX2_find_24 rfl (lv_at hl 0 rfl) ?_
    refine lM_positions C hP (by omega) dX2_find_25 ?_
    refine lv_iload_n hx hb dX2_find_26 rfl (lv_at hl 3 rfl) ?_
    refine lv_icmp_eq (tgt := 37) hx hb dX2_find_27 (by decide) (fun c2 => ?_) (fun c2 => ?_)
    · have c2 : (po k) = g := (nI_eq (by omega) (by omega)).mp c2
      refine lv_iload_n hx hb dX2_find_37 rfl (lv_at hl 0 rfl) ?_
      exact W.iret (v := nI k) hx hb hr (fun t ht _ => ⟨rti (congrArg nI (fs_eq2 (q := mq po g) hk0 (by omega) (decide_eq_true c2) (fun j h1 h2 => decide_eq_false (hm j h1 h2))).symm), ht⟩) (fun q h => by cases h) dX2_find_38
    · have c2 : ¬ (po k) = g := fun z9 => c2 ((nI_eq (by omega) (by omega)).mpr z9)
      refine lv_iload_n hx hb dX2_find_30 rfl (lv_at hl 0 rfl) ?_
      refine lv_iconst (v := nI 1) hx hb dX2_find_31 (by decide) ?_
      refine lv_iadd hx hb dX2_find_32 ?_
      refine tp_i (y := nI (k + 1)) (nI_add k 1) ?_
      refine lv_istore_n (lv' := [(3, .int (nI (k + 1))), (0, .ref (o 0)), (1, .int (nI i)), (2, .int (nI g))]) hx hb dX2_find_33 rfl hl (by decide) rfl (fun ls hl => ?_)
      refine lv_goto (tgt := 5) hx hb dX2_find_34 (by decide) ?_
      exact ihk (by omega) ls ⟨(lv_sub hl [0, 1, 2, 3] rfl), by omega, fun j h1 h2 => by
        by_cases ej : j = k
        · rw [ej]; exact c2
        · exact hm j h1 (by omega)⟩
set_option maxHeartbeats 1000000 in
set_option maxRecDepth 100000 in
theorem cM_netAt (l : Launch) (hP : va_P D vwCl (mW R o K va fl n th ch mn po an) H) {i g : Nat} (hi : i < 200) (hmi : mn i ≤ 16) (hpo : ∀ k, k < mn i → psM po i k < 300) (hp : g < 300) : Met l yX2_netAt (tC yX2_netAt cX2_netAt 4 (some .long)) (rmK 1 0 0) (kP D K H [.ref (o 0), .int (nI i), .int (nI g)]) (k2_QcV (.long (netA mn po an i g))) 0 0 (fun _ => False) := by
  refine Met.ofW (cc := cX2_netAt) (maxL := 4) (ret := (some .long)) (by decide) rfl ?_
  intro p e s m args below meth c s₁ B hml hv
  obtain ⟨rfl, hH, hK, hN, hO⟩ := hv
  have hx := B.exec
  have hb := B.bytes
  have hr := B.returns
  have hts : ∀ w ∈ tT, w.before _ s = true := fun w h => atoms_spec (ws := tC yX2_netAt cX2_netAt 4 (some .long)) B.pre w (List.mem_cons_of_mem _ h)
  have hown : s.vm.findClass RX2 = some m.cls := findClass_of_methodNamed B.named
  have hlocks := B.notSynchronized
  have C : cx RX2 D K p s m _ c cX2_netAt := ⟨hx, hb, hown, hts, hK, hN, hO⟩
  have hR : rmOk (headSpec (tC yX2_netAt cX2_netAt 4 (some .long)) (rmK 1 0 0)).room 1 0 0 := ⟨Nat.le_refl _, Nat.le_refl _, Nat.le_refl _, Nat.le_refl _⟩
  subst hH
  have hl := lv_entry ([.ref (o 0), .int (nI i), .int (nI g)]) (n := 4) (Nat.le_of_ble_eq_true rfl)
  rw [lg_entry_eq]
  generalize (lg_sl ([.ref (o 0), .int (nI i), .int (nI g)]) ++ List.replicate (4 - (lg_sl ([.ref (o 0), .int (nI i), .int (nI g)])).length) Slot.unset).toArray = ls at hl ⊢
  have hl : lv_has ls 4 [(0, .ref (o 0)), (1, .int (nI i)), (2, .int (nI g))] := hl
  have hle : mfd mn po i g ≤ 16 * i + mn i := fs_le _ _ _
  refine lv_aload_n hx hb dX2_netAt_0 rfl (lv_at hl 0 rfl) ?_
  refine lv_iload_n hx hb dX2_netAt_1 rfl (lv_at hl 1 rfl) ?_
  refine lv_iload_n hx hb dX2_netAt_2 rfl (lv_at hl 2 rfl) ?_
  refine pv (va_runV (As := [.int (nI i), .int (nI g)]) (rest := []) ⟨hx, hb, hml, hown, hts⟩ (cM_find l hP hi hmi hpo hp) (cwV 2 hts gM_49 rfl rfl rfl (by decide +kernel) (rmF hR (by decide) (by decide))) (kP_V C (va_recv C.2.2.2.2.1 hP (ci := ciM) (q0 := 0) rfl rfl)) rfl rfl hl.1 rfl (lv_room (Nat.le_of_ble_eq_true rfl)) dX2_netAt_3 ⟨hR.2.2.1, hR.2.2.2⟩) ?_
  refine lv_istore_n (lv' := [(3, .int (nI (mfd mn po i g))), (0, .ref (o 0)), (1, .int (nI i)), (2, .int (nI g))]) hx hb dX2_netAt_6 rfl hl (by decide) rfl (fun ls hl => ?_)
  refine lv_iload_n hx hb dX2_netAt_7 rfl (lv_at hl 0 rfl) ?_
  refine lv_bipush (v := nI 16) hx hb dX2_netAt_8 (by decide) ?_
  refine lv_iload_n hx hb dX2_netAt_10 rfl (lv_at hl 2 rfl) ?_
  refine lv_imul hx hb dX2_netAt_11 ?_
  refine tp_i (y := nI (16 * i)) (pk_mul 16 i) ?_
  refine lv_aload_n hx hb dX2_netAt_12 rfl (lv_at hl 1 rfl) ?_
  refine gM_many C hP dX2_netAt_13 ?_
  refine lv_iload_n hx hb dX2_netAt_16 rfl (lv_at hl 2 rfl) ?_
  refine lM_many C hP (by omega) dX2_netAt_17 ?_
  refine lv_iadd hx hb dX2_netAt_18 ?_
  refine tp_i (y := nI ((16 * i) + (mn i))) (nI_add (16 * i) (mn i)) ?_
  refine lv_icmp_ge (tgt := 31) hx hb dX2_netAt_19 (by decide) (fun c1 => ?_) (fun c1 => ?_)
  · have c1 : ((16 * i) + (mn i)) ≤ (mfd mn po i g) := (nI_leI (by omega) (by omega)).mp c1
    refine lv_lconst (v := 0) hx hb dX2_netAt_31 (by decide) ?_
    exact W.lret (v := 0) hx hb hr (fun t ht _ => ⟨rtl (if_neg (by omega)).symm, ht⟩) (fun q h => by cases h) dX2_netAt_32
  · have c1 : ¬ ((16 * i) + (mn i)) ≤ (mfd mn po i g) := fun z9 => c1 ((nI_leI (by omega) (by omega)).mpr z9)
    refine lv_aload_n hx hb dX2_netAt_22 rfl (lv_at hl 1 rfl) ?_
    refine gM_amounts C hP dX2_netAt_23 ?_
    refine lv_iload_n hx hb dX2_netAt_26 rfl (lv_at hl 0 rfl) ?_
    refine lM_amounts C hP (by omega) dX2_netAt_27 ?_
    refine lv_goto (tgt := 32) hx hb dX2_netAt_28 (by decide) ?_
    exact W.lret (v := an (mfd mn po i g)) hx hb hr (fun t ht _ => ⟨rtl (if_pos (by omega)).symm, ht⟩) (fun q h => by cases h) dX2_netAt_32
set_option maxHeartbeats 1000000 in
set_option maxRecDepth 100000 in
theorem cM_go_no (l : Launch) (hP : va_P D vwCl (mW R o K va fl n th ch mn po an) H) (hn200 : n ≤ 200) (x : Int32) (h : nT n th x) : Met l yX2_go (tC yX2_go cX2_go 2 (some .boolean)) (rmK 1 0 0) (kP D K H [.ref (o 0), .int x]) (k2_QcV (.int (nI 0))) 0 0 (fun _ => False) := by
  refine Met.ofW (cc := cX2_go) (maxL := 2) (ret := (some .boolean)) (by decide) rfl ?_
  intro p e s m args below meth c s₁ B hml hv
  obtain ⟨rfl, hH, hK, hN, hO⟩ := hv
  have hx := B.exec
  have hb := B.bytes
  have hr := B.returns
  have hts : ∀ w ∈ tT, w.before _ s = true := fun w h => atoms_spec (ws := tC yX2_go cX2_go 2 (some .boolean)) B.pre w (List.mem_cons_of_mem _ h)
  have hown : s.vm.findClass RX2 = some m.cls := findClass_of_methodNamed B.named
  have hlocks := B.notSynchronized
  have C : cx RX2 D K p s m _ c cX2_go := ⟨hx, hb, hown, hts, hK, hN, hO⟩
  have hR : rmOk (headSpec (tC yX2_go cX2_go 2 (some .boolean)) (rmK 1 0 0)).room 1 0 0 := ⟨Nat.le_refl _, Nat.le_refl _, Nat.le_refl _, Nat.le_refl _⟩
  subst hH
  have hl := lv_entry ([.ref (o 0), .int x]) (n := 2) (Nat.le_of_ble_eq_true rfl)
  rw [lg_entry_eq]
  generalize (lg_sl ([.ref (o 0), .int x]) ++ List.replicate (2 - (lg_sl ([.ref (o 0), .int x])).length) Slot.unset).toArray = ls at hl ⊢
  have hl : lv_has ls 2 [(0, .ref (o 0)), (1, .int x)] := hl
  refine lv_aload_n hx hb dX2_go_0 rfl (lv_at hl 0 rfl) ?_
  refine lv_iload_n hx hb dX2_go_1 rfl (lv_at hl 1 rfl) ?_
  refine pv (va_runV (As := [.int x]) (rest := []) ⟨hx, hb, hml, hown, hts⟩ (cM_isThere_no l hP hn200 x h) (cwV 1 hts gM_53 rfl rfl rfl (by decide +kernel) (rmF hR (by decide) (by decide))) (kP_V C (va_recv C.2.2.2.2.1 hP (ci := ciM) (q0 := 0) rfl rfl)) rfl rfl hl.1 rfl (lv_room (Nat.le_of_ble_eq_true rfl)) dX2_go_2 ⟨hR.2.2.1, hR.2.2.2⟩) ?_
  refine lv_if_ne (tgt := 10) hx hb dX2_go_5 (by decide) (fun c1 => ?_) (fun c1 => ?_)
  · exact absurd (by decide) c1
  · refine lv_iconst (v := nI 0) hx hb dX2_go_8 (by decide) ?_
    exact W.zret (v := nI 0) hx hb hr (by decide) (fun t ht _ => ⟨rfl, ht⟩) (fun q h => by cases h) dX2_go_9
set_option maxHeartbeats 1000000 in
set_option maxRecDepth 100000 in
theorem cM_go (l : Launch) (hP : va_P D vwCl (mW R o K va fl n th ch mn po an) H) (hD : va_D A (mW R o K va fl n th ch mn po an)) (hn200 : n ≤ 200) {i : Nat} (hi : i < n) (hT : th i = true) : Met l yX2_go (tC yX2_go cX2_go 2 (some .boolean)) (rmK 1 0 0) (kP D K H [.ref (o 0), .int (nI i)]) (qI D A (fun (r : Int32) (u : Unit) => r = nI 1) (fun u : Unit => mW R o K va fl n (va_up th i false) ch mn po an)) 0 0 A := by
  refine Met.ofW (cc := cX2_go) (maxL := 2) (ret := (some .boolean)) (by decide) rfl ?_
  intro p e s m args below meth c s₁ B hml hv
  obtain ⟨rfl, hH, hK, hN, hO⟩ := hv
  have hx := B.exec
  have hb := B.bytes
  have hr := B.returns
  have hts : ∀ w ∈ tT, w.before _ s = true := fun w h => atoms_spec (ws := tC yX2_go cX2_go 2 (some .boolean)) B.pre w (List.mem_cons_of_mem _ h)
  have hown : s.vm.findClass RX2 = some m.cls := findClass_of_methodNamed B.named
  have hlocks := B.notSynchronized
  have C : cx RX2 D K p s m _ c cX2_go := ⟨hx, hb, hown, hts, hK, hN, hO⟩
  have hR : rmOk (headSpec (tC yX2_go cX2_go 2 (some .boolean)) (rmK 1 0 0)).room 1 0 0 := ⟨Nat.le_refl _, Nat.le_refl _, Nat.le_refl _, Nat.le_refl _⟩
  subst hH
  have hS : va_S A s.heap s.heap [] := va_S.rf
  have hl := lv_entry ([.ref (o 0), .int (nI i)]) (n := 2) (Nat.le_of_ble_eq_true rfl)
  rw [lg_entry_eq]
  generalize (lg_sl ([.ref (o 0), .int (nI i)]) ++ List.replicate (2 - (lg_sl ([.ref (o 0), .int (nI i)])).length) Slot.unset).toArray = ls at hl ⊢
  have hl : lv_has ls 2 [(0, .ref (o 0)), (1, .int (nI i))] := hl
  refine lv_aload_n hx hb dX2_go_0 rfl (lv_at hl 0 rfl) ?_
  refine lv_iload_n hx hb dX2_go_1 rfl (lv_at hl 1 rfl) ?_
  refine pv (va_runV (As := [.int (nI i)]) (rest := []) ⟨hx, hb, hml, hown, hts⟩ (cM_isThere l hP hn200 hi hT) (cwV 1 hts gM_53 rfl rfl rfl (by decide +kernel) (rmF hR (by decide) (by decide))) (kP_V C (va_recv C.2.2.2.2.1 hP (ci := ciM) (q0 := 0) rfl rfl)) rfl rfl hl.1 rfl (lv_room (Nat.le_of_ble_eq_true rfl)) dX2_go_2 ⟨hR.2.2.1, hR.2.2.2⟩) ?_
  refine lv_if_ne (tgt := 10) hx hb dX2_go_5 (by decide) (fun c1 => ?_) (fun c1 => ?_)
  · refine lv_aload_n hx hb dX2_go_10 rfl (lv_at hl 0 rfl) ?_
    refine gM_there C hP dX2_go_11 ?_
    refine lv_iload_n hx hb dX2_go_14 rfl (lv_at hl 1 rfl) ?_
    refine lv_iconst (v := nI 0) hx hb dX2_go_15 (by decide) ?_
    refine tp_i (y := bI false) (b0 rfl) ?_
    refine sM_there (x := false) C hP hD hS (by omega) dX2_go_16 (fun H locs hP hD hS => ?_)
    refine lv_iconst (v := nI 1) hx hb dX2_go_17 (by decide) ?_
    exact W.zret (v := nI 1) hx hb hr (by decide) (fun t ht _ => ⟨⟨_, (), rfl, rfl, by rw [ht]; exact hP, hD⟩, hS.F ht⟩) hS.2.2 dX2_go_18
  · exact absurd c1 (by decide)
set_option maxHeartbeats 1000000 in
set_option maxRecDepth 100000 in
theorem cM_in_no (l : Launch) (hP : va_P D vwCl (mW R o K va fl n th ch mn po an) H) (x : Int32) (h : x < 0 ∨ nI 200 ≤ x) : Met l yX2_in (tC yX2_in cX2_in 2 (some .boolean)) (rmK 0 0 0) (kP D K H [.ref (o 0), .int x]) (k2_QcV (.int (nI 0))) 0 0 (fun _ => False) := by
  refine Met.ofW (cc := cX2_in) (maxL := 2) (ret := (some .boolean)) (by decide) rfl ?_
  intro p e s m args below meth c s₁ B hml hv
  obtain ⟨rfl, hH, hK, hN, hO⟩ := hv
  have hx := B.exec
  have hb := B.bytes
  have hr := B.returns
  have hts : ∀ w ∈ tT, w.before _ s = true := fun w h => atoms_spec (ws := tC yX2_in cX2_in 2 (some .boolean)) B.pre w (List.mem_cons_of_mem _ h)
  have hown : s.vm.findClass RX2 = some m.cls := findClass_of_methodNamed B.named
  have hlocks := B.notSynchronized
  have C : cx RX2 D K p s m _ c cX2_in := ⟨hx, hb, hown, hts, hK, hN, hO⟩
  have hR : rmOk (headSpec (tC yX2_in cX2_in 2 (some .boolean)) (rmK 0 0 0)).room 0 0 0 := ⟨Nat.le_refl _, Nat.le_refl _, Nat.le_refl _, Nat.le_refl _⟩
  subst hH
  have hl := lv_entry ([.ref (o 0), .int x]) (n := 2) (Nat.le_of_ble_eq_true rfl)
  rw [lg_entry_eq]
  generalize (lg_sl ([.ref (o 0), .int x]) ++ List.replicate (2 - (lg_sl ([.ref (o 0), .int x])).length) Slot.unset).toArray = ls at hl ⊢
  have hl : lv_has ls 2 [(0, .ref (o 0)), (1, .int x)] := hl
  refine lv_iload_n hx hb dX2_in_0 rfl (lv_at hl 1 rfl) ?_
  refine lv_if_lt (tgt := 24) hx hb dX2_in_1 (by decide) (fun c1 => ?_) (fun c1 => ?_)
  · refine lv_iconst (v := nI 0) hx hb dX2_in_24 (by decide) ?_
    exact W.zret (v := nI 0) hx hb hr (by decide) (fun t ht _ => ⟨rfl, ht⟩) (fun q h => by cases h) dX2_in_25
  · refine lv_iload_n hx hb dX2_in_4 rfl (lv_at hl 1 rfl) ?_
    refine lv_sipush (v := nI 200) hx hb dX2_in_5 (by decide) ?_
    refine lv_icmp_ge (tgt := 24) hx hb dX2_in_8 (by decide) (fun c2 => ?_) (fun c2 => ?_)
    · refine lv_iconst (v := nI 0) hx hb dX2_in_24 (by decide) ?_
      exact W.zret (v := nI 0) hx hb hr (by decide) (fun t ht _ => ⟨rfl, ht⟩) (fun q h => by cases h) dX2_in_25
    · exact absurd h (fun z => z.elim c1 c2)
set_option maxHeartbeats 1000000 in
set_option maxRecDepth 100000 in
theorem cM_in (l : Launch) (hP : va_P D vwCl (mW R o K va fl n th ch mn po an) H) {i : Nat} (hi : i < 200) : Met l yX2_in (tC yX2_in cX2_in 2 (some .boolean)) (rmK 0 0 0) (kP D K H [.ref (o 0), .int (nI i)]) (k2_QcV (.int (bI (ch i)))) 0 0 (fun _ => False) := by
  refine Met.ofW (cc := cX2_in) (maxL := 2) (ret := (some .boolean)) (by decide) rfl ?_
  intro p e s m args below meth c s₁ B hml hv
  obtain ⟨rfl, hH, hK, hN, hO⟩ := hv
  have hx := B.exec
  have hb := B.bytes
  have hr := B.returns
  have hts : ∀ w ∈ tT, w.before _ s = true := fun w h => atoms_spec (ws := tC yX2_in cX2_in 2 (some .boolean)) B.pre w (List.mem_cons_of_mem _ h)
  have hown : s.vm.findClass RX2 = some m.cls := findClass_of_methodNamed B.named
  have hlocks := B.notSynchronized
  have C : cx RX2 D K p s m _ c cX2_in := ⟨hx, hb, hown, hts, hK, hN, hO⟩
  have hR : rmOk (headSpec (tC yX2_in cX2_in 2 (some .boolean)) (rmK 0 0 0)).room 0 0 0 := ⟨Nat.le_refl _, Nat.le_refl _, Nat.le_refl _, Nat.le_refl _⟩
  subst hH
  have hl := lv_entry ([.ref (o 0), .int (nI i)]) (n := 2) (Nat.le_of_ble_eq_true rfl)
  rw [lg_entry_eq]
  generalize (lg_sl ([.ref (o 0), .int (nI i)]) ++ List.replicate (2 - (lg_sl ([.ref (o 0), .int (nI i)])).length) Slot.unset).toArray = ls at hl ⊢
  have hl : lv_has ls 2 [(0, .ref (o 0)), (1, .int (nI i))] := hl
  refine lv_iload_n hx hb dX2_in_0 rfl (lv_at hl 1 rfl) ?_
  refine lv_if_lt (tgt := 24) hx hb dX2_in_1 (by decide) (fun c1 => ?_) (fun c1 => ?_)
  · exact absurd c1 (nI_pos (by omega))
  · refine lv_iload_n hx hb dX2_in_4 rfl (lv_at hl 1 rfl) ?_
    refine lv_sipush (v := nI 200) hx hb dX2_in_5 (by decide) ?_
    refine lv_icmp_ge (tgt := 24) hx hb dX2_in_8 (by decide) (fun c2 => ?_) (fun c2 => ?_)
    · have c2 : 200 ≤ i := (nI_leI (by omega) (by omega)).mp c2
      exact absurd hi (by omega)
    · have c2 : ¬ 200 ≤ i := fun z9 => c2 ((nI_leI (by omega) (by omega)).mpr z9)
      refine lv_aload_n hx hb dX2_in_11 rfl (lv_at hl 0 rfl) ?_
      refine gM_chosen C hP dX2_in_12 ?_
      refine lv_iload_n hx hb dX2_in_15 rfl (lv_at hl 1 rfl) ?_
      refine lM_chosen C hP (by omega) dX2_in_16 ?_
      refine lv_if_eq (tgt := 24) hx hb dX2_in_17 (by decide) (fun c3 => ?_) (fun c3 => ?_)
      · have c3 : (ch i) = false := (bI_z (ch i)).mp c3
        refine lv_iconst (v := nI 0) hx hb dX2_in_24 (by decide) ?_
        exact W.zret (v := nI 0) hx hb hr (by decide) (fun t ht _ => ⟨rt0 c3, ht⟩) (fun q h => by cases h) dX2_in_25
      · have c3 : (ch i) = true := (bI_nz (ch i)).mp c3
        refine lv_iconst (v := nI 1) hx hb dX2_in_20 (by decide) ?_
        refine lv_goto (tgt := 25) hx hb dX2_in_21 (by decide) ?_
        exact W.zret (v := nI 1) hx hb hr (by decide) (fun t ht _ => ⟨rt1 c3, ht⟩) (fun q h => by cases h) dX2_in_25
set_option maxHeartbeats 1000000 in
set_option maxRecDepth 100000 in
theorem cM_value_no (l : Launch) (hP : va_P D vwCl (mW R o K va fl n th ch mn po an) H) (x : Int32) (h : isP x = false) : Met l yX2_value (tC yX2_value cX2_value 2 (some .long)) (rmK 1 0 0) (kP D K H [.ref (o 0), .int x]) (k2_QcV (.long 0)) 0 0 (fun _ => False) := by
  refine Met.ofW (cc := cX2_value) (maxL := 2) (ret := (some .long)) (by decide) rfl ?_
  intro p e s m args below meth c s₁ B hml hv
  obtain ⟨rfl, hH, hK, hN, hO⟩ := hv
  have hx := B.exec
  have hb := B.bytes
  have hr := B.returns
  have hts : ∀ w ∈ tT, w.before _ s = true := fun w h => atoms_spec (ws := tC yX2_value cX2_value 2 (some .long)) B.pre w (List.mem_cons_of_mem _ h)
  have hown : s.vm.findClass RX2 = some m.cls := findClass_of_methodNamed B.named
  have hlocks := B.notSynchronized
  have C : cx RX2 D K p s m _ c cX2_value := ⟨hx, hb, hown, hts, hK, hN, hO⟩
  have hR : rmOk (headSpec (tC yX2_value cX2_value 2 (some .long)) (rmK 1 0 0)).room 1 0 0 := ⟨Nat.le_refl _, Nat.le_refl _, Nat.le_refl _, Nat.le_refl _⟩
  subst hH
  have hl := lv_entry ([.ref (o 0), .int x]) (n := 2) (Nat.le_of_ble_eq_true rfl)
  rw [lg_entry_eq]
  generalize (lg_sl ([.ref (o 0), .int x]) ++ List.replicate (2 - (lg_sl ([.ref (o 0), .int x])).length) Slot.unset).toArray = ls at hl ⊢
  have hl : lv_has ls 2 [(0, .ref (o 0)), (1, .int x)] := hl
  refine lv_iload_n hx hb dX2_value_0 rfl (lv_at hl 1 rfl) ?_
  refine pv (va_runS (As := [.int x]) (rest := []) ⟨hx, hb, hml, hown, hts⟩ (cM_isPosition l x) (cwS 1 hts gM_37 rfl rfl rfl (by decide +kernel) (rmF hR (by decide) (by decide))) (kP_S C) rfl rfl hl.1 rfl (lv_room (Nat.le_of_ble_eq_true rfl)) dX2_value_1 ⟨hR.2.2.1, hR.2.2.2⟩) ?_
  refine lv_if_eq (tgt := 16) hx hb dX2_value_4 (by decide) (fun c1 => ?_) (fun c1 => ?_)
  · have c1 : (isP x) = false := (bI_z (isP x)).mp c1
    refine lv_lconst (v := 0) hx hb dX2_value_16 (by decide) ?_
    exact W.lret (v := 0) hx hb hr (fun t ht _ => ⟨rfl, ht⟩) (fun q h => by cases h) dX2_value_17
  · have c1 : (isP x) = true := (bI_nz (isP x)).mp c1
    exact absurd (c1.symm.trans h) (by decide)
set_option maxHeartbeats 1000000 in
set_option maxRecDepth 100000 in
theorem cM_value (l : Launch) (hP : va_P D vwCl (mW R o K va fl n th ch mn po an) H) {q : Nat} (hq3 : q < 300) : Met l yX2_value (tC yX2_value cX2_value 2 (some .long)) (rmK 1 0 0) (kP D K H [.ref (o 0), .int (nI q)]) (k2_QcV (.long (va q))) 0 0 (fun _ => False) := by
  refine Met.ofW (cc := cX2_value) (maxL := 2) (ret := (some .long)) (by decide) rfl ?_
  intro p e s m args below meth c s₁ B hml hv
  obtain ⟨rfl, hH, hK, hN, hO⟩ := hv
  have hx := B.exec
  have hb := B.bytes
  have hr := B.returns
  have hts : ∀ w ∈ tT, w.before _ s = true := fun w h => atoms_spec (ws := tC yX2_value cX2_value 2 (some .long)) B.pre w (List.mem_cons_of_mem _ h)
  have hown : s.vm.findClass RX2 = some m.cls := findClass_of_methodNamed B.named
  have hlocks := B.notSynchronized
  have C : cx RX2 D K p s m _ c cX2_value := ⟨hx, hb, hown, hts, hK, hN, hO⟩
  have hR : rmOk (headSpec (tC yX2_value cX2_value 2 (some .long)) (rmK 1 0 0)).room 1 0 0 := ⟨Nat.le_refl _, Nat.le_refl _, Nat.le_refl _, Nat.le_refl _⟩
  subst hH
  have hl := lv_entry ([.ref (o 0), .int (nI q)]) (n := 2) (Nat.le_of_ble_eq_true rfl)
  rw [lg_entry_eq]
  generalize (lg_sl ([.ref (o 0), .int (nI q)]) ++ List.replicate (2 - (lg_sl ([.ref (o 0), .int (nI q)])).length) Slot.unset).toArray = ls at hl ⊢
  have hl : lv_has ls 2 [(0, .ref (o 0)), (1, .int (nI q))] := hl
  refine lv_iload_n hx hb dX2_value_0 rfl (lv_at hl 1 rfl) ?_
  refine pv (va_runS (As := [.int (nI q)]) (rest := []) ⟨hx, hb, hml, hown, hts⟩ (cM_isPosition l (nI q)) (cwS 1 hts gM_37 rfl rfl rfl (by decide +kernel) (rmF hR (by decide) (by decide))) (kP_S C) rfl rfl hl.1 rfl (lv_room (Nat.le_of_ble_eq_true rfl)) dX2_value_1 ⟨hR.2.2.1, hR.2.2.2⟩) ?_
  refine lv_if_eq (tgt := 16) hx hb dX2_value_4 (by decide) (fun c1 => ?_) (fun c1 => ?_)
  · have c1 : (isP (nI q)) = false := (bI_z (isP (nI q))).mp c1
    exact absurd ((isP_nI hq3).symm.trans c1) (by decide)
  · have c1 : (isP (nI q)) = true := (bI_nz (isP (nI q))).mp c1
    refine lv_aload_n hx hb dX2_value_7 rfl (lv_at hl 0 rfl) ?_
    refine gM_values C hP dX2_value_8 ?_
    refine lv_iload_n hx hb dX2_value_11 rfl (lv_at hl 1 rfl) ?_
    refine lM_values C hP (by omega) dX2_value_12 ?_
    refine lv_goto (tgt := 17) hx hb dX2_value_13 (by decide) ?_
    exact W.lret (v := va q) hx hb hr (fun t ht _ => ⟨rfl, ht⟩) (fun q h => by cases h) dX2_value_17
set_option maxHeartbeats 1000000 in
set_option maxRecDepth 100000 in
theorem cM_netOf_no (l : Launch) (hP : va_P D vwCl (mW R o K va fl n th ch mn po an) H) (hn200 : n ≤ 200) (x y : Int32) (h : nT n th x) : Met l yX2_netOf (tC yX2_netOf cX2_netOf 3 (some .long)) (rmK 2 0 0) (kP D K H [.ref (o 0), .int x, .int y]) (k2_QcV (.long 0)) 0 0 (fun _ => False) := by
  refine Met.ofW (cc := cX2_netOf) (maxL := 3) (ret := (some .long)) (by decide) rfl ?_
  intro p e s m args below meth c s₁ B hml hv
  obtain ⟨rfl, hH, hK, hN, hO⟩ := hv
  have hx := B.exec
  have hb := B.bytes
  have hr := B.returns
  have hts : ∀ w ∈ tT, w.before _ s = true := fun w h => atoms_spec (ws := tC yX2_netOf cX2_netOf 3 (some .long)) B.pre w (List.mem_cons_of_mem _ h)
  have hown : s.vm.findClass RX2 = some m.cls := findClass_of_methodNamed B.named
  have hlocks := B.notSynchronized
  have C : cx RX2 D K p s m _ c cX2_netOf := ⟨hx, hb, hown, hts, hK, hN, hO⟩
  have hR : rmOk (headSpec (tC yX2_netOf cX2_netOf 3 (some .long)) (rmK 2 0 0)).room 2 0 0 := ⟨Nat.le_refl _, Nat.le_refl _, Nat.le_refl _, Nat.le_refl _⟩
  subst hH
  have hl := lv_entry ([.ref (o 0), .int x, .int y]) (n := 3) (Nat.le_of_ble_eq_true rfl)
  rw [lg_entry_eq]
  generalize (lg_sl ([.ref (o 0), .int x, .int y]) ++ List.replicate (3 - (lg_sl ([.ref (o 0), .int x, .int y])).length) Slot.unset).toArray = ls at hl ⊢
  have hl : lv_has ls 3 [(0, .ref (o 0)), (1, .int x), (2, .int y)] := hl
  refine lv_aload_n hx hb dX2_netOf_0 rfl (lv_at hl 0 rfl) ?_
  refine lv_iload_n hx hb dX2_netOf_1 rfl (lv_at hl 1 rfl) ?_
  refine pv (va_runV (As := [.int x]) (rest := []) ⟨hx, hb, hml, hown, hts⟩ (cM_isThere_no l hP hn200 x h) (cwV 1 hts gM_53 rfl rfl rfl (by decide +kernel) (rmF hR (by decide) (by decide))) (kP_V C (va_recv C.2.2.2.2.1 hP (ci := ciM) (q0 := 0) rfl rfl)) rfl rfl hl.1 rfl (lv_room (Nat.le_of_ble_eq_true rfl)) dX2_netOf_2 ⟨hR.2.2.1, hR.2.2.2⟩) ?_
  refine lv_if_eq (tgt := 24) hx hb dX2_netOf_5 (by decide) (fun c1 => ?_) (fun c1 => ?_)
  · refine lv_lconst (v := 0) hx hb dX2_netOf_24 (by decide) ?_
    exact W.lret (v := 0) hx hb hr (fun t ht _ => ⟨rfl, ht⟩) (fun q h => by cases h) dX2_netOf_25
  · exact absurd (by decide) c1
set_option maxHeartbeats 1000000 in
set_option maxRecDepth 100000 in
theorem cM_netOf_no2 (l : Launch) (hP : va_P D vwCl (mW R o K va fl n th ch mn po an) H) (hn200 : n ≤ 200) {i : Nat} (hi : i < n) (hT : th i = true) (y : Int32) (h : isP y = false) : Met l yX2_netOf (tC yX2_netOf cX2_netOf 3 (some .long)) (rmK 2 0 0) (kP D K H [.ref (o 0), .int (nI i), .int y]) (k2_QcV (.long 0)) 0 0 (fun _ => False) := by
  refine Met.ofW (cc := cX2_netOf) (maxL := 3) (ret := (some .long)) (by decide) rfl ?_
  intro p e s m args below meth c s₁ B hml hv
  obtain ⟨rfl, hH, hK, hN, hO⟩ := hv
  have hx := B.exec
  have hb := B.bytes
  have hr := B.returns
  have hts : ∀ w ∈ tT, w.before _ s = true := fun w h => atoms_spec (ws := tC yX2_netOf cX2_netOf 3 (some .long)) B.pre w (List.mem_cons_of_mem _ h)
  have hown : s.vm.findClass RX2 = some m.cls := findClass_of_methodNamed B.named
  have hlocks := B.notSynchronized
  have C : cx RX2 D K p s m _ c cX2_netOf := ⟨hx, hb, hown, hts, hK, hN, hO⟩
  have hR : rmOk (headSpec (tC yX2_netOf cX2_netOf 3 (some .long)) (rmK 2 0 0)).room 2 0 0 := ⟨Nat.le_refl _, Nat.le_refl _, Nat.le_refl _, Nat.le_refl _⟩
  subst hH
  have hl := lv_entry ([.ref (o 0), .int (nI i), .int y]) (n := 3) (Nat.le_of_ble_eq_true rfl)
  rw [lg_entry_eq]
  generalize (lg_sl ([.ref (o 0), .int (nI i), .int y]) ++ List.replicate (3 - (lg_sl ([.ref (o 0), .int (nI i), .int y])).length) Slot.unset).toArray = ls at hl ⊢
  have hl : lv_has ls 3 [(0, .ref (o 0)), (1, .int (nI i)), (2, .int y)] := hl
  refine lv_aload_n hx hb dX2_netOf_0 rfl (lv_at hl 0 rfl) ?_
  refine lv_iload_n hx hb dX2_netOf_1 rfl (lv_at hl 1 rfl) ?_
  refine pv (va_runV (As := [.int (nI i)]) (rest := []) ⟨hx, hb, hml, hown, hts⟩ (cM_isThere l hP hn200 hi hT) (cwV 1 hts gM_53 rfl rfl rfl (by decide +kernel) (rmF hR (by decide) (by decide))) (kP_V C (va_recv C.2.2.2.2.1 hP (ci := ciM) (q0 := 0) rfl rfl)) rfl rfl hl.1 rfl (lv_room (Nat.le_of_ble_eq_true rfl)) dX2_netOf_2 ⟨hR.2.2.1, hR.2.2.2⟩) ?_
  refine lv_if_eq (tgt := 24) hx hb dX2_netOf_5 (by decide) (fun c1 => ?_) (fun c1 => ?_)
  · exact absurd c1 (by decide)
  · refine lv_iload_n hx hb dX2_netOf_8 rfl (lv_at hl 2 rfl) ?_
    refine pv (va_runS (As := [.int y]) (rest := []) ⟨hx, hb, hml, hown, hts⟩ (cM_isPosition l y) (cwS 1 hts gM_37 rfl rfl rfl (by decide +kernel) (rmF hR (by decide) (by decide))) (kP_S C) rfl rfl hl.1 rfl (lv_room (Nat.le_of_ble_eq_true rfl)) dX2_netOf_9 ⟨hR.2.2.1, hR.2.2.2⟩) ?_
    refine lv_if_eq (tgt := 24) hx hb dX2_netOf_12 (by decide) (fun c2 => ?_) (fun c2 => ?_)
    · have c2 : (isP y) = false := (bI_z (isP y)).mp c2
      refine lv_lconst (v := 0) hx hb dX2_netOf_24 (by decide) ?_
      exact W.lret (v := 0) hx hb hr (fun t ht _ => ⟨rfl, ht⟩) (fun q h => by cases h) dX2_netOf_25
    · have c2 : (isP y) = true := (bI_nz (isP y)).mp c2
      exact absurd (c2.symm.trans h) (by decide)
set_option maxHeartbeats 1000000 in
set_option maxRecDepth 100000 in
theorem cM_netOf (l : Launch) (hP : va_P D vwCl (mW R o K va fl n th ch mn po an) H) (hn200 : n ≤ 200) {i : Nat} (hi : i < n) (hT : th i = true) (hmi : mn i ≤ 16) (hpo : ∀ k, k < mn i → psM po i k < 300) {q : Nat} (hq3 : q < 300) : Met l yX2_netOf (tC yX2_netOf cX2_netOf 3 (some .long)) (rmK 2 0 0) (kP D K H [.ref (o 0), .int (nI i), .int (nI q)]) (k2_QcV (.long (netA mn po an i q))) 0 0 (fun _ => False) := by
  refine Met.ofW (cc := cX2_netOf) (maxL := 3) (ret := (some .long)) (by decide) rfl ?_
  intro p e s m args below meth c s₁ B hml hv
  obtain ⟨rfl, hH, hK, hN, hO⟩ := hv
  have hx := B.exec
  have hb := B.bytes
  have hr := B.returns
  have hts : ∀ w ∈ tT, w.before _ s = true := fun w h => atoms_spec (ws := tC yX2_netOf cX2_netOf 3 (some .long)) B.pre w (List.mem_cons_of_mem _ h)
  have hown : s.vm.findClass RX2 = some m.cls := findClass_of_methodNamed B.named
  have hlocks := B.notSynchronized
  have C : cx RX2 D K p s m _ c cX2_netOf := ⟨hx, hb, hown, hts, hK, hN, hO⟩
  have hR : rmOk (headSpec (tC yX2_netOf cX2_netOf 3 (some .long)) (rmK 2 0 0)).room 2 0 0 := ⟨Nat.le_refl _, Nat.le_refl _, Nat.le_refl _, Nat.le_refl _⟩
  subst hH
  have hl := lv_entry ([.ref (o 0), .int (nI i), .int (nI q)]) (n := 3) (Nat.le_of_ble_eq_true rfl)
  rw [lg_entry_eq]
  generalize (lg_sl ([.ref (o 0), .int (nI i), .int (nI q)]) ++ List.replicate (3 - (lg_sl ([.ref (o 0), .int (nI i), .int (nI q)])).length) Slot.unset).toArray = ls at hl ⊢
  have hl : lv_has ls 3 [(0, .ref (o 0)), (1, .int (nI i)), (2, .int (nI q))] := hl
  refine lv_aload_n hx hb dX2_netOf_0 rfl (lv_at hl 0 rfl) ?_
  refine lv_iload_n hx hb dX2_netOf_1 rfl (lv_at hl 1 rfl) ?_
  refine pv (va_runV (As := [.int (nI i)]) (rest := []) ⟨hx, hb, hml, hown, hts⟩ (cM_isThere l hP hn200 hi hT) (cwV 1 hts gM_53 rfl rfl rfl (by decide +kernel) (rmF hR (by decide) (by decide))) (kP_V C (va_recv C.2.2.2.2.1 hP (ci := ciM) (q0 := 0) rfl rfl)) rfl rfl hl.1 rfl (lv_room (Nat.le_of_ble_eq_true rfl)) dX2_netOf_2 ⟨hR.2.2.1, hR.2.2.2⟩) ?_
  refine lv_if_eq (tgt := 24) hx hb dX2_netOf_5 (by decide) (fun c1 => ?_) (fun c1 => ?_)
  · exact absurd c1 (by decide)
  · refine lv_iload_n hx hb dX2_netOf_8 rfl (lv_at hl 2 rfl) ?_
    refine pv (va_runS (As := [.int (nI q)]) (rest := []) ⟨hx, hb, hml, hown, hts⟩ (cM_isPosition l (nI q)) (cwS 1 hts gM_37 rfl rfl rfl (by decide +kernel) (rmF hR (by decide) (by decide))) (kP_S C) rfl rfl hl.1 rfl (lv_room (Nat.le_of_ble_eq_true rfl)) dX2_netOf_9 ⟨hR.2.2.1, hR.2.2.2⟩) ?_
    refine lv_if_eq (tgt := 24) hx hb dX2_netOf_12 (by decide) (fun c2 => ?_) (fun c2 => ?_)
    · have c2 : (isP (nI q)) = false := (bI_z (isP (nI q))).mp c2
      exact absurd ((isP_nI hq3).symm.trans c2) (by decide)
    · have c2 : (isP (nI q)) = true := (bI_nz (isP (nI q))).mp c2
      refine lv_aload_n hx hb dX2_netOf_15 rfl (lv_at hl 0 rfl) ?_
      refine lv_iload_n hx hb dX2_netOf_16 rfl (lv_at hl 1 rfl) ?_
      refine lv_iload_n hx hb dX2_netOf_17 rfl (lv_at hl 2 rfl) ?_
      refine pv (va_runV (As := [.int (nI i), .int (nI q)]) (rest := []) ⟨hx, hb, hml, hown, hts⟩ (cM_netAt l hP (by omega) hmi hpo hq3) (cwV 2 hts gM_60 rfl rfl rfl (by decide +kernel) (rmF hR (by decide) (by decide))) (kP_V C (va_recv C.2.2.2.2.1 hP (ci := ciM) (q0 := 0) rfl rfl)) rfl rfl hl.1 rfl (lv_room (Nat.le_of_ble_eq_true rfl)) dX2_netOf_18 ⟨hR.2.2.1, hR.2.2.2⟩) ?_
      refine lv_goto (tgt := 25) hx hb dX2_netOf_21 (by decide) ?_
      exact W.lret (v := netA mn po an i q) hx hb hr (fun t ht _ => ⟨rfl, ht⟩) (fun q h => by cases h) dX2_netOf_25
set_option maxHeartbeats 1000000 in
set_option maxRecDepth 100000 in
theorem cM_count (l : Launch) (hP : va_P D vwCl (mW R o K va fl n th ch mn po an) H) (x : Int32) : Met l yX2_count (tC yX2_count cX2_count 5 (some .int)) (rmK 0 0 0) (kP D K H [.ref (o 0), .int x]) (k2_QcV (.int (cntS x n (cn th 200) (cn ch 200)))) 0 0 (fun _ => False) := by
  refine Met.ofW (cc := cX2_count) (maxL := 5) (ret := (some .int)) (by decide) rfl ?_
  intro p e s m args below meth c s₁ B hml hv
  obtain ⟨rfl, hH, hK, hN, hO⟩ := hv
  have hx := B.exec
  have hb := B.bytes
  have hr := B.returns
  have hts : ∀ w ∈ tT, w.before _ s = true := fun w h => atoms_spec (ws := tC yX2_count cX2_count 5 (some .int)) B.pre w (List.mem_cons_of_mem _ h)
  have hown : s.vm.findClass RX2 = some m.cls := findClass_of_methodNamed B.named
  have hlocks := B.notSynchronized
  have C : cx RX2 D K p s m _ c cX2_count := ⟨hx, hb, hown, hts, hK, hN, hO⟩
  have hR : rmOk (headSpec (tC yX2_count cX2_count 5 (some .int)) (rmK 0 0 0)).room 0 0 0 := ⟨Nat.le_refl _, Nat.le_refl _, Nat.le_refl _, Nat.le_refl _⟩
  subst hH
  have hl := lv_entry ([.ref (o 0), .int x]) (n := 5) (Nat.le_of_ble_eq_true rfl)
  rw [lg_entry_eq]
  generalize (lg_sl ([.ref (o 0), .int x]) ++ List.replicate (5 - (lg_sl ([.ref (o 0), .int x])).length) Slot.unset).toArray = ls at hl ⊢
  have hl : lv_has ls 5 [(0, .ref (o 0)), (1, .int x)] := hl
  refine lv_iconst (v := nI 0) hx hb dX2_count_0 (by decide) ?_
  refine lv_istore_n (lv' := [(2, .int (nI 0)), (0, .ref (o 0)), (1, .int x)]) hx hb dX2_count_1 rfl hl (by decide) rfl (fun ls hl => ?_)
  refine lv_iconst (v := nI 0) hx hb dX2_count_2 (by decide) ?_
  refine lv_istore_n (lv' := [(3, .int (nI 0)), (2, .int (nI 0)), (0, .ref (o 0)), (1, .int x)]) hx hb dX2_count_3 rfl hl (by decide) rfl (fun ls hl => ?_)
  refine lv_iconst (v := nI 0) hx hb dX2_count_4 (by decide) ?_
  refine lv_istore (lv' := [(4, .int (nI 0)), (3, .int (nI 0)), (2, .int (nI 0)), (0, .ref (o 0)), (1, .int x)]) hx hb dX2_count_5 hl (by decide) rfl (fun ls hl => ?_)
  refine lpW (U := 200) (pcH := 7) (I := fun k ls => lv_has ls 5 [(4, .int (nI k)), (3, .int (nI (cn ch k))), (2, .int (nI (cn th k))), (0, .ref (o 0)), (1, .int x)]) (fun k ls hkk hI ihk => ?_) 0 ls (Nat.zero_le _) (lv_sub hl [0, 1, 2, 3, 4] rfl)
  have hl := hI
  refine lv_iload hx hb dX2_count_7 (lv_at hl 0 rfl) ?_
  refine lv_sipush (v := nI 200) hx hb dX2_count_9 (by decide) ?_
  refine lv_icmp_ge (tgt := 57) hx hb dX2_count_12 (by decide) (fun c1 => ?_) (fun c1 => ?_)
  · have c1 : 200 ≤ k := (nI_leI (by omega) (by omega)).mp c1
    rw [show k = 200 by omega] at hl
    by_cases h0 : x = nI 0
    · refine lv_iload_n hx hb dX2_count_57 rfl (lv_at hl 4 rfl) ?_
      refine lv_if_ne (tgt := 68) hx hb dX2_count_58 (by decide) (fun c2 => ?_) (fun c2 => ?_)
      · exact absurd (h0.trans (by decide)) c2
      · refine lv_aload_n hx hb dX2_count_61 rfl (lv_at hl 3 rfl) ?_
        refine gM_items C hP dX2_count_62 ?_
        refine lv_goto (tgt := 87) hx hb dX2_count_65 (by decide) ?_
        exact W.iret (v := nI n) hx hb hr (fun t ht _ => ⟨rti (by unfold cntS; rw [if_pos h0]), ht⟩) (fun q h => by cases h) dX2_count_87
    · refine lv_iload_n hx hb dX2_count_57 rfl (lv_at hl 4 rfl) ?_
      refine lv_if_ne (tgt := 68) hx hb dX2_count_58 (by decide) (fun c2 => ?_) (fun c2 => ?_)
      · refine lv_iload_n hx hb dX2_count_68 rfl (lv_at hl 4 rfl) ?_
        refine lv_iconst (v := nI 1) hx hb dX2_count_69 (by decide) ?_
        refine lv_icmp_ne (tgt := 77) hx hb dX2_count_70 (by decide) (fun c3 => ?_) (fun c3 => ?_)
        · have h1 : ¬ x = nI 1 := c3
          refine lv_iload_n hx hb dX2_count_77 rfl (lv_at hl 4 rfl) ?_
          refine lv_iconst (v := nI 2) hx hb dX2_count_78 (by decide) ?_
          refine lv_icmp_ne (tgt := 86) hx hb dX2_count_79 (by decide) (fun c4 => ?_) (fun c4 => ?_)
          · have h2 : ¬ x = nI 2 := c4
            refine lv_iconst (v := (-1)) hx hb dX2_count_86 (by decide) ?_
            exact W.iret (v := (-1)) hx hb hr (fun t ht _ => ⟨rti (by unfold cntS; rw [if_neg h0, if_neg h1, if_neg h2]), ht⟩) (fun q h => by cases h) dX2_count_87
          · have h2 : x = nI 2 := c4
            refine lv_iload_n hx hb dX2_count_82 rfl (lv_at hl 1 rfl) ?_
            refine lv_goto (tgt := 87) hx hb dX2_count_83 (by decide) ?_
            exact W.iret (v := nI (cn ch 200)) hx hb hr (fun t ht _ => ⟨rti (by unfold cntS; rw [if_neg h0, if_neg h1, if_pos h2]), ht⟩) (fun q h => by cases h) dX2_count_87
        · have h1 : x = nI 1 := c3
          refine lv_iload_n hx hb dX2_count_73 rfl (lv_at hl 2 rfl) ?_
          refine lv_goto (tgt := 87) hx hb dX2_count_74 (by decide) ?_
          exact W.iret (v := nI (cn th 200)) hx hb hr (fun t ht _ => ⟨rti (by unfold cntS; rw [if_neg h0, if_pos h1]), ht⟩) (fun q h => by cases h) dX2_count_87
      · exact absurd (c2.trans (by decide)) h0
  · have c1 : ¬ 200 ≤ k := fun z9 => c1 ((nI_leI (by omega) (by omega)).mpr z9)
    refine lv_iload_n hx hb dX2_count_15 rfl (lv_at hl 2 rfl) ?_
    refine lv_aload_n hx hb dX2_count_16 rfl (lv_at hl 3 rfl) ?_
    refine gM_there C hP dX2_count_17 ?_
    refine lv_iload hx hb dX2_count_20 (lv_at hl 0 rfl) ?_
    refine lM_there C hP (by omega) dX2_count_22 ?_
    refine lv_if_eq (tgt := 30) hx hb dX2_count_23 (by decide) (fun c2 => ?_) (fun c2 => ?_)
    · have c2 : (th k) = false := (bI_z (th k)).mp c2
      refine lv_iconst (v := nI 0) hx hb dX2_count_30 (by decide) ?_
      refine lv_iadd hx hb dX2_count_31 ?_
      refine tp_i (y := nI ((cn th k) + 0)) (nI_add (cn th k) 0) ?_
      refine tp_i (y := nI (cn th (k + 1))) (congrArg nI (cn_f c2)) ?_
      refine lv_istore_n (lv' := [(2, .int (nI (cn th (k + 1)))), (4, .int (nI k)), (3, .int (nI (cn ch k))), (0, .ref (o 0)), (1, .int x)]) hx hb dX2_count_32 rfl hl (by decide) rfl (fun ls hl => ?_)
      refine lv_iload_n hx hb dX2_count_33 rfl (lv_at hl 2 rfl) ?_
      refine lv_aload_n hx hb dX2_count_34 rfl (lv_at hl 3 rfl) ?_
      refine gM_chosen C hP dX2_count_35 ?_
      refine lv_iload hx hb dX2_count_38 (lv_at hl 1 rfl) ?_
      refine lM_chosen C hP (by omega) dX2_count_40 ?_
      refine lv_if_eq (tgt := 48) hx hb dX2_count_41 (by decide) (fun c3 => ?_) (fun c3 => ?_)
      · have c3 : (ch k) = false := (bI_z (ch k)).mp c3
        refine lv_iconst (v := nI 0) hx hb dX2_count_48 (by decide) ?_
        refine lv_iadd hx hb dX2_count_49 ?_
        refine tp_i (y := nI ((cn ch k) + 0)) (nI_add (cn ch k) 0) ?_
        refine tp_i (y := nI (cn ch (k + 1))) (congrArg nI (cn_f c3)) ?_
        refine lv_istore_n (lv' := [(3, .int (nI (cn ch (k + 1)))), (2, .int (nI (cn th (k + 1)))), (4, .int (nI k)), (0, .ref (o 0)), (1, .int x)]) hx hb dX2_count_50 rfl hl (by decide) rfl (fun ls hl => ?_)
        refine lv_iinc (v := nI (k + 1)) (lv' := [(4, .int (nI (k + 1))), (3, .int (nI (cn ch (k + 1)))), (2, .int (nI (cn th (k + 1)))), (0, .ref (o 0)), (1, .int x)]) hx hb dX2_count_51 hl (k := 2) rfl (nI_1 k) (by decide) rfl (fun ls hl => ?_)
        refine lv_goto (tgt := 7) hx hb dX2_count_54 (by decide) ?_
        exact ihk (by omega) ls (lv_sub hl [0, 1, 2, 3, 4] rfl)
      · have c3 : (ch k) = true := (bI_nz (ch k)).mp c3
        refine lv_iconst (v := nI 1) hx hb dX2_count_44 (by decide) ?_
        refine lv_goto (tgt := 49) hx hb dX2_count_45 (by decide) ?_
        refine lv_iadd hx hb dX2_count_49 ?_
        refine tp_i (y := nI ((cn ch k) + 1)) (nI_add (cn ch k) 1) ?_
        refine tp_i (y := nI (cn ch (k + 1))) (congrArg nI (cn_t c3)) ?_
        refine lv_istore_n (lv' := [(3, .int (nI (cn ch (k + 1)))), (2, .int (nI (cn th (k + 1)))), (4, .int (nI k)), (0, .ref (o 0)), (1, .int x)]) hx hb dX2_count_50 rfl hl (by decide) rfl (fun ls hl => ?_)
        refine lv_iinc (v := nI (k + 1)) (lv' := [(4, .int (nI (k + 1))), (3, .int (nI (cn ch (k + 1)))), (2, .int (nI (cn th (k + 1)))), (0, .ref (o 0)), (1, .int x)]) hx hb dX2_count_51 hl (k := 2) rfl (nI_1 k) (by decide) rfl (fun ls hl => ?_)
        refine lv_goto (tgt := 7) hx hb dX2_count_54 (by decide) ?_
        exact ihk (by omega) ls (lv_sub hl [0, 1, 2, 3, 4] rfl)
    · have c2 : (th k) = true := (bI_nz (th k)).mp c2
      refine lv_iconst (v := nI 1) hx hb dX2_count_26 (by decide) ?_
      refine lv_goto (tgt := 31) hx hb dX2_count_27 (by decide) ?_
      refine lv_iadd hx hb dX2_count_31 ?_
      refine tp_i (y := nI ((cn th k) + 1)) (nI_add (cn th k) 1) ?_
      refine tp_i (y := nI (cn th (k + 1))) (congrArg nI (cn_t c2)) ?_
      refine lv_istore_n (lv' := [(2, .int (nI (cn th (k + 1)))), (4, .int (nI k)), (3, .int (nI (cn ch k))), (0, .ref (o 0)), (1, .int x)]) hx hb dX2_count_32 rfl hl (by decide) rfl (fun ls hl => ?_)
      refine lv_iload_n hx hb dX2_count_33 rfl (lv_at hl 2 rfl) ?_
      refine lv_aload_n hx hb dX2_count_34 rfl (lv_at hl 3 rfl) ?_
      refine gM_chosen C hP dX2_count_35 ?_
      refine lv_iload hx hb dX2_count_38 (lv_at hl 1 rfl) ?_
      refine lM_chosen C hP (by omega) dX2_count_40 ?_
      refine lv_if_eq (tgt := 48) hx hb dX2_count_41 (by decide) (fun c3 => ?_) (fun c3 => ?_)
      · have c3 : (ch k) = false := (bI_z (ch k)).mp c3
        refine lv_iconst (v := nI 0) hx hb dX2_count_48 (by decide) ?_
        refine lv_iadd hx hb dX2_count_49 ?_
        refine tp_i (y := nI ((cn ch k) + 0)) (nI_add (cn ch k) 0) ?_
        refine tp_i (y := nI (cn ch (k + 1))) (congrArg nI (cn_f c3)) ?_
        refine lv_istore_n (lv' := [(3, .int (nI (cn ch (k + 1)))), (2, .int (nI (cn th (k + 1)))), (4, .int (nI k)), (0, .ref (o 0)), (1, .int x)]) hx hb dX2_count_50 rfl hl (by decide) rfl (fun ls hl => ?_)
        refine lv_iinc (v := nI (k + 1)) (lv' := [(4, .int (nI (k + 1))), (3, .int (nI (cn ch (k + 1)))), (2, .int (nI (cn th (k + 1)))), (0, .ref (o 0)), (1, .int x)]) hx hb dX2_count_51 hl (k := 2) rfl (nI_1 k) (by decide) rfl (fun ls hl => ?_)
        refine lv_goto (tgt := 7) hx hb dX2_count_54 (by decide) ?_
        exact ihk (by omega) ls (lv_sub hl [0, 1, 2, 3, 4] rfl)
      · have c3 : (ch k) = true := (bI_nz (ch k)).mp c3
        refine lv_iconst (v := nI 1) hx hb dX2_count_44 (by decide) ?_
        refine lv_goto (tgt := 49) hx hb dX2_count_45 (by decide) ?_
        refine lv_iadd hx hb dX2_count_49 ?_
        refine tp_i (y := nI ((cn ch k) + 1)) (nI_add (cn ch k) 1) ?_
        refine tp_i (y := nI (cn ch (k + 1))) (congrArg nI (cn_t c3)) ?_
        refine lv_istore_n (lv' := [(3, .int (nI (cn ch (k + 1)))), (2, .int (nI (cn th (k + 1)))), (4, .int (nI k)), (0, .ref (o 0)), (1, .int x)]) hx hb dX2_count_50 rfl hl (by decide) rfl (fun ls hl => ?_)
        refine lv_iinc (v := nI (k + 1)) (lv' := [(4, .int (nI (k + 1))), (3, .int (nI (cn ch (k + 1)))), (2, .int (nI (cn th (k + 1)))), (0, .ref (o 0)), (1, .int x)]) hx hb dX2_count_51 hl (k := 2) rfl (nI_1 k) (by decide) rfl (fun ls hl => ?_)
        refine lv_goto (tgt := 7) hx hb dX2_count_54 (by decide) ?_
        exact ihk (by omega) ls (lv_sub hl [0, 1, 2, 3, 4] rfl)
end MM1
end
section
/-! THE REFERENCE: net, and what its search reads -/
section MM2
variable {D : va_G} {K : Nat → ClassId} {H : Heap} {A : Nat → Prop} {R : va_W} {o : Nat → Nat} {va fl an : Nat → Int64} {n : Nat} {th ch : Nat → Bool} {mn po : Nat → Nat}
set_option maxHeartbeats 1000000 in
set_option maxRecDepth 100000 in
theorem cM_total (l : Launch) (hP : va_P D vwCl (mW R o K va fl n th ch mn po an) H) {va0 fl0 : Nat → Int64} (hok : cl_ok mn (psM po) (amM an) va0 fl0 n) {g : Nat} (hg : g < 300) : Met l yX2_total (tC yX2_total cX2_total 5 (some .long)) (rmK 2 0 0) (kP D K H [.ref (o 0), .int (nI g)]) (k2_QcV (.long (m_tot mn po an va ch g n))) 0 0 (fun _ => False) := by
  refine Met.ofW (cc := cX2_total) (maxL := 5) (ret := (some .long)) (by decide) rfl ?_
  intro p e s m args below meth c s₁ B hml hv
  obtain ⟨rfl, hH, hK, hN, hO⟩ := hv
  have hx := B.exec
  have hb := B.bytes
  have hr := B.returns
  have hts : ∀ w ∈ tT, w.before _ s = true := fun w h => atoms_spec (ws := tC yX2_total cX2_total 5 (some .long)) B.pre w (List.mem_cons_of_mem _ h)
  have hown : s.vm.findClass RX2 = some m.cls := findClass_of_methodNamed B.named
  have hlocks := B.notSynchronized
  have C : cx RX2 D K p s m _ c cX2_total := ⟨hx, hb, hown, hts, hK, hN, hO⟩
  have hR : rmOk (headSpec (tC yX2_total cX2_total 5 (some .long)) (rmK 2 0 0)).room 2 0 0 := ⟨Nat.le_refl _, Nat.le_refl _, Nat.le_refl _, Nat.le_refl _⟩
  subst hH
  have hl := lv_entry ([.ref (o 0), .int (nI g)]) (n := 5) (Nat.le_of_ble_eq_true rfl)
  rw [lg_entry_eq]
  generalize (lg_sl ([.ref (o 0), .int (nI g)]) ++ List.replicate (5 - (lg_sl ([.ref (o 0), .int (nI g)])).length) Slot.unset).toArray = ls at hl ⊢
  have hl : lv_has ls 5 [(0, .ref (o 0)), (1, .int (nI g))] := hl
  have hn200 : n ≤ 200 := hok.1
  refine lv_aload_n hx hb dX2_total_0 rfl (lv_at hl 0 rfl) ?_
  refine gM_values C hP dX2_total_1 ?_
  refine lv_iload_n hx hb dX2_total_4 rfl (lv_at hl 1 rfl) ?_
  refine lM_values C hP (by omega) dX2_total_5 ?_
  refine lv_lstore_n (lv' := [(2, .long (va g)), (0, .ref (o 0)), (1, .int (nI g))]) hx hb dX2_total_6 rfl hl (by decide) rfl (fun ls hl => ?_)
  refine lv_iconst (v := nI 0) hx hb dX2_total_7 (by decide) ?_
  refine lv_istore (lv' := [(4, .int (nI 0)), (2, .long (va g)), (0, .ref (o 0)), (1, .int (nI g))]) hx hb dX2_total_8 hl (by decide) rfl (fun ls hl => ?_)
  refine lpW (U := n) (pcH := 10) (I := fun i ls => lv_has ls 5 [(4, .int (nI i)), (2, .long (m_tot mn po an va ch g i)), (0, .ref (o 0)), (1, .int (nI g))]) (fun i ls hki hI ihi => ?_) 0 ls (Nat.zero_le _) (lv_sub hl [0, 1, 2, 3] rfl)
  have hl := hI
  refine lv_iload hx hb dX2_total_10 (lv_at hl 0 rfl) ?_
  refine lv_aload_n hx hb dX2_total_12 rfl (lv_at hl 2 rfl) ?_
  refine gM_items C hP dX2_total_13 ?_
  refine lv_icmp_ge (tgt := 49) hx hb dX2_total_16 (by decide) (fun c1 => ?_) (fun c1 => ?_)
  · have c1 : n ≤ i := (nI_leI (by omega) (by omega)).mp c1
    refine lv_lload_n hx hb dX2_total_49 rfl (lv_at hl 1 rfl) ?_
    exact W.lret (v := m_tot mn po an va ch g i) hx hb hr (fun t ht _ => ⟨rtl (congrArg (m_tot mn po an va ch g) (by omega)), ht⟩) (fun q h => by cases h) dX2_total_50
  · have c1 : ¬ n ≤ i := fun z9 => c1 ((nI_leI (by omega) (by omega)).mpr z9)
    have hin : i < n := by omega
    refine lv_lload_n hx hb dX2_total_19 rfl (lv_at hl 1 rfl) ?_
    refine lv_aload_n hx hb dX2_total_20 rfl (lv_at hl 2 rfl) ?_
    refine gM_chosen C hP dX2_total_21 ?_
    refine lv_iload hx hb dX2_total_24 (lv_at hl 0 rfl) ?_
    refine lM_chosen C hP (by omega) dX2_total_26 ?_
    refine lv_if_eq (tgt := 40) hx hb dX2_total_27 (by decide) (fun c2 => ?_) (fun c2 => ?_)
    · have c2 : (ch i) = false := (bI_z (ch i)).mp c2
      refine lv_lconst (v := 0) hx hb dX2_total_40 (by decide) ?_
      refine lv_ladd hx hb dX2_total_41 ?_
      refine tp_l (y := m_tot mn po an va ch g (i + 1)) (tot_f c2) ?_
      refine lv_lstore_n (lv' := [(2, .long (m_tot mn po an va ch g (i + 1))), (4, .int (nI i)), (0, .ref (o 0)), (1, .int (nI g))]) hx hb dX2_total_42 rfl hl (by decide) rfl (fun ls hl => ?_)
      refine lv_iinc (v := nI (i + 1)) (lv' := [(4, .int (nI (i + 1))), (2, .long (m_tot mn po an va ch g (i + 1))), (0, .ref (o 0)), (1, .int (nI g))]) hx hb dX2_total_43 hl (k := 1) rfl (nI_1 i) (by decide) rfl (fun ls hl => ?_)
      refine lv_goto (tgt := 10) hx hb dX2_total_46 (by decide) ?_
      exact ihi (by omega) ls (lv_sub hl [0, 1, 2, 3] rfl)
    · have c2 : (ch i) = true := (bI_nz (ch i)).mp c2
      refine lv_aload_n hx hb dX2_total_30 rfl (lv_at hl 2 rfl) ?_
      refine lv_iload hx hb dX2_total_31 (lv_at hl 0 rfl) ?_
      refine lv_iload_n hx hb dX2_total_33 rfl (lv_at hl 3 rfl) ?_
      refine pv (va_runV (As := [.int (nI i), .int (nI g)]) (rest := [.long (m_tot mn po an va ch g i)]) ⟨hx, hb, hml, hown, hts⟩ (cM_netAt l hP (Nat.lt_of_lt_of_le hin hok.1) (hok.2.1 i hin).1 (hok.2.1 i hin).2.1 hg) (cwV 2 hts gM_60 rfl rfl rfl (by decide +kernel) (rmF hR (by decide) (by decide))) (kP_V C (va_recv C.2.2.2.2.1 hP (ci := ciM) (q0 := 0) rfl rfl)) rfl rfl hl.1 rfl (lv_room (Nat.le_of_ble_eq_true rfl)) dX2_total_34 ⟨hR.2.2.1, hR.2.2.2⟩) ?_
      refine lv_goto (tgt := 41) hx hb dX2_total_37 (by decide) ?_
      refine lv_ladd hx hb dX2_total_41 ?_
      refine tp_l (y := m_tot mn po an va ch g (i + 1)) (tot_t c2) ?_
      refine lv_lstore_n (lv' := [(2, .long (m_tot mn po an va ch g (i + 1))), (4, .int (nI i)), (0, .ref (o 0)), (1, .int (nI g))]) hx hb dX2_total_42 rfl hl (by decide) rfl (fun ls hl => ?_)
      refine lv_iinc (v := nI (i + 1)) (lv' := [(4, .int (nI (i + 1))), (2, .long (m_tot mn po an va ch g (i + 1))), (0, .ref (o 0)), (1, .int (nI g))]) hx hb dX2_total_43 hl (k := 1) rfl (nI_1 i) (by decide) rfl (fun ls hl => ?_)
      refine lv_goto (tgt := 10) hx hb dX2_total_46 (by decide) ?_
      exact ihi (by omega) ls (lv_sub hl [0, 1, 2, 3] rfl)
set_option maxHeartbeats 1000000 in
set_option maxRecDepth 100000 in
theorem cM_lastTaker (l : Launch) (hP : va_P D vwCl (mW R o K va fl n th ch mn po an) H) (hok : cl_ok mn (psM po) (amM an) va fl n) {g : Nat} (hg : g < 300) : Met l yX2_lastTaker (tC yX2_lastTaker cX2_lastTaker 4 (some .int)) (rmK 2 0 0) (kP D K H [.ref (o 0), .int (nI g)]) (k2_QcV (.int (m_last mn po an ch g n))) 0 0 (fun _ => False) := by
  refine Met.ofW (cc := cX2_lastTaker) (maxL := 4) (ret := (some .int)) (by decide) rfl ?_
  intro p e s m args below meth c s₁ B hml hv
  obtain ⟨rfl, hH, hK, hN, hO⟩ := hv
  have hx := B.exec
  have hb := B.bytes
  have hr := B.returns
  have hts : ∀ w ∈ tT, w.before _ s = true := fun w h => atoms_spec (ws := tC yX2_lastTaker cX2_lastTaker 4 (some .int)) B.pre w (List.mem_cons_of_mem _ h)
  have hown : s.vm.findClass RX2 = some m.cls := findClass_of_methodNamed B.named
  have hlocks := B.notSynchronized
  have C : cx RX2 D K p s m _ c cX2_lastTaker := ⟨hx, hb, hown, hts, hK, hN, hO⟩
  have hR : rmOk (headSpec (tC yX2_lastTaker cX2_lastTaker 4 (some .int)) (rmK 2 0 0)).room 2 0 0 := ⟨Nat.le_refl _, Nat.le_refl _, Nat.le_refl _, Nat.le_refl _⟩
  subst hH
  have hl := lv_entry ([.ref (o 0), .int (nI g)]) (n := 4) (Nat.le_of_ble_eq_true rfl)
  rw [lg_entry_eq]
  generalize (lg_sl ([.ref (o 0), .int (nI g)]) ++ List.replicate (4 - (lg_sl ([.ref (o 0), .int (nI g)])).length) Slot.unset).toArray = ls at hl ⊢
  have hl : lv_has ls 4 [(0, .ref (o 0)), (1, .int (nI g))] := hl
  have hn200 : n ≤ 200 := hok.1
  refine lv_iconst (v := (-1)) hx hb dX2_lastTaker_0 (by decide) ?_
  refine lv_istore_n (lv' := [(2, .int (-1)), (0, .ref (o 0)), (1, .int (nI g))]) hx hb dX2_lastTaker_1 rfl hl (by decide) rfl (fun ls hl => ?_)
  refine lv_iconst (v := nI 0) hx hb dX2_lastTaker_2 (by decide) ?_
  refine lv_istore_n (lv' := [(3, .int (nI 0)), (2, .int (-1)), (0, .ref (o 0)), (1, .int (nI g))]) hx hb dX2_lastTaker_3 rfl hl (by decide) rfl (fun ls hl => ?_)
  refine lpW (U := n) (pcH := 4) (I := fun i ls => lv_has ls 4 [(3, .int (nI i)), (2, .int (m_last mn po an ch g i)), (0, .ref (o 0)), (1, .int (nI g))]) (fun i ls hki hI ihi => ?_) 0 ls (Nat.zero_le _) (lv_sub hl [0, 1, 2, 3] rfl)
  have hl := hI
  refine lv_iload_n hx hb dX2_lastTaker_4 rfl (lv_at hl 0 rfl) ?_
  refine lv_aload_n hx hb dX2_lastTaker_5 rfl (lv_at hl 2 rfl) ?_
  refine gM_items C hP dX2_lastTaker_6 ?_
  refine lv_icmp_ge (tgt := 44) hx hb dX2_lastTaker_9 (by decide) (fun c1 => ?_) (fun c1 => ?_)
  · have c1 : n ≤ i := (nI_leI (by omega) (by omega)).mp c1
    refine lv_iload_n hx hb dX2_lastTaker_44 rfl (lv_at hl 1 rfl) ?_
    exact W.iret (v := m_last mn po an ch g i) hx hb hr (fun t ht _ => ⟨rti (congrArg (m_last mn po an ch g) (by omega)), ht⟩) (fun q h => by cases h) dX2_lastTaker_45
  · have c1 : ¬ n ≤ i := fun z9 => c1 ((nI_leI (by omega) (by omega)).mpr z9)
    have hin : i < n := by omega
    refine lv_aload_n hx hb dX2_lastTaker_12 rfl (lv_at hl 2 rfl) ?_
    refine gM_chosen C hP dX2_lastTaker_13 ?_
    refine lv_iload_n hx hb dX2_lastTaker_16 rfl (lv_at hl 0 rfl) ?_
    refine lM_chosen C hP (by omega) dX2_lastTaker_17 ?_
    refine lv_if_eq (tgt := 36) hx hb dX2_lastTaker_18 (by decide) (fun c2 => ?_) (fun c2 => ?_)
    · have c2 : (ch i) = false := (bI_z (ch i)).mp c2
      refine lv_iload_n hx hb dX2_lastTaker_36 rfl (lv_at hl 1 rfl) ?_
      refine tp_i (y := m_last mn po an ch g (i + 1)) (last_f c2) ?_
      refine lv_istore_n (lv' := [(2, .int (m_last mn po an ch g (i + 1))), (3, .int (nI i)), (0, .ref (o 0)), (1, .int (nI g))]) hx hb dX2_lastTaker_37 rfl hl (by decide) rfl (fun ls hl => ?_)
      refine lv_iinc (v := nI (i + 1)) (lv' := [(3, .int (nI (i + 1))), (2, .int (m_last mn po an ch g (i + 1))), (0, .ref (o 0)), (1, .int (nI g))]) hx hb dX2_lastTaker_38 hl (k := 1) rfl (nI_1 i) (by decide) rfl (fun ls hl => ?_)
      refine lv_goto (tgt := 4) hx hb dX2_lastTaker_41 (by decide) ?_
      exact ihi (by omega) ls (lv_sub hl [0, 1, 2, 3] rfl)
    · have c2 : (ch i) = true := (bI_nz (ch i)).mp c2
      refine lv_aload_n hx hb dX2_lastTaker_21 rfl (lv_at hl 2 rfl) ?_
      refine lv_iload_n hx hb dX2_lastTaker_22 rfl (lv_at hl 0 rfl) ?_
      refine lv_iload_n hx hb dX2_lastTaker_23 rfl (lv_at hl 3 rfl) ?_
      refine pv (va_runV (As := [.int (nI i), .int (nI g)]) (rest := []) ⟨hx, hb, hml, hown, hts⟩ (cM_netAt l hP (Nat.lt_of_lt_of_le hin hok.1) (hok.2.1 i hin).1 (hok.2.1 i hin).2.1 hg) (cwV 2 hts gM_60 rfl rfl rfl (by decide +kernel) (rmF hR (by decide) (by decide))) (kP_V C (va_recv C.2.2.2.2.1 hP (ci := ciM) (q0 := 0) rfl rfl)) rfl rfl hl.1 rfl (lv_room (Nat.le_of_ble_eq_true rfl)) dX2_lastTaker_24 ⟨hR.2.2.1, hR.2.2.2⟩) ?_
      refine lv_lconst (v := 0) hx hb dX2_lastTaker_27 (by decide) ?_
      refine W.lcmp hx hb dX2_lastTaker_28 ?_
      refine lv_if_ge (tgt := 36) hx hb dX2_lastTaker_29 (by decide) (fun c3 => ?_) (fun c3 => ?_)
      · have c3 : 0 ≤ (netA mn po an i g) := (lg_cmp_ge (netA mn po an i g) 0).mp c3
        refine lv_iload_n hx hb dX2_lastTaker_36 rfl (lv_at hl 1 rfl) ?_
        refine tp_i (y := m_last mn po an ch g (i + 1)) (last_f2 (i64_le_nlt c3)) ?_
        refine lv_istore_n (lv' := [(2, .int (m_last mn po an ch g (i + 1))), (3, .int (nI i)), (0, .ref (o 0)), (1, .int (nI g))]) hx hb dX2_lastTaker_37 rfl hl (by decide) rfl (fun ls hl => ?_)
        refine lv_iinc (v := nI (i + 1)) (lv' := [(3, .int (nI (i + 1))), (2, .int (m_last mn po an ch g (i + 1))), (0, .ref (o 0)), (1, .int (nI g))]) hx hb dX2_lastTaker_38 hl (k := 1) rfl (nI_1 i) (by decide) rfl (fun ls hl => ?_)
        refine lv_goto (tgt := 4) hx hb dX2_lastTaker_41 (by decide) ?_
        exact ihi (by omega) ls (lv_sub hl [0, 1, 2, 3] rfl)
      · have c3 : ¬ 0 ≤ (netA mn po an i g) := fun z9 => c3 ((lg_cmp_ge (netA mn po an i g) 0).mpr z9)
        refine lv_iload_n hx hb dX2_lastTaker_32 rfl (lv_at hl 0 rfl) ?_
        refine lv_goto (tgt := 37) hx hb dX2_lastTaker_33 (by decide) ?_
        refine tp_i (y := m_last mn po an ch g (i + 1)) (last_t c2 (i64_nle c3)) ?_
        refine lv_istore_n (lv' := [(2, .int (m_last mn po an ch g (i + 1))), (3, .int (nI i)), (0, .ref (o 0)), (1, .int (nI g))]) hx hb dX2_lastTaker_37 rfl hl (by decide) rfl (fun ls hl => ?_)
        refine lv_iinc (v := nI (i + 1)) (lv' := [(3, .int (nI (i + 1))), (2, .int (m_last mn po an ch g (i + 1))), (0, .ref (o 0)), (1, .int (nI g))]) hx hb dX2_lastTaker_38 hl (k := 1) rfl (nI_1 i) (by decide) rfl (fun ls hl => ?_)
        refine lv_goto (tgt := 4) hx hb dX2_lastTaker_41 (by decide) ?_
        exact ihi (by omega) ls (lv_sub hl [0, 1, 2, 3] rfl)
set_option maxHeartbeats 1000000 in
set_option maxRecDepth 100000 in
theorem cM_meet (l : Launch) (hP : va_P D vwCl (mW R o K va fl n th ch mn po an) H) (hok : cl_ok mn (psM po) (amM an) va fl n) {a b : Nat} (ha : a < n) (hbn : b < n) : Met l yX2_meet (tC yX2_meet cX2_meet 5 (some .boolean)) (rmK 2 0 0) (kP D K H [.ref (o 0), .int (nI a), .int (nI b)]) (k2_QcV (.int (bI (m_meet mn po an a b (mn a))))) 0 0 (fun _ => False) := by
  refine Met.ofW (cc := cX2_meet) (maxL := 5) (ret := (some .boolean)) (by decide) rfl ?_
  intro p e s m args below meth c s₁ B hml hv
  obtain ⟨rfl, hH, hK, hN, hO⟩ := hv
  have hx := B.exec
  have hb := B.bytes
  have hr := B.returns
  have hts : ∀ w ∈ tT, w.before _ s = true := fun w h => atoms_spec (ws := tC yX2_meet cX2_meet 5 (some .boolean)) B.pre w (List.mem_cons_of_mem _ h)
  have hown : s.vm.findClass RX2 = some m.cls := findClass_of_methodNamed B.named
  have hlocks := B.notSynchronized
  have C : cx RX2 D K p s m _ c cX2_meet := ⟨hx, hb, hown, hts, hK, hN, hO⟩
  have hR : rmOk (headSpec (tC yX2_meet cX2_meet 5 (some .boolean)) (rmK 2 0 0)).room 2 0 0 := ⟨Nat.le_refl _, Nat.le_refl _, Nat.le_refl _, Nat.le_refl _⟩
  subst hH
  have hl := lv_entry ([.ref (o 0), .int (nI a), .int (nI b)]) (n := 5) (Nat.le_of_ble_eq_true rfl)
  rw [lg_entry_eq]
  generalize (lg_sl ([.ref (o 0), .int (nI a), .int (nI b)]) ++ List.replicate (5 - (lg_sl ([.ref (o 0), .int (nI a), .int (nI b)])).length) Slot.unset).toArray = ls at hl ⊢
  have hl : lv_has ls 5 [(0, .ref (o 0)), (1, .int (nI a)), (2, .int (nI b))] := hl
  have hn200 : n ≤ 200 := hok.1
  have hma : mn a ≤ 16 := (hok.2.1 a ha).1
  refine lv_iconst (v := nI 0) hx hb dX2_meet_0 (by decide) ?_
  refine tp_i (y := bI (m_meet mn po an a b 0)) (b0 rfl) ?_
  refine lv_istore_n (lv' := [(3, .int (bI (m_meet mn po an a b 0))), (0, .ref (o 0)), (1, .int (nI a)), (2, .int (nI b))]) hx hb dX2_meet_1 rfl hl (by decide) rfl (fun ls hl => ?_)
  refine lv_bipush (v := nI 16) hx hb dX2_meet_2 (by decide) ?_
  refine lv_iload_n hx hb dX2_meet_4 rfl (lv_at hl 2 rfl) ?_
  refine lv_imul hx hb dX2_meet_5 ?_
  refine tp_i (y := nI (16 * a)) (pk_mul 16 a) ?_
  refine tp_i (y := nI (16 * a + 0)) (rfl) ?_
  refine lv_istore (lv' := [(4, .int (nI (16 * a + 0))), (3, .int (bI (m_meet mn po an a b 0))), (0, .ref (o 0)), (1, .int (nI a)), (2, .int (nI b))]) hx hb dX2_meet_6 hl (by decide) rfl (fun ls hl => ?_)
  refine lpW (U := mn a) (pcH := 8) (I := fun j ls => lv_has ls 5 [(4, .int (nI (16 * a + j))), (3, .int (bI (m_meet mn po an a b j))), (0, .ref (o 0)), (1, .int (nI a)), (2, .int (nI b))]) (fun j ls hkj hI ihj => ?_) 0 ls (Nat.zero_le _) (lv_sub hl [0, 1, 2, 3, 4] rfl)
  have hl := hI
  refine lv_iload hx hb dX2_meet_8 (lv_at hl 0 rfl) ?_
  refine lv_bipush (v := nI 16) hx hb dX2_meet_10 (by decide) ?_
  refine lv_iload_n hx hb dX2_meet_12 rfl (lv_at hl 3 rfl) ?_
  refine lv_imul hx hb dX2_meet_13 ?_
  refine tp_i (y := nI (16 * a)) (pk_mul 16 a) ?_
  refine lv_aload_n hx hb dX2_meet_14 rfl (lv_at hl 2 rfl) ?_
  refine gM_many C hP dX2_meet_15 ?_
  refine lv_iload_n hx hb dX2_meet_18 rfl (lv_at hl 3 rfl) ?_
  refine lM_many C hP (by omega) dX2_meet_19 ?_
  refine lv_iadd hx hb dX2_meet_20 ?_
  refine tp_i (y := nI ((16 * a) + (mn a))) (nI_add (16 * a) (mn a)) ?_
  refine lv_icmp_ge (tgt := 69) hx hb dX2_meet_21 (by decide) (fun c1 => ?_) (fun c1 => ?_)
  · have c1 : ((16 * a) + (mn a)) ≤ (16 * a + j) := (nI_leI (by omega) (by omega)).mp c1
    rw [show j = mn a by omega] at hl
    refine lv_iload_n hx hb dX2_meet_69 rfl (lv_at hl 1 rfl) ?_
    exact W.zret (v := bI (m_meet mn po an a b (mn a))) hx hb hr (bI_narrow (m_meet mn po an a b (mn a))) (fun t ht _ => ⟨rfl, ht⟩) (fun q h => by cases h) dX2_meet_70
  · have c1 : ¬ ((16 * a) + (mn a)) ≤ (16 * a + j) := fun z9 => c1 ((nI_leI (by omega) (by omega)).mpr z9)
    have hpj : po (16 * a + j) < 300 := (hok.2.1 a ha).2.1 j (by omega)
    refine lv_iload_n hx hb dX2_meet_24 rfl (lv_at hl 1 rfl) ?_
    refine lv_if_ne (tgt := 57) hx hb dX2_meet_25 (by decide) (fun c2 => ?_) (fun c2 => ?_)
    · have c2 : (m_meet mn po an a b j) = true := (bI_nz (m_meet mn po an a b j)).mp c2
      refine lv_iconst (v := nI 1) hx hb dX2_meet_57 (by decide) ?_
      refine lv_goto (tgt := 62) hx hb dX2_meet_58 (by decide) ?_
      refine tp_i (y := bI (m_meet mn po an a b (j + 1))) (b1 (meet_1 c2)) ?_
      refine lv_istore_n (lv' := [(3, .int (bI (m_meet mn po an a b (j + 1)))), (4, .int (nI (16 * a + j))), (0, .ref (o 0)), (1, .int (nI a)), (2, .int (nI b))]) hx hb dX2_meet_62 rfl hl (by decide) rfl (fun ls hl => ?_)
      refine lv_iinc (v := nI ((16 * a + j) + 1)) (lv' := [(4, .int (nI ((16 * a + j) + 1))), (3, .int (bI (m_meet mn po an a b (j + 1)))), (0, .ref (o 0)), (1, .int (nI a)), (2, .int (nI b))]) hx hb dX2_meet_63 hl (k := 1) rfl (nI_1 (16 * a + j)) (by decide) rfl (fun ls hl => ?_)
      refine lv_goto (tgt := 8) hx hb dX2_meet_66 (by decide) ?_
      exact ihj (by omega) ls (lv_sub hl [0, 1, 2, 3, 4] rfl)
    · have c2 : (m_meet mn po an a b j) = false := (bI_z (m_meet mn po an a b j)).mp c2
      refine lv_aload_n hx hb dX2_meet_28 rfl (lv_at hl 2 rfl) ?_
      refine gM_amounts C hP dX2_meet_29 ?_
      refine lv_iload hx hb dX2_meet_32 (lv_at hl 0 rfl) ?_
      refine lM_amounts C hP (by omega) dX2_meet_34 ?_
      refine lv_lconst (v := 0) hx hb dX2_meet_35 (by decide) ?_
      refine W.lcmp hx hb dX2_meet_36 ?_
      refine lv_if_ge (tgt := 61) hx hb dX2_meet_37 (by decide) (fun c3 => ?_) (fun c3 => ?_)
      · have c3 : 0 ≤ (an (16 * a + j)) := (lg_cmp_ge (an (16 * a + j)) 0).mp c3
        refine lv_iconst (v := nI 0) hx hb dX2_meet_61 (by decide) ?_
        refine tp_i (y := bI (m_meet mn po an a b (j + 1))) (b0 (meet_3 c2 (i64_le_nlt c3))) ?_
        refine lv_istore_n (lv' := [(3, .int (bI (m_meet mn po an a b (j + 1)))), (4, .int (nI (16 * a + j))), (0, .ref (o 0)), (1, .int (nI a)), (2, .int (nI b))]) hx hb dX2_meet_62 rfl hl (by decide) rfl (fun ls hl => ?_)
        refine lv_iinc (v := nI ((16 * a + j) + 1)) (lv' := [(4, .int (nI ((16 * a + j) + 1))), (3, .int (bI (m_meet mn po an a b (j + 1)))), (0, .ref (o 0)), (1, .int (nI a)), (2, .int (nI b))]) hx hb dX2_meet_63 hl (k := 1) rfl (nI_1 (16 * a + j)) (by decide) rfl (fun ls hl => ?_)
        refine lv_goto (tgt := 8) hx hb dX2_meet_66 (by decide) ?_
        exact ihj (by omega) ls (lv_sub hl [0, 1, 2, 3, 4] rfl)
      · have c3 : ¬ 0 ≤ (an (16 * a + j)) := fun z9 => c3 ((lg_cmp_ge (an (16 * a + j)) 0).mpr z9)
        refine lv_aload_n hx hb dX2_meet_40 rfl (lv_at hl 2 rfl) ?_
        refine lv_iload_n hx hb dX2_meet_41 rfl (lv_at hl 4 rfl) ?_
        refine lv_aload_n hx hb dX2_meet_42 rfl (lv_at hl 2 rfl) ?_
        refine gM_positions C hP dX2_meet_43 ?_
        refine lv_iload hx hb dX2_meet_46 (lv_at hl 0 rfl) ?_
        refine lM_positions C hP (by omega) dX2_meet_48 ?_
        refine pv (va_runV (As := [.int (nI b), .int (nI (po (16 * a + j)))]) (rest := []) ⟨hx, hb, hml, hown, hts⟩ (cM_netAt l hP (Nat.lt_of_lt_of_le hbn hok.1) (hok.2.1 b hbn).1 (hok.2.1 b hbn).2.1 hpj) (cwV 2 hts gM_60 rfl rfl rfl (by decide +kernel) (rmF hR (by decide) (by decide))) (kP_V C (va_recv C.2.2.2.2.1 hP (ci := ciM) (q0 := 0) rfl rfl)) rfl rfl hl.1 rfl (lv_room (Nat.le_of_ble_eq_true rfl)) dX2_meet_49 ⟨hR.2.2.1, hR.2.2.2⟩) ?_
        refine lv_lconst (v := 0) hx hb dX2_meet_52 (by decide) ?_
        refine W.lcmp hx hb dX2_meet_53 ?_
        refine lv_if_ge (tgt := 61) hx hb dX2_meet_54 (by decide) (fun c4 => ?_) (fun c4 => ?_)
        · have c4 : 0 ≤ (netA mn po an b (po (16 * a + j))) := (lg_cmp_ge (netA mn po an b (po (16 * a + j))) 0).mp c4
          refine lv_iconst (v := nI 0) hx hb dX2_meet_61 (by decide) ?_
          refine tp_i (y := bI (m_meet mn po an a b (j + 1))) (b0 (meet_4 c2 (i64_le_nlt c4))) ?_
          refine lv_istore_n (lv' := [(3, .int (bI (m_meet mn po an a b (j + 1)))), (4, .int (nI (16 * a + j))), (0, .ref (o 0)), (1, .int (nI a)), (2, .int (nI b))]) hx hb dX2_meet_62 rfl hl (by decide) rfl (fun ls hl => ?_)
          refine lv_iinc (v := nI ((16 * a + j) + 1)) (lv' := [(4, .int (nI ((16 * a + j) + 1))), (3, .int (bI (m_meet mn po an a b (j + 1)))), (0, .ref (o 0)), (1, .int (nI a)), (2, .int (nI b))]) hx hb dX2_meet_63 hl (k := 1) rfl (nI_1 (16 * a + j)) (by decide) rfl (fun ls hl => ?_)
          refine lv_goto (tgt := 8) hx hb dX2_meet_66 (by decide) ?_
          exact ihj (by omega) ls (lv_sub hl [0, 1, 2, 3, 4] rfl)
        · have c4 : ¬ 0 ≤ (netA mn po an b (po (16 * a + j))) := fun z9 => c4 ((lg_cmp_ge (netA mn po an b (po (16 * a + j))) 0).mpr z9)
          refine lv_iconst (v := nI 1) hx hb dX2_meet_57 (by decide) ?_
          refine lv_goto (tgt := 62) hx hb dX2_meet_58 (by decide) ?_
          refine tp_i (y := bI (m_meet mn po an a b (j + 1))) (b1 (meet_2 (i64_nle c3) (i64_nle c4))) ?_
          refine lv_istore_n (lv' := [(3, .int (bI (m_meet mn po an a b (j + 1)))), (4, .int (nI (16 * a + j))), (0, .ref (o 0)), (1, .int (nI a)), (2, .int (nI b))]) hx hb dX2_meet_62 rfl hl (by decide) rfl (fun ls hl => ?_)
          refine lv_iinc (v := nI ((16 * a + j) + 1)) (lv' := [(4, .int (nI ((16 * a + j) + 1))), (3, .int (bI (m_meet mn po an a b (j + 1)))), (0, .ref (o 0)), (1, .int (nI a)), (2, .int (nI b))]) hx hb dX2_meet_63 hl (k := 1) rfl (nI_1 (16 * a + j)) (by decide) rfl (fun ls hl => ?_)
          refine lv_goto (tgt := 8) hx hb dX2_meet_66 (by decide) ?_
          exact ihj (by omega) ls (lv_sub hl [0, 1, 2, 3, 4] rfl)
set_option maxHeartbeats 1000000 in
set_option maxRecDepth 100000 in
theorem cM_lacks (l : Launch) (hP : va_P D vwCl (mW R o K va fl n th ch mn po an) H) (hok : cl_ok mn (psM po) (amM an) va fl n) {i : Nat} (hi : i < n) : Met l yX2_lacks (tC yX2_lacks cX2_lacks 4 (some .boolean)) (rmK 3 0 0) (kP D K H [.ref (o 0), .int (nI i)]) (k2_QcV (.int (bI (m_lack mn po an th ch i i)))) 0 0 (fun _ => False) := by
  refine Met.ofW (cc := cX2_lacks) (maxL := 4) (ret := (some .boolean)) (by decide) rfl ?_
  intro p e s m args below meth c s₁ B hml hv
  obtain ⟨rfl, hH, hK, hN, hO⟩ := hv
  have hx := B.exec
  have hb := B.bytes
  have hr := B.returns
  have hts : ∀ w ∈ tT, w.before _ s = true := fun w h => atoms_spec (ws := tC yX2_lacks cX2_lacks 4 (some .boolean)) B.pre w (List.mem_cons_of_mem _ h)
  have hown : s.vm.findClass RX2 = some m.cls := findClass_of_methodNamed B.named
  have hlocks := B.notSynchronized
  have C : cx RX2 D K p s m _ c cX2_lacks := ⟨hx, hb, hown, hts, hK, hN, hO⟩
  have hR : rmOk (headSpec (tC yX2_lacks cX2_lacks 4 (some .boolean)) (rmK 3 0 0)).room 3 0 0 := ⟨Nat.le_refl _, Nat.le_refl _, Nat.le_refl _, Nat.le_refl _⟩
  subst hH
  have hl := lv_entry ([.ref (o 0), .int (nI i)]) (n := 4) (Nat.le_of_ble_eq_true rfl)
  rw [lg_entry_eq]
  generalize (lg_sl ([.ref (o 0), .int (nI i)]) ++ List.replicate (4 - (lg_sl ([.ref (o 0), .int (nI i)])).length) Slot.unset).toArray = ls at hl ⊢
  have hl : lv_has ls 4 [(0, .ref (o 0)), (1, .int (nI i))] := hl
  have hn200 : n ≤ 200 := hok.1
  refine lv_iconst (v := nI 0) hx hb dX2_lacks_0 (by decide) ?_
  refine tp_i (y := bI (m_lack mn po an th ch i 0)) (b0 rfl) ?_
  refine lv_istore_n (lv' := [(2, .int (bI (m_lack mn po an th ch i 0))), (0, .ref (o 0)), (1, .int (nI i))]) hx hb dX2_lacks_1 rfl hl (by decide) rfl (fun ls hl => ?_)
  refine lv_iconst (v := nI 0) hx hb dX2_lacks_2 (by decide) ?_
  refine lv_istore_n (lv' := [(3, .int (nI 0)), (2, .int (bI (m_lack mn po an th ch i 0))), (0, .ref (o 0)), (1, .int (nI i))]) hx hb dX2_lacks_3 rfl hl (by decide) rfl (fun ls hl => ?_)
  refine lpW (U := i) (pcH := 4) (I := fun j ls => lv_has ls 4 [(3, .int (nI j)), (2, .int (bI (m_lack mn po an th ch i j))), (0, .ref (o 0)), (1, .int (nI i))]) (fun j ls hkj hI ihj => ?_) 0 ls (Nat.zero_le _) (lv_sub hl [0, 1, 2, 3] rfl)
  have hl := hI
  refine lv_iload_n hx hb dX2_lacks_4 rfl (lv_at hl 0 rfl) ?_
  refine lv_iload_n hx hb dX2_lacks_5 rfl (lv_at hl 3 rfl) ?_
  refine lv_icmp_ge (tgt := 52) hx hb dX2_lacks_6 (by decide) (fun c1 => ?_) (fun c1 => ?_)
  · have c1 : i ≤ j := (nI_leI (by omega) (by omega)).mp c1
    rw [show j = i by omega] at hl
    refine lv_iload_n hx hb dX2_lacks_52 rfl (lv_at hl 1 rfl) ?_
    exact W.zret (v := bI (m_lack mn po an th ch i i)) hx hb hr (bI_narrow (m_lack mn po an th ch i i)) (fun t ht _ => ⟨rfl, ht⟩) (fun q h => by cases h) dX2_lacks_53
  · have c1 : ¬ i ≤ j := fun z9 => c1 ((nI_leI (by omega) (by omega)).mpr z9)
    refine lv_iload_n hx hb dX2_lacks_9 rfl (lv_at hl 1 rfl) ?_
    refine lv_if_ne (tgt := 40) hx hb dX2_lacks_10 (by decide) (fun c2 => ?_) (fun c2 => ?_)
    · have c2 : (m_lack mn po an th ch i j) = true := (bI_nz (m_lack mn po an th ch i j)).mp c2
      refine lv_iconst (v := nI 1) hx hb dX2_lacks_40 (by decide) ?_
      refine lv_goto (tgt := 45) hx hb dX2_lacks_41 (by decide) ?_
      refine tp_i (y := bI (m_lack mn po an th ch i (j + 1))) (b1 (lack_1 c2)) ?_
      refine lv_istore_n (lv' := [(2, .int (bI (m_lack mn po an th ch i (j + 1)))), (3, .int (nI j)), (0, .ref (o 0)), (1, .int (nI i))]) hx hb dX2_lacks_45 rfl hl (by decide) rfl (fun ls hl => ?_)
      refine lv_iinc (v := nI (j + 1)) (lv' := [(3, .int (nI (j + 1))), (2, .int (bI (m_lack mn po an th ch i (j + 1)))), (0, .ref (o 0)), (1, .int (nI i))]) hx hb dX2_lacks_46 hl (k := 1) rfl (nI_1 j) (by decide) rfl (fun ls hl => ?_)
      refine lv_goto (tgt := 4) hx hb dX2_lacks_49 (by decide) ?_
      exact ihj (by omega) ls (lv_sub hl [0, 1, 2, 3] rfl)
    · have c2 : (m_lack mn po an th ch i j) = false := (bI_z (m_lack mn po an th ch i j)).mp c2
      refine lv_aload_n hx hb dX2_lacks_13 rfl (lv_at hl 2 rfl) ?_
      refine gM_there C hP dX2_lacks_14 ?_
      refine lv_iload_n hx hb dX2_lacks_17 rfl (lv_at hl 0 rfl) ?_
      refine lM_there C hP (by omega) dX2_lacks_18 ?_
      refine lv_if_eq (tgt := 44) hx hb dX2_lacks_19 (by decide) (fun c3 => ?_) (fun c3 => ?_)
      · have c3 : (th j) = false := (bI_z (th j)).mp c3
        refine lv_iconst (v := nI 0) hx hb dX2_lacks_44 (by decide) ?_
        refine tp_i (y := bI (m_lack mn po an th ch i (j + 1))) (b0 (lack_3 c2 c3)) ?_
        refine lv_istore_n (lv' := [(2, .int (bI (m_lack mn po an th ch i (j + 1)))), (3, .int (nI j)), (0, .ref (o 0)), (1, .int (nI i))]) hx hb dX2_lacks_45 rfl hl (by decide) rfl (fun ls hl => ?_)
        refine lv_iinc (v := nI (j + 1)) (lv' := [(3, .int (nI (j + 1))), (2, .int (bI (m_lack mn po an th ch i (j + 1)))), (0, .ref (o 0)), (1, .int (nI i))]) hx hb dX2_lacks_46 hl (k := 1) rfl (nI_1 j) (by decide) rfl (fun ls hl => ?_)
        refine lv_goto (tgt := 4) hx hb dX2_lacks_49 (by decide) ?_
        exact ihj (by omega) ls (lv_sub hl [0, 1, 2, 3] rfl)
      · have c3 : (th j) = true := (bI_nz (th j)).mp c3
        refine lv_aload_n hx hb dX2_lacks_22 rfl (lv_at hl 2 rfl) ?_
        refine gM_chosen C hP dX2_lacks_23 ?_
        refine lv_iload_n hx hb dX2_lacks_26 rfl (lv_at hl 0 rfl) ?_
        refine lM_chosen C hP (by omega) dX2_lacks_27 ?_
        refine lv_if_ne (tgt := 44) hx hb dX2_lacks_28 (by decide) (fun c4 => ?_) (fun c4 => ?_)
        · have c4 : (ch j) = true := (bI_nz (ch j)).mp c4
          refine lv_iconst (v := nI 0) hx hb dX2_lacks_44 (by decide) ?_
          refine tp_i (y := bI (m_lack mn po an th ch i (j + 1))) (b0 (lack_4 c2 c4)) ?_
          refine lv_istore_n (lv' := [(2, .int (bI (m_lack mn po an th ch i (j + 1)))), (3, .int (nI j)), (0, .ref (o 0)), (1, .int (nI i))]) hx hb dX2_lacks_45 rfl hl (by decide) rfl (fun ls hl => ?_)
          refine lv_iinc (v := nI (j + 1)) (lv' := [(3, .int (nI (j + 1))), (2, .int (bI (m_lack mn po an th ch i (j + 1)))), (0, .ref (o 0)), (1, .int (nI i))]) hx hb dX2_lacks_46 hl (k := 1) rfl (nI_1 j) (by decide) rfl (fun ls hl => ?_)
          refine lv_goto (tgt := 4) hx hb dX2_lacks_49 (by decide) ?_
          exact ihj (by omega) ls (lv_sub hl [0, 1, 2, 3] rfl)
        · have c4 : (ch j) = false := (bI_z (ch j)).mp c4
          refine lv_aload_n hx hb dX2_lacks_31 rfl (lv_at hl 2 rfl) ?_
          refine lv_iload_n hx hb dX2_lacks_32 rfl (lv_at hl 0 rfl) ?_
          refine lv_iload_n hx hb dX2_lacks_33 rfl (lv_at hl 3 rfl) ?_
          refine pv (va_runV (As := [.int (nI j), .int (nI i)]) (rest := []) ⟨hx, hb, hml, hown, hts⟩ (cM_meet l hP hok (show j < n by omega) hi) (cwV 2 hts gM_68 rfl rfl rfl (by decide +kernel) (rmF hR (by decide) (by decide))) (kP_V C (va_recv C.2.2.2.2.1 hP (ci := ciM) (q0 := 0) rfl rfl)) rfl rfl hl.1 rfl (lv_room (Nat.le_of_ble_eq_true rfl)) dX2_lacks_34 ⟨hR.2.2.1, hR.2.2.2⟩) ?_
          refine lv_if_eq (tgt := 44) hx hb dX2_lacks_37 (by decide) (fun c5 => ?_) (fun c5 => ?_)
          · have c5 : (m_meet mn po an j i (mn j)) = false := (bI_z (m_meet mn po an j i (mn j))).mp c5
            refine lv_iconst (v := nI 0) hx hb dX2_lacks_44 (by decide) ?_
            refine tp_i (y := bI (m_lack mn po an th ch i (j + 1))) (b0 (lack_5 c2 c5)) ?_
            refine lv_istore_n (lv' := [(2, .int (bI (m_lack mn po an th ch i (j + 1)))), (3, .int (nI j)), (0, .ref (o 0)), (1, .int (nI i))]) hx hb dX2_lacks_45 rfl hl (by decide) rfl (fun ls hl => ?_)
            refine lv_iinc (v := nI (j + 1)) (lv' := [(3, .int (nI (j + 1))), (2, .int (bI (m_lack mn po an th ch i (j + 1)))), (0, .ref (o 0)), (1, .int (nI i))]) hx hb dX2_lacks_46 hl (k := 1) rfl (nI_1 j) (by decide) rfl (fun ls hl => ?_)
            refine lv_goto (tgt := 4) hx hb dX2_lacks_49 (by decide) ?_
            exact ihj (by omega) ls (lv_sub hl [0, 1, 2, 3] rfl)
          · have c5 : (m_meet mn po an j i (mn j)) = true := (bI_nz (m_meet mn po an j i (mn j))).mp c5
            refine lv_iconst (v := nI 1) hx hb dX2_lacks_40 (by decide) ?_
            refine lv_goto (tgt := 45) hx hb dX2_lacks_41 (by decide) ?_
            refine tp_i (y := bI (m_lack mn po an th ch i (j + 1))) (b1 (lack_2 c3 c4 c5)) ?_
            refine lv_istore_n (lv' := [(2, .int (bI (m_lack mn po an th ch i (j + 1)))), (3, .int (nI j)), (0, .ref (o 0)), (1, .int (nI i))]) hx hb dX2_lacks_45 rfl hl (by decide) rfl (fun ls hl => ?_)
            refine lv_iinc (v := nI (j + 1)) (lv' := [(3, .int (nI (j + 1))), (2, .int (bI (m_lack mn po an th ch i (j + 1)))), (0, .ref (o 0)), (1, .int (nI i))]) hx hb dX2_lacks_46 hl (k := 1) rfl (nI_1 j) (by decide) rfl (fun ls hl => ?_)
            refine lv_goto (tgt := 4) hx hb dX2_lacks_49 (by decide) ?_
            exact ihj (by omega) ls (lv_sub hl [0, 1, 2, 3] rfl)
set_option maxHeartbeats 1000000 in
set_option maxRecDepth 100000 in
theorem cM_net_no (l : Launch) (hP : va_P D vwCl (mW R o K va fl n th ch mn po an) H) (hn200 : n ≤ 200) (x y : Int32) (v : Int64) (h : nT n th x) : Met l yX2_net (tC yX2_net cX2_net 9 (some .boolean)) (rmK 2 0 0) (kP D K H [.ref (o 0), .int x, .int y, .long v]) (k2_QcV (.int (nI 0))) 0 0 (fun _ => False) := by
  refine Met.ofW (cc := cX2_net) (maxL := 9) (ret := (some .boolean)) (by decide) rfl ?_
  intro p e s m args below meth c s₁ B hml hv
  obtain ⟨rfl, hH, hK, hN, hO⟩ := hv
  have hx := B.exec
  have hb := B.bytes
  have hr := B.returns
  have hts : ∀ w ∈ tT, w.before _ s = true := fun w h => atoms_spec (ws := tC yX2_net cX2_net 9 (some .boolean)) B.pre w (List.mem_cons_of_mem _ h)
  have hown : s.vm.findClass RX2 = some m.cls := findClass_of_methodNamed B.named
  have hlocks := B.notSynchronized
  have C : cx RX2 D K p s m _ c cX2_net := ⟨hx, hb, hown, hts, hK, hN, hO⟩
  have hR : rmOk (headSpec (tC yX2_net cX2_net 9 (some .boolean)) (rmK 2 0 0)).room 2 0 0 := ⟨Nat.le_refl _, Nat.le_refl _, Nat.le_refl _, Nat.le_refl _⟩
  subst hH
  have hl := lv_entry ([.ref (o 0), .int x, .int y, .long v]) (n := 9) (Nat.le_of_ble_eq_true rfl)
  rw [lg_entry_eq]
  generalize (lg_sl ([.ref (o 0), .int x, .int y, .long v]) ++ List.replicate (9 - (lg_sl ([.ref (o 0), .int x, .int y, .long v])).length) Slot.unset).toArray = ls at hl ⊢
  have hl : lv_has ls 9 [(0, .ref (o 0)), (1, .int x), (2, .int y), (3, .long v)] := hl
  refine lv_aload_n hx hb dX2_net_0 rfl (lv_at hl 0 rfl) ?_
  refine lv_iload_n hx hb dX2_net_1 rfl (lv_at hl 1 rfl) ?_
  refine pv (va_runV (As := [.int x]) (rest := []) ⟨hx, hb, hml, hown, hts⟩ (cM_isThere_no l hP hn200 x h) (cwV 1 hts gM_53 rfl rfl rfl (by decide +kernel) (rmF hR (by decide) (by decide))) (kP_V C (va_recv C.2.2.2.2.1 hP (ci := ciM) (q0 := 0) rfl rfl)) rfl rfl hl.1 rfl (lv_room (Nat.le_of_ble_eq_true rfl)) dX2_net_2 ⟨hR.2.2.1, hR.2.2.2⟩) ?_
  refine lv_if_eq (tgt := 15) hx hb dX2_net_5 (by decide) (fun c1 => ?_) (fun c1 => ?_)
  · refine lv_iconst (v := nI 0) hx hb dX2_net_15 (by decide) ?_
    exact W.zret (v := nI 0) hx hb hr (by decide) (fun t ht _ => ⟨rfl, ht⟩) (fun q h => by cases h) dX2_net_16
  · exact absurd (by decide) c1
set_option maxHeartbeats 1000000 in
set_option maxRecDepth 100000 in
theorem cM_net_no2 (l : Launch) (hP : va_P D vwCl (mW R o K va fl n th ch mn po an) H) (hn200 : n ≤ 200) {i : Nat} (hi : i < n) (hT : th i = true) (y : Int32) (v : Int64) (h : isP y = false) : Met l yX2_net (tC yX2_net cX2_net 9 (some .boolean)) (rmK 2 0 0) (kP D K H [.ref (o 0), .int (nI i), .int y, .long v]) (k2_QcV (.int (nI 0))) 0 0 (fun _ => False) := by
  refine Met.ofW (cc := cX2_net) (maxL := 9) (ret := (some .boolean)) (by decide) rfl ?_
  intro p e s m args below meth c s₁ B hml hv
  obtain ⟨rfl, hH, hK, hN, hO⟩ := hv
  have hx := B.exec
  have hb := B.bytes
  have hr := B.returns
  have hts : ∀ w ∈ tT, w.before _ s = true := fun w h => atoms_spec (ws := tC yX2_net cX2_net 9 (some .boolean)) B.pre w (List.mem_cons_of_mem _ h)
  have hown : s.vm.findClass RX2 = some m.cls := findClass_of_methodNamed B.named
  have hlocks := B.notSynchronized
  have C : cx RX2 D K p s m _ c cX2_net := ⟨hx, hb, hown, hts, hK, hN, hO⟩
  have hR : rmOk (headSpec (tC yX2_net cX2_net 9 (some .boolean)) (rmK 2 0 0)).room 2 0 0 := ⟨Nat.le_refl _, Nat.le_refl _, Nat.le_refl _, Nat.le_refl _⟩
  subst hH
  have hl := lv_entry ([.ref (o 0), .int (nI i), .int y, .long v]) (n := 9) (Nat.le_of_ble_eq_true rfl)
  rw [lg_entry_eq]
  generalize (lg_sl ([.ref (o 0), .int (nI i), .int y, .long v]) ++ List.replicate (9 - (lg_sl ([.ref (o 0), .int (nI i), .int y, .long v])).length) Slot.unset).toArray = ls at hl ⊢
  have hl : lv_has ls 9 [(0, .ref (o 0)), (1, .int (nI i)), (2, .int y), (3, .long v)] := hl
  refine lv_aload_n hx hb dX2_net_0 rfl (lv_at hl 0 rfl) ?_
  refine lv_iload_n hx hb dX2_net_1 rfl (lv_at hl 1 rfl) ?_
  refine pv (va_runV (As := [.int (nI i)]) (rest := []) ⟨hx, hb, hml, hown, hts⟩ (cM_isThere l hP hn200 hi hT) (cwV 1 hts gM_53 rfl rfl rfl (by decide +kernel) (rmF hR (by decide) (by decide))) (kP_V C (va_recv C.2.2.2.2.1 hP (ci := ciM) (q0 := 0) rfl rfl)) rfl rfl hl.1 rfl (lv_room (Nat.le_of_ble_eq_true rfl)) dX2_net_2 ⟨hR.2.2.1, hR.2.2.2⟩) ?_
  refine lv_if_eq (tgt := 15) hx hb dX2_net_5 (by decide) (fun c1 => ?_) (fun c1 => ?_)
  · exact absurd c1 (by decide)
  · refine lv_iload_n hx hb dX2_net_8 rfl (lv_at hl 2 rfl) ?_
    refine pv (va_runS (As := [.int y]) (rest := []) ⟨hx, hb, hml, hown, hts⟩ (cM_isPosition l y) (cwS 1 hts gM_37 rfl rfl rfl (by decide +kernel) (rmF hR (by decide) (by decide))) (kP_S C) rfl rfl hl.1 rfl (lv_room (Nat.le_of_ble_eq_true rfl)) dX2_net_9 ⟨hR.2.2.1, hR.2.2.2⟩) ?_
    refine lv_if_ne (tgt := 17) hx hb dX2_net_12 (by decide) (fun c2 => ?_) (fun c2 => ?_)
    · have c2 : (isP y) = true := (bI_nz (isP y)).mp c2
      exact absurd (c2.symm.trans h) (by decide)
    · have c2 : (isP y) = false := (bI_z (isP y)).mp c2
      refine lv_iconst (v := nI 0) hx hb dX2_net_15 (by decide) ?_
      exact W.zret (v := nI 0) hx hb hr (by decide) (fun t ht _ => ⟨rfl, ht⟩) (fun q h => by cases h) dX2_net_16
set_option maxHeartbeats 1000000 in
set_option maxRecDepth 100000 in
theorem cM_net (l : Launch) (hP : va_P D vwCl (mW R o K va fl n th ch mn po an) H) (hD : va_D A (mW R o K va fl n th ch mn po an)) (hn200 : n ≤ 200) {i : Nat} (hi : i < n) (hT : th i = true) (hmi : mn i ≤ 16) (hpo : ∀ k, k < mn i → psM po i k < 300) {g : Nat} (hg : g < 300) (v : Int64) : Met l yX2_net (tC yX2_net cX2_net 9 (some .boolean)) (rmK 2 0 0) (kP D K H [.ref (o 0), .int (nI i), .int (nI g), .long v]) (qI D A (fun (r : Int32) (u : Unit) => r = bI (chM mn po an i g v).1) (fun u : Unit => mW R o K va fl n th ch (chM mn po an i g v).2.1 (chM mn po an i g v).2.2.1 (chM mn po an i g v).2.2.2)) 0 0 A := by
  refine Met.ofW (cc := cX2_net) (maxL := 9) (ret := (some .boolean)) (by decide) rfl ?_
  intro p e s m args below meth c s₁ B hml hv
  obtain ⟨rfl, hH, hK, hN, hO⟩ := hv
  have hx := B.exec
  have hb := B.bytes
  have hr := B.returns
  have hts : ∀ w ∈ tT, w.before _ s = true := fun w h => atoms_spec (ws := tC yX2_net cX2_net 9 (some .boolean)) B.pre w (List.mem_cons_of_mem _ h)
  have hown : s.vm.findClass RX2 = some m.cls := findClass_of_methodNamed B.named
  have hlocks := B.notSynchronized
  have C : cx RX2 D K p s m _ c cX2_net := ⟨hx, hb, hown, hts, hK, hN, hO⟩
  have hR : rmOk (headSpec (tC yX2_net cX2_net 9 (some .boolean)) (rmK 2 0 0)).room 2 0 0 := ⟨Nat.le_refl _, Nat.le_refl _, Nat.le_refl _, Nat.le_refl _⟩
  subst hH
  have hS : va_S A s.heap s.heap [] := va_S.rf
  have hl := lv_entry ([.ref (o 0), .int (nI i), .int (nI g), .long v]) (n := 9) (Nat.le_of_ble_eq_true rfl)
  rw [lg_entry_eq]
  generalize (lg_sl ([.ref (o 0), .int (nI i), .int (nI g), .long v]) ++ List.replicate (9 - (lg_sl ([.ref (o 0), .int (nI i), .int (nI g), .long v])).length) Slot.unset).toArray = ls at hl ⊢
  have hl : lv_has ls 9 [(0, .ref (o 0)), (1, .int (nI i)), (2, .int (nI g)), (3, .long v)] := hl
  have hle : mfd mn po i g ≤ 16 * i + mn i := fs_le _ _ _
  have hge : 16 * i ≤ mfd mn po i g := fs_ge _ _ _
  have hi2 : i < 200 := by omega
  refine lv_aload_n hx hb dX2_net_0 rfl (lv_at hl 0 rfl) ?_
  refine lv_iload_n hx hb dX2_net_1 rfl (lv_at hl 1 rfl) ?_
  refine pv (va_runV (As := [.int (nI i)]) (rest := []) ⟨hx, hb, hml, hown, hts⟩ (cM_isThere l hP hn200 hi hT) (cwV 1 hts gM_53 rfl rfl rfl (by decide +kernel) (rmF hR (by decide) (by decide))) (kP_V C (va_recv C.2.2.2.2.1 hP (ci := ciM) (q0 := 0) rfl rfl)) rfl rfl hl.1 rfl (lv_room (Nat.le_of_ble_eq_true rfl)) dX2_net_2 ⟨hR.2.2.1, hR.2.2.2⟩) ?_
  refine lv_if_eq (tgt := 15) hx hb dX2_net_5 (by decide) (fun c1 => ?_) (fun c1 => ?_)
  · exact absurd c1 (by decide)
  · refine lv_iload_n hx hb dX2_net_8 rfl (lv_at hl 2 rfl) ?_
    refine pv (va_runS (As := [.int (nI g)]) (rest := []) ⟨hx, hb, hml, hown, hts⟩ (cM_isPosition l (nI g)) (cwS 1 hts gM_37 rfl rfl rfl (by decide +kernel) (rmF hR (by decide) (by decide))) (kP_S C) rfl rfl hl.1 rfl (lv_room (Nat.le_of_ble_eq_true rfl)) dX2_net_9 ⟨hR.2.2.1, hR.2.2.2⟩) ?_
    refine lv_if_ne (tgt := 17) hx hb dX2_net_12 (by decide) (fun c2 => ?_) (fun c2 => ?_)
    · have c2 : (isP (nI g)) = true := (bI_nz (isP (nI g))).mp c2
      refine lv_lload_n hx hb dX2_net_17 rfl (lv_at hl 3 rfl) ?_
      refine lv_ldc2 (v := 2000000000000000) hx hb hown (hts _ (by decide +kernel : Cond.constantLong RX2 56 2000000000000000 ∈ tT)) dX2_net_18 ?_
      refine W.lcmp hx hb dX2_net_21 ?_
      refine lv_if_gt (tgt := 33) hx hb dX2_net_22 (by decide) (fun c3 => ?_) (fun c3 => ?_)
      · have c3 : 2000000000000000 < v := (lg_cmp_gt v 2000000000000000).mp c3
        refine lv_iconst (v := nI 0) hx hb dX2_net_33 (by decide) ?_
        have hc : chM mn po an i g v = (false, mn, po, an) := by
          unfold chM
          exact if_pos (Or.inl c3)
        have e1 : mW R o K va fl n th ch (chM mn po an i g v).2.1 (chM mn po an i g v).2.2.1 (chM mn po an i g v).2.2.2 = mW R o K va fl n th ch mn po an := by rw [hc]
        rw [← e1] at hP hD
        exact W.zret (v := nI 0) hx hb hr (by decide) (fun t ht _ => ⟨⟨_, (), rfl, b0 (by rw [hc]), by rw [ht]; exact hP, hD⟩, hS.F ht⟩) hS.2.2 dX2_net_34
      · have c3 : ¬ 2000000000000000 < v := fun z9 => c3 ((lg_cmp_gt v 2000000000000000).mpr z9)
        refine lv_lload_n hx hb dX2_net_25 rfl (lv_at hl 3 rfl) ?_
        refine lv_ldc2 (v := (-2000000000000000)) hx hb hown (hts _ (by decide +kernel : Cond.constantLong RX2 58 (-2000000000000000) ∈ tT)) dX2_net_26 ?_
        refine W.lcmp hx hb dX2_net_29 ?_
        refine lv_if_ge (tgt := 35) hx hb dX2_net_30 (by decide) (fun c4 => ?_) (fun c4 => ?_)
        · have c4 : (-2000000000000000) ≤ v := (lg_cmp_ge v (-2000000000000000)).mp c4
          have n1 : ¬ (2000000000000000 < v ∨ v < (-2000000000000000)) := fun y => y.elim c3 (i64_le_nlt c4)
          refine lv_aload_n hx hb dX2_net_35 rfl (lv_at hl 0 rfl) ?_
          refine lv_iload_n hx hb dX2_net_36 rfl (lv_at hl 1 rfl) ?_
          refine lv_iload_n hx hb dX2_net_37 rfl (lv_at hl 2 rfl) ?_
          refine pv (va_runV (As := [.int (nI i), .int (nI g)]) (rest := []) ⟨hx, hb, hml, hown, hts⟩ (cM_netAt l hP hi2 hmi hpo hg) (cwV 2 hts gM_60 rfl rfl rfl (by decide +kernel) (rmF hR (by decide) (by decide))) (kP_V C (va_recv C.2.2.2.2.1 hP (ci := ciM) (q0 := 0) rfl rfl)) rfl rfl hl.1 rfl (lv_room (Nat.le_of_ble_eq_true rfl)) dX2_net_38 ⟨hR.2.2.1, hR.2.2.2⟩) ?_
          refine lv_lload_n hx hb dX2_net_41 rfl (lv_at hl 3 rfl) ?_
          refine lv_ladd hx hb dX2_net_42 ?_
          refine tp_l (y := netA mn po an i g + v) (rfl) ?_
          generalize hs : netA mn po an i g + v = z
          refine lv_lstore (lv' := [(5, .long z), (0, .ref (o 0)), (1, .int (nI i)), (2, .int (nI g)), (3, .long v)]) hx hb dX2_net_43 hl (by decide) rfl (fun ls hl => ?_)
          refine lv_lload hx hb dX2_net_45 (lv_at hl 0 rfl) ?_
          refine lv_ldc2 (v := 1000000000000000) hx hb hown (hts _ (by decide +kernel : Cond.constantLong RX2 64 1000000000000000 ∈ tT)) dX2_net_47 ?_
          refine W.lcmp hx hb dX2_net_50 ?_
          refine lv_if_gt (tgt := 63) hx hb dX2_net_51 (by decide) (fun c5 => ?_) (fun c5 => ?_)
          · have c5 : 1000000000000000 < z := (lg_cmp_gt z 1000000000000000).mp c5
            refine lv_iconst (v := nI 0) hx hb dX2_net_63 (by decide) ?_
            have hc : chM mn po an i g v = (false, mn, po, an) := by
              unfold chM
              rw [if_neg n1, hs]
              exact if_pos (Or.inl c5)
            have e1 : mW R o K va fl n th ch (chM mn po an i g v).2.1 (chM mn po an i g v).2.2.1 (chM mn po an i g v).2.2.2 = mW R o K va fl n th ch mn po an := by rw [hc]
            rw [← e1] at hP hD
            exact W.zret (v := nI 0) hx hb hr (by decide) (fun t ht _ => ⟨⟨_, (), rfl, b0 (by rw [hc]), by rw [ht]; exact hP, hD⟩, hS.F ht⟩) hS.2.2 dX2_net_64
          · have c5 : ¬ 1000000000000000 < z := fun z9 => c5 ((lg_cmp_gt z 1000000000000000).mpr z9)
            refine lv_lload hx hb dX2_net_54 (lv_at hl 0 rfl) ?_
            refine lv_ldc2 (v := (-1000000000000000)) hx hb hown (hts _ (by decide +kernel : Cond.constantLong RX2 66 (-1000000000000000) ∈ tT)) dX2_net_56 ?_
            refine W.lcmp hx hb dX2_net_59 ?_
            refine lv_if_ge (tgt := 65) hx hb dX2_net_60 (by decide) (fun c6 => ?_) (fun c6 => ?_)
            · have c6 : (-1000000000000000) ≤ z := (lg_cmp_ge z (-1000000000000000)).mp c6
              have n2 : ¬ (1000000000000000 < z ∨ z < (-1000000000000000)) := fun y => y.elim c5 (i64_le_nlt c6)
              refine lv_aload_n hx hb dX2_net_65 rfl (lv_at hl 1 rfl) ?_
              refine lv_iload_n hx hb dX2_net_66 rfl (lv_at hl 2 rfl) ?_
              refine lv_iload_n hx hb dX2_net_67 rfl (lv_at hl 3 rfl) ?_
              refine pv (va_runV (As := [.int (nI i), .int (nI g)]) (rest := []) ⟨hx, hb, hml, hown, hts⟩ (cM_find l hP hi2 hmi hpo hg) (cwV 2 hts gM_49 rfl rfl rfl (by decide +kernel) (rmF hR (by decide) (by decide))) (kP_V C (va_recv C.2.2.2.2.1 hP (ci := ciM) (q0 := 0) rfl rfl)) rfl rfl hl.1 rfl (lv_room (Nat.le_of_ble_eq_true rfl)) dX2_net_68 ⟨hR.2.2.1, hR.2.2.2⟩) ?_
              refine lv_istore (lv' := [(7, .int (nI (mfd mn po i g))), (5, .long z), (0, .ref (o 0)), (1, .int (nI i)), (2, .int (nI g)), (3, .long v)]) hx hb dX2_net_71 hl (by decide) rfl (fun ls hl => ?_)
              refine lv_bipush (v := nI 16) hx hb dX2_net_73 (by decide) ?_
              refine lv_iload_n hx hb dX2_net_75 rfl (lv_at hl 3 rfl) ?_
              refine lv_imul hx hb dX2_net_76 ?_
              refine tp_i (y := nI (16 * i)) (pk_mul 16 i) ?_
              refine lv_aload_n hx hb dX2_net_77 rfl (lv_at hl 2 rfl) ?_
              refine gM_many C hP dX2_net_78 ?_
              refine lv_iload_n hx hb dX2_net_81 rfl (lv_at hl 3 rfl) ?_
              refine lM_many C hP (by omega) dX2_net_82 ?_
              refine lv_iadd hx hb dX2_net_83 ?_
              refine tp_i (y := nI ((16 * i) + (mn i))) (nI_add (16 * i) (mn i)) ?_
              refine lv_istore (lv' := [(8, .int (nI ((16 * i) + (mn i)))), (7, .int (nI (mfd mn po i g))), (5, .long z), (0, .ref (o 0)), (1, .int (nI i)), (2, .int (nI g)), (3, .long v)]) hx hb dX2_net_84 hl (by decide) rfl (fun ls hl => ?_)
              refine lv_iload hx hb dX2_net_86 (lv_at hl 1 rfl) ?_
              refine lv_iload hx hb dX2_net_88 (lv_at hl 0 rfl) ?_
              refine lv_icmp_ge (tgt := 148) hx hb dX2_net_90 (by decide) (fun c7 => ?_) (fun c7 => ?_)
              · have c7 : ((16 * i) + (mn i)) ≤ (mfd mn po i g) := (nI_leI (by omega) (by omega)).mp c7
                refine lv_lload hx hb dX2_net_148 (lv_at hl 2 rfl) ?_
                refine lv_lconst (v := 0) hx hb dX2_net_150 (by decide) ?_
                refine W.lcmp hx hb dX2_net_151 ?_
                refine lv_if_ne (tgt := 157) hx hb dX2_net_152 (by decide) (fun c9 => ?_) (fun c9 => ?_)
                · have c9 : ¬ z = 0 := fun z9 => c9 ((lg_cmp_eq z 0).mpr z9)
                  have n9 : ¬ z = 0 := c9
                  refine lv_iload hx hb dX2_net_157 (lv_at hl 1 rfl) ?_
                  refine lv_iload hx hb dX2_net_159 (lv_at hl 0 rfl) ?_
                  refine lv_icmp_ne (tgt := 177) hx hb dX2_net_161 (by decide) (fun d1 => ?_) (fun d1 => ?_)
                  · have d1 : ¬ (mfd mn po i g) = ((16 * i) + (mn i)) := fun z9 => d1 ((nI_eq (by omega) (by omega)).mpr z9)
                    refine lv_iload hx hb dX2_net_177 (lv_at hl 1 rfl) ?_
                    refine lv_iload hx hb dX2_net_179 (lv_at hl 0 rfl) ?_
                    refine lv_icmp_ne (tgt := 198) hx hb dX2_net_181 (by decide) (fun d2 => ?_) (fun d2 => ?_)
                    · have d2 : ¬ (mfd mn po i g) = ((16 * i) + (mn i)) := fun z9 => d2 ((nI_eq (by omega) (by omega)).mpr z9)
                      refine lv_aload_n hx hb dX2_net_198 rfl (lv_at hl 3 rfl) ?_
                      refine gM_positions C hP dX2_net_199 ?_
                      refine lv_iload hx hb dX2_net_202 (lv_at hl 1 rfl) ?_
                      refine lv_iload_n hx hb dX2_net_204 rfl (lv_at hl 5 rfl) ?_
                      refine sM_positions (x := g) C hP hD hS (by omega) dX2_net_205 (fun H locs hP hD hS => ?_)
                      refine lv_aload_n hx hb dX2_net_206 rfl (lv_at hl 3 rfl) ?_
                      refine gM_amounts C hP dX2_net_207 ?_
                      refine lv_iload hx hb dX2_net_210 (lv_at hl 1 rfl) ?_
                      refine lv_lload hx hb dX2_net_212 (lv_at hl 2 rfl) ?_
                      refine sM_amounts (x := z) C hP hD hS (by omega) dX2_net_214 (fun H locs hP hD hS => ?_)
                      refine lv_iconst (v := nI 1) hx hb dX2_net_215 (by decide) ?_
                      have hc : chM mn po an i g v = (true, mn, va_up po (mfd mn po i g) g, va_up an (mfd mn po i g) z) := by
                        unfold chM
                        rw [if_neg n1, hs, if_neg n2]
                        rw [if_neg (show ¬ (mfd mn po i g < 16 * i + mn i ∧ z = 0) from fun y => n9 y.2), if_neg n9]
                        rw [if_neg (show ¬ (mfd mn po i g = 16 * i + mn i ∧ mn i = 16) from fun y => d1 y.1)]
                        rw [if_neg (show ¬ mfd mn po i g = 16 * i + mn i from d1)]
                      have e1 : mW R o K va fl n th ch (chM mn po an i g v).2.1 (chM mn po an i g v).2.2.1 (chM mn po an i g v).2.2.2 = mW R o K va fl n th ch mn (va_up po (mfd mn po i g) g) (va_up an (mfd mn po i g) z) := by rw [hc]
                      rw [← e1] at hP hD
                      exact W.zret (v := nI 1) hx hb hr (by decide) (fun t ht _ => ⟨⟨_, (), rfl, b1 (by rw [hc]), by rw [ht]; exact hP, hD⟩, hS.F ht⟩) hS.2.2 dX2_net_216
                    · have d2 : (mfd mn po i g) = ((16 * i) + (mn i)) := (nI_eq (by omega) (by omega)).mp d2
                      exact absurd d2 d1
                  · have d1 : (mfd mn po i g) = ((16 * i) + (mn i)) := (nI_eq (by omega) (by omega)).mp d1
                    refine lv_aload_n hx hb dX2_net_164 rfl (lv_at hl 3 rfl) ?_
                    refine gM_many C hP dX2_net_165 ?_
                    refine lv_iload_n hx hb dX2_net_168 rfl (lv_at hl 4 rfl) ?_
                    refine lM_many C hP (by omega) dX2_net_169 ?_
                    refine lv_bipush (v := nI 16) hx hb dX2_net_170 (by decide) ?_
                    refine lv_icmp_ne (tgt := 177) hx hb dX2_net_172 (by decide) (fun d3 => ?_) (fun d3 => ?_)
                    · have d3 : ¬ (mn i) = 16 := fun z9 => d3 ((nI_eq (by omega) (by omega)).mpr z9)
                      refine lv_iload hx hb dX2_net_177 (lv_at hl 1 rfl) ?_
                      refine lv_iload hx hb dX2_net_179 (lv_at hl 0 rfl) ?_
                      refine lv_icmp_ne (tgt := 198) hx hb dX2_net_181 (by decide) (fun d4 => ?_) (fun d4 => ?_)
                      · have d4 : ¬ (mfd mn po i g) = ((16 * i) + (mn i)) := fun z9 => d4 ((nI_eq (by omega) (by omega)).mpr z9)
                        exact absurd d1 d4
                      · have d4 : (mfd mn po i g) = ((16 * i) + (mn i)) := (nI_eq (by omega) (by omega)).mp d4
                        refine lv_aload_n hx hb dX2_net_184 rfl (lv_at hl 3 rfl) ?_
                        refine gM_many C hP dX2_net_185 ?_
                        refine lv_iload_n hx hb dX2_net_188 rfl (lv_at hl 4 rfl) ?_
                        refine lv_aload_n hx hb dX2_net_189 rfl (lv_at hl 3 rfl) ?_
                        refine gM_many C hP dX2_net_190 ?_
                        refine lv_iload_n hx hb dX2_net_193 rfl (lv_at hl 4 rfl) ?_
                        refine lM_many C hP (by omega) dX2_net_194 ?_
                        refine lv_iconst (v := nI 1) hx hb dX2_net_195 (by decide) ?_
                        refine lv_iadd hx hb dX2_net_196 ?_
                        refine tp_i (y := nI ((mn i) + 1)) (nI_add (mn i) 1) ?_
                        refine sM_many (x := ((mn i) + 1)) C hP hD hS (by omega) dX2_net_197 (fun H locs hP hD hS => ?_)
                        refine lv_aload_n hx hb dX2_net_198 rfl (lv_at hl 3 rfl) ?_
                        refine gM_positions C hP dX2_net_199 ?_
                        refine lv_iload hx hb dX2_net_202 (lv_at hl 1 rfl) ?_
                        refine lv_iload_n hx hb dX2_net_204 rfl (lv_at hl 5 rfl) ?_
                        refine sM_positions (x := g) C hP hD hS (by omega) dX2_net_205 (fun H locs hP hD hS => ?_)
                        refine lv_aload_n hx hb dX2_net_206 rfl (lv_at hl 3 rfl) ?_
                        refine gM_amounts C hP dX2_net_207 ?_
                        refine lv_iload hx hb dX2_net_210 (lv_at hl 1 rfl) ?_
                        refine lv_lload hx hb dX2_net_212 (lv_at hl 2 rfl) ?_
                        refine sM_amounts (x := z) C hP hD hS (by omega) dX2_net_214 (fun H locs hP hD hS => ?_)
                        refine lv_iconst (v := nI 1) hx hb dX2_net_215 (by decide) ?_
                        have hc : chM mn po an i g v = (true, va_up mn i (mn i + 1), va_up po (mfd mn po i g) g, va_up an (mfd mn po i g) z) := by
                          unfold chM
                          rw [if_neg n1, hs, if_neg n2]
                          rw [if_neg (show ¬ (mfd mn po i g < 16 * i + mn i ∧ z = 0) from fun y => n9 y.2), if_neg n9]
                          rw [if_neg (show ¬ (mfd mn po i g = 16 * i + mn i ∧ mn i = 16) from fun y => d3 y.2)]
                          rw [if_pos (show mfd mn po i g = 16 * i + mn i from d1)]
                        have e1 : mW R o K va fl n th ch (chM mn po an i g v).2.1 (chM mn po an i g v).2.2.1 (chM mn po an i g v).2.2.2 = mW R o K va fl n th ch (va_up mn i ((mn i) + 1)) (va_up po (mfd mn po i g) g) (va_up an (mfd mn po i g) z) := by rw [hc]
                        rw [← e1] at hP hD
                        exact W.zret (v := nI 1) hx hb hr (by decide) (fun t ht _ => ⟨⟨_, (), rfl, b1 (by rw [hc]), by rw [ht]; exact hP, hD⟩, hS.F ht⟩) hS.2.2 dX2_net_216
                    · have d3 : (mn i) = 16 := (nI_eq (by omega) (by omega)).mp d3
                      refine lv_iconst (v := nI 0) hx hb dX2_net_175 (by decide) ?_
                      have hc : chM mn po an i g v = (false, mn, po, an) := by
                        unfold chM
                        rw [if_neg n1, hs, if_neg n2]
                        rw [if_neg (show ¬ (mfd mn po i g < 16 * i + mn i ∧ z = 0) from fun y => n9 y.2), if_neg n9]
                        exact if_pos ⟨d1, d3⟩
                      have e1 : mW R o K va fl n th ch (chM mn po an i g v).2.1 (chM mn po an i g v).2.2.1 (chM mn po an i g v).2.2.2 = mW R o K va fl n th ch mn po an := by rw [hc]
                      rw [← e1] at hP hD
                      exact W.zret (v := nI 0) hx hb hr (by decide) (fun t ht _ => ⟨⟨_, (), rfl, b0 (by rw [hc]), by rw [ht]; exact hP, hD⟩, hS.F ht⟩) hS.2.2 dX2_net_176
                · have c9 : z = 0 := (lg_cmp_eq z 0).mp c9
                  refine lv_iconst (v := nI 1) hx hb dX2_net_155 (by decide) ?_
                  have hc : chM mn po an i g v = (true, mn, po, an) := by
                    unfold chM
                    rw [if_neg n1, hs, if_neg n2]
                    rw [if_neg (show ¬ (mfd mn po i g < 16 * i + mn i ∧ z = 0) from fun y => absurd y.1 (by omega))]
                    exact if_pos c9
                  have e1 : mW R o K va fl n th ch (chM mn po an i g v).2.1 (chM mn po an i g v).2.2.1 (chM mn po an i g v).2.2.2 = mW R o K va fl n th ch mn po an := by rw [hc]
                  rw [← e1] at hP hD
                  exact W.zret (v := nI 1) hx hb hr (by decide) (fun t ht _ => ⟨⟨_, (), rfl, b1 (by rw [hc]), by rw [ht]; exact hP, hD⟩, hS.F ht⟩) hS.2.2 dX2_net_156
              · have c7 : ¬ ((16 * i) + (mn i)) ≤ (mfd mn po i g) := fun z9 => c7 ((nI_leI (by omega) (by omega)).mpr z9)
                refine lv_lload hx hb dX2_net_93 (lv_at hl 2 rfl) ?_
                refine lv_lconst (v := 0) hx hb dX2_net_95 (by decide) ?_
                refine W.lcmp hx hb dX2_net_96 ?_
                refine lv_if_ne (tgt := 148) hx hb dX2_net_97 (by decide) (fun c8 => ?_) (fun c8 => ?_)
                · have c8 : ¬ z = 0 := fun z9 => c8 ((lg_cmp_eq z 0).mpr z9)
                  refine lv_lload hx hb dX2_net_148 (lv_at hl 2 rfl) ?_
                  refine lv_lconst (v := 0) hx hb dX2_net_150 (by decide) ?_
                  refine W.lcmp hx hb dX2_net_151 ?_
                  refine lv_if_ne (tgt := 157) hx hb dX2_net_152 (by decide) (fun c9 => ?_) (fun c9 => ?_)
                  · have c9 : ¬ z = 0 := fun z9 => c9 ((lg_cmp_eq z 0).mpr z9)
                    have n9 : ¬ z = 0 := c9
                    refine lv_iload hx hb dX2_net_157 (lv_at hl 1 rfl) ?_
                    refine lv_iload hx hb dX2_net_159 (lv_at hl 0 rfl) ?_
                    refine lv_icmp_ne (tgt := 177) hx hb dX2_net_161 (by decide) (fun d1 => ?_) (fun d1 => ?_)
                    · have d1 : ¬ (mfd mn po i g) = ((16 * i) + (mn i)) := fun z9 => d1 ((nI_eq (by omega) (by omega)).mpr z9)
                      refine lv_iload hx hb dX2_net_177 (lv_at hl 1 rfl) ?_
                      refine lv_iload hx hb dX2_net_179 (lv_at hl 0 rfl) ?_
                      refine lv_icmp_ne (tgt := 198) hx hb dX2_net_181 (by decide) (fun d2 => ?_) (fun d2 => ?_)
                      · have d2 : ¬ (mfd mn po i g) = ((16 * i) + (mn i)) := fun z9 => d2 ((nI_eq (by omega) (by omega)).mpr z9)
                        refine lv_aload_n hx hb dX2_net_198 rfl (lv_at hl 3 rfl) ?_
                        refine gM_positions C hP dX2_net_199 ?_
                        refine lv_iload hx hb dX2_net_202 (lv_at hl 1 rfl) ?_
                        refine lv_iload_n hx hb dX2_net_204 rfl (lv_at hl 5 rfl) ?_
                        refine sM_positions (x := g) C hP hD hS (by omega) dX2_net_205 (fun H locs hP hD hS => ?_)
                        refine lv_aload_n hx hb dX2_net_206 rfl (lv_at hl 3 rfl) ?_
                        refine gM_amounts C hP dX2_net_207 ?_
                        refine lv_iload hx hb dX2_net_210 (lv_at hl 1 rfl) ?_
                        refine lv_lload hx hb dX2_net_212 (lv_at hl 2 rfl) ?_
                        refine sM_amounts (x := z) C hP hD hS (by omega) dX2_net_214 (fun H locs hP hD hS => ?_)
                        refine lv_iconst (v := nI 1) hx hb dX2_net_215 (by decide) ?_
                        have hc : chM mn po an i g v = (true, mn, va_up po (mfd mn po i g) g, va_up an (mfd mn po i g) z) := by
                          unfold chM
                          rw [if_neg n1, hs, if_neg n2]
                          rw [if_neg (show ¬ (mfd mn po i g < 16 * i + mn i ∧ z = 0) from fun y => n9 y.2), if_neg n9]
                          rw [if_neg (show ¬ (mfd mn po i g = 16 * i + mn i ∧ mn i = 16) from fun y => d1 y.1)]
                          rw [if_neg (show ¬ mfd mn po i g = 16 * i + mn i from d1)]
                        have e1 : mW R o K va fl n th ch (chM mn po an i g v).2.1 (chM mn po an i g v).2.2.1 (chM mn po an i g v).2.2.2 = mW R o K va fl n th ch mn (va_up po (mfd mn po i g) g) (va_up an (mfd mn po i g) z) := by rw [hc]
                        rw [← e1] at hP hD
                        exact W.zret (v := nI 1) hx hb hr (by decide) (fun t ht _ => ⟨⟨_, (), rfl, b1 (by rw [hc]), by rw [ht]; exact hP, hD⟩, hS.F ht⟩) hS.2.2 dX2_net_216
                      · have d2 : (mfd mn po i g) = ((16 * i) + (mn i)) := (nI_eq (by omega) (by omega)).mp d2
                        exact absurd d2 d1
                    · have d1 : (mfd mn po i g) = ((16 * i) + (mn i)) := (nI_eq (by omega) (by omega)).mp d1
                      refine lv_aload_n hx hb dX2_net_164 rfl (lv_at hl 3 rfl) ?_
                      refine gM_many C hP dX2_net_165 ?_
                      refine lv_iload_n hx hb dX2_net_168 rfl (lv_at hl 4 rfl) ?_
                      refine lM_many C hP (by omega) dX2_net_169 ?_
                      refine lv_bipush (v := nI 16) hx hb dX2_net_170 (by decide) ?_
                      refine lv_icmp_ne (tgt := 177) hx hb dX2_net_172 (by decide) (fun d3 => ?_) (fun d3 => ?_)
                      · have d3 : ¬ (mn i) = 16 := fun z9 => d3 ((nI_eq (by omega) (by omega)).mpr z9)
                        refine lv_iload hx hb dX2_net_177 (lv_at hl 1 rfl) ?_
                        refine lv_iload hx hb dX2_net_179 (lv_at hl 0 rfl) ?_
                        refine lv_icmp_ne (tgt := 198) hx hb dX2_net_181 (by decide) (fun d4 => ?_) (fun d4 => ?_)
                        · have d4 : ¬ (mfd mn po i g) = ((16 * i) + (mn i)) := fun z9 => d4 ((nI_eq (by omega) (by omega)).mpr z9)
                          exact absurd d1 d4
                        · have d4 : (mfd mn po i g) = ((16 * i) + (mn i)) := (nI_eq (by omega) (by omega)).mp d4
                          refine lv_aload_n hx hb dX2_net_184 rfl (lv_at hl 3 rfl) ?_
                          refine gM_many C hP dX2_net_185 ?_
                          refine lv_iload_n hx hb dX2_net_188 rfl (lv_at hl 4 rfl) ?_
                          refine lv_aload_n hx hb dX2_net_189 rfl (lv_at hl 3 rfl) ?_
                          refine gM_many C hP dX2_net_190 ?_
                          refine lv_iload_n hx hb dX2_net_193 rfl (lv_at hl 4 rfl) ?_
                          refine lM_many C hP (by omega) dX2_net_194 ?_
                          refine lv_iconst (v := nI 1) hx hb dX2_net_195 (by decide) ?_
                          refine lv_iadd hx hb dX2_net_196 ?_
                          refine tp_i (y := nI ((mn i) + 1)) (nI_add (mn i) 1) ?_
                          refine sM_many (x := ((mn i) + 1)) C hP hD hS (by omega) dX2_net_197 (fun H locs hP hD hS => ?_)
                          refine lv_aload_n hx hb dX2_net_198 rfl (lv_at hl 3 rfl) ?_
                          refine gM_positions C hP dX2_net_199 ?_
                          refine lv_iload hx hb dX2_net_202 (lv_at hl 1 rfl) ?_
                          refine lv_iload_n hx hb dX2_net_204 rfl (lv_at hl 5 rfl) ?_
                          refine sM_positions (x := g) C hP hD hS (by omega) dX2_net_205 (fun H locs hP hD hS => ?_)
                          refine lv_aload_n hx hb dX2_net_206 rfl (lv_at hl 3 rfl) ?_
                          refine gM_amounts C hP dX2_net_207 ?_
                          refine lv_iload hx hb dX2_net_210 (lv_at hl 1 rfl) ?_
                          refine lv_lload hx hb dX2_net_212 (lv_at hl 2 rfl) ?_
                          refine sM_amounts (x := z) C hP hD hS (by omega) dX2_net_214 (fun H locs hP hD hS => ?_)
                          refine lv_iconst (v := nI 1) hx hb dX2_net_215 (by decide) ?_
                          have hc : chM mn po an i g v = (true, va_up mn i (mn i + 1), va_up po (mfd mn po i g) g, va_up an (mfd mn po i g) z) := by
                            unfold chM
                            rw [if_neg n1, hs, if_neg n2]
                            rw [if_neg (show ¬ (mfd mn po i g < 16 * i + mn i ∧ z = 0) from fun y => n9 y.2), if_neg n9]
                            rw [if_neg (show ¬ (mfd mn po i g = 16 * i + mn i ∧ mn i = 16) from fun y => d3 y.2)]
                            rw [if_pos (show mfd mn po i g = 16 * i + mn i from d1)]
                          have e1 : mW R o K va fl n th ch (chM mn po an i g v).2.1 (chM mn po an i g v).2.2.1 (chM mn po an i g v).2.2.2 = mW R o K va fl n th ch (va_up mn i ((mn i) + 1)) (va_up po (mfd mn po i g) g) (va_up an (mfd mn po i g) z) := by rw [hc]
                          rw [← e1] at hP hD
                          exact W.zret (v := nI 1) hx hb hr (by decide) (fun t ht _ => ⟨⟨_, (), rfl, b1 (by rw [hc]), by rw [ht]; exact hP, hD⟩, hS.F ht⟩) hS.2.2 dX2_net_216
                      · have d3 : (mn i) = 16 := (nI_eq (by omega) (by omega)).mp d3
                        refine lv_iconst (v := nI 0) hx hb dX2_net_175 (by decide) ?_
                        have hc : chM mn po an i g v = (false, mn, po, an) := by
                          unfold chM
                          rw [if_neg n1, hs, if_neg n2]
                          rw [if_neg (show ¬ (mfd mn po i g < 16 * i + mn i ∧ z = 0) from fun y => n9 y.2), if_neg n9]
                          exact if_pos ⟨d1, d3⟩
                        have e1 : mW R o K va fl n th ch (chM mn po an i g v).2.1 (chM mn po an i g v).2.2.1 (chM mn po an i g v).2.2.2 = mW R o K va fl n th ch mn po an := by rw [hc]
                        rw [← e1] at hP hD
                        exact W.zret (v := nI 0) hx hb hr (by decide) (fun t ht _ => ⟨⟨_, (), rfl, b0 (by rw [hc]), by rw [ht]; exact hP, hD⟩, hS.F ht⟩) hS.2.2 dX2_net_176
                  · have c9 : z = 0 := (lg_cmp_eq z 0).mp c9
                    refine lv_iconst (v := nI 1) hx hb dX2_net_155 (by decide) ?_
                    have hc : chM mn po an i g v = (true, mn, po, an) := by
                      unfold chM
                      rw [if_neg n1, hs, if_neg n2]
                      rw [if_neg (show ¬ (mfd mn po i g < 16 * i + mn i ∧ z = 0) from fun y => c8 y.2)]
                      exact if_pos c9
                    have e1 : mW R o K va fl n th ch (chM mn po an i g v).2.1 (chM mn po an i g v).2.2.1 (chM mn po an i g v).2.2.2 = mW R o K va fl n th ch mn po an := by rw [hc]
                    rw [← e1] at hP hD
                    exact W.zret (v := nI 1) hx hb hr (by decide) (fun t ht _ => ⟨⟨_, (), rfl, b1 (by rw [hc]), by rw [ht]; exact hP, hD⟩, hS.F ht⟩) hS.2.2 dX2_net_156
                · have c8 : z = 0 := (lg_cmp_eq z 0).mp c8
                  have hpos : 0 < mn i := by omega
                  refine lv_aload_n hx hb dX2_net_100 rfl (lv_at hl 3 rfl) ?_
                  refine gM_positions C hP dX2_net_101 ?_
                  refine lv_iload hx hb dX2_net_104 (lv_at hl 1 rfl) ?_
                  refine lv_aload_n hx hb dX2_net_106 rfl (lv_at hl 3 rfl) ?_
                  refine gM_positions C hP dX2_net_107 ?_
                  refine lv_iload hx hb dX2_net_110 (lv_at hl 0 rfl) ?_
                  refine lv_iconst (v := nI 1) hx hb dX2_net_112 (by decide) ?_
                  refine lv_isub hx hb dX2_net_113 ?_
                  refine tp_i (y := nI (((16 * i) + (mn i)) - 1)) (pk_sub (by omega)) ?_
                  refine lM_positions C hP (by omega) dX2_net_114 ?_
                  refine sM_positions (x := (po (((16 * i) + (mn i)) - 1))) C hP hD hS (by omega) dX2_net_115 (fun H locs hP hD hS => ?_)
                  refine lv_aload_n hx hb dX2_net_116 rfl (lv_at hl 3 rfl) ?_
                  refine gM_amounts C hP dX2_net_117 ?_
                  refine lv_iload hx hb dX2_net_120 (lv_at hl 1 rfl) ?_
                  refine lv_aload_n hx hb dX2_net_122 rfl (lv_at hl 3 rfl) ?_
                  refine gM_amounts C hP dX2_net_123 ?_
                  refine lv_iload hx hb dX2_net_126 (lv_at hl 0 rfl) ?_
                  refine lv_iconst (v := nI 1) hx hb dX2_net_128 (by decide) ?_
                  refine lv_isub hx hb dX2_net_129 ?_
                  refine tp_i (y := nI (((16 * i) + (mn i)) - 1)) (pk_sub (by omega)) ?_
                  refine lM_amounts C hP (by omega) dX2_net_130 ?_
                  refine sM_amounts (x := an (((16 * i) + (mn i)) - 1)) C hP hD hS (by omega) dX2_net_131 (fun H locs hP hD hS => ?_)
                  refine lv_aload_n hx hb dX2_net_132 rfl (lv_at hl 3 rfl) ?_
                  refine gM_many C hP dX2_net_133 ?_
                  refine lv_iload_n hx hb dX2_net_136 rfl (lv_at hl 4 rfl) ?_
                  refine lv_aload_n hx hb dX2_net_137 rfl (lv_at hl 3 rfl) ?_
                  refine gM_many C hP dX2_net_138 ?_
                  refine lv_iload_n hx hb dX2_net_141 rfl (lv_at hl 4 rfl) ?_
                  refine lM_many C hP (by omega) dX2_net_142 ?_
                  refine lv_iconst (v := nI 1) hx hb dX2_net_143 (by decide) ?_
                  refine lv_isub hx hb dX2_net_144 ?_
                  refine tp_i (y := nI ((mn i) - 1)) (pk_sub (by omega)) ?_
                  refine sM_many (x := ((mn i) - 1)) C hP hD hS (by omega) dX2_net_145 (fun H locs hP hD hS => ?_)
                  refine lv_iconst (v := nI 1) hx hb dX2_net_146 (by decide) ?_
                  have hc : chM mn po an i g v = (true, va_up mn i (mn i - 1), va_up po (mfd mn po i g) (po (16 * i + mn i - 1)), va_up an (mfd mn po i g) (an (16 * i + mn i - 1))) := by
                    unfold chM
                    rw [if_neg n1, hs, if_neg n2]
                    exact if_pos ⟨by omega, c8⟩
                  have e1 : mW R o K va fl n th ch (chM mn po an i g v).2.1 (chM mn po an i g v).2.2.1 (chM mn po an i g v).2.2.2 = mW R o K va fl n th ch (va_up mn i ((mn i) - 1)) (va_up po (mfd mn po i g) (po (((16 * i) + (mn i)) - 1))) (va_up an (mfd mn po i g) (an (((16 * i) + (mn i)) - 1))) := by rw [hc]
                  rw [← e1] at hP hD
                  exact W.zret (v := nI 1) hx hb hr (by decide) (fun t ht _ => ⟨⟨_, (), rfl, b1 (by rw [hc]), by rw [ht]; exact hP, hD⟩, hS.F ht⟩) hS.2.2 dX2_net_147
            · have c6 : ¬ (-1000000000000000) ≤ z := fun z9 => c6 ((lg_cmp_ge z (-1000000000000000)).mpr z9)
              refine lv_iconst (v := nI 0) hx hb dX2_net_63 (by decide) ?_
              have hc : chM mn po an i g v = (false, mn, po, an) := by
                unfold chM
                rw [if_neg n1, hs]
                exact if_pos (Or.inr (i64_nle c6))
              have e1 : mW R o K va fl n th ch (chM mn po an i g v).2.1 (chM mn po an i g v).2.2.1 (chM mn po an i g v).2.2.2 = mW R o K va fl n th ch mn po an := by rw [hc]
              rw [← e1] at hP hD
              exact W.zret (v := nI 0) hx hb hr (by decide) (fun t ht _ => ⟨⟨_, (), rfl, b0 (by rw [hc]), by rw [ht]; exact hP, hD⟩, hS.F ht⟩) hS.2.2 dX2_net_64
        · have c4 : ¬ (-2000000000000000) ≤ v := fun z9 => c4 ((lg_cmp_ge v (-2000000000000000)).mpr z9)
          refine lv_iconst (v := nI 0) hx hb dX2_net_33 (by decide) ?_
          have hc : chM mn po an i g v = (false, mn, po, an) := by
            unfold chM
            exact if_pos (Or.inr (i64_nle c4))
          have e1 : mW R o K va fl n th ch (chM mn po an i g v).2.1 (chM mn po an i g v).2.2.1 (chM mn po an i g v).2.2.2 = mW R o K va fl n th ch mn po an := by rw [hc]
          rw [← e1] at hP hD
          exact W.zret (v := nI 0) hx hb hr (by decide) (fun t ht _ => ⟨⟨_, (), rfl, b0 (by rw [hc]), by rw [ht]; exact hP, hD⟩, hS.F ht⟩) hS.2.2 dX2_net_34
    · have c2 : (isP (nI g)) = false := (bI_z (isP (nI g))).mp c2
      exact absurd ((isP_nI hg).symm.trans c2) (by decide)
end MM2
end
section
/-! THE REFERENCE: solve, perform -/
section MM3
variable {D : va_G} {K : Nat → ClassId} {H : Heap} {A : Nat → Prop} {R : va_W} {o : Nat → Nat} {va fl an : Nat → Int64} {n : Nat} {th ch : Nat → Bool} {mn po : Nat → Nat}
set_option maxHeartbeats 1000000 in
set_option maxRecDepth 100000 in
theorem cM_solve (l : Launch) (hP : va_P D vwCl (mW R o K va fl n th ch mn po an) H) (hD : va_D A (mW R o K va fl n th ch mn po an)) (hok : cl_ok mn (psM po) (amM an) va fl n) (hth : ∀ i, n ≤ i → th i = false) (hch : ∀ i, n ≤ i → ch i = false) : Met l yX2_solve (tC yX2_solve cX2_solve 3 (some .int)) (rmK 4 0 0) (kP D K H [.ref (o 0)]) (qI D A (fun (r : Int32) (u : (Nat → Bool)) => r = nI (cn u 200) ∧ ms_inv mn po an va fl n th u ∧ gd_good n th (nvS mn (psM po) (amM an)) (iV va) (iV fl) u) (fun u : (Nat → Bool) => mW R o K va fl n th u mn po an)) 0 0 A := by
  refine Met.ofW (cc := cX2_solve) (maxL := 3) (ret := (some .int)) (by decide) rfl ?_
  intro p e s m args below meth c s₁ B hml hv
  obtain ⟨rfl, hH, hK, hN, hO⟩ := hv
  have hx := B.exec
  have hb := B.bytes
  have hr := B.returns
  have hts : ∀ w ∈ tT, w.before _ s = true := fun w h => atoms_spec (ws := tC yX2_solve cX2_solve 3 (some .int)) B.pre w (List.mem_cons_of_mem _ h)
  have hown : s.vm.findClass RX2 = some m.cls := findClass_of_methodNamed B.named
  have hlocks := B.notSynchronized
  have C : cx RX2 D K p s m _ c cX2_solve := ⟨hx, hb, hown, hts, hK, hN, hO⟩
  have hR : rmOk (headSpec (tC yX2_solve cX2_solve 3 (some .int)) (rmK 4 0 0)).room 4 0 0 := ⟨Nat.le_refl _, Nat.le_refl _, Nat.le_refl _, Nat.le_refl _⟩
  subst hH
  have hS : va_S A s.heap s.heap [] := va_S.rf
  have hl := lv_entry ([.ref (o 0)]) (n := 3) (Nat.le_of_ble_eq_true rfl)
  rw [lg_entry_eq]
  generalize (lg_sl ([.ref (o 0)]) ++ List.replicate (3 - (lg_sl ([.ref (o 0)])).length) Slot.unset).toArray = ls at hl ⊢
  have hl : lv_has ls 3 [(0, .ref (o 0))] := hl
  have hn200 : n ≤ 200 := hok.1
  refine lv_iconst (v := nI 0) hx hb dX2_solve_0 (by decide) ?_
  refine lv_istore_n (lv' := [(1, .int (nI 0)), (0, .ref (o 0))]) hx hb dX2_solve_1 rfl hl (by decide) rfl (fun ls hl => ?_)
  refine lpM (U := 200) (pcH := 2) (I := fun k ls H locs => lv_has ls 3 [(1, .int (nI k)), (0, .ref (o 0))] ∧ va_P D vwCl (mW R o K va fl n th (st_s th ch k) mn po an) H ∧ va_D A (mW R o K va fl n th (st_s th ch k) mn po an) ∧ va_S A s.heap H locs) (fun k ls H locs hkk hI ihk => ?_) 0 ls _ _ (Nat.zero_le _) ⟨(lv_sub hl [0, 1] rfl), hP, hD, hS⟩
  obtain ⟨hl, hP, hD, hS⟩ := hI
  refine lv_iload_n hx hb dX2_solve_2 rfl (lv_at hl 0 rfl) ?_
  refine lv_sipush (v := nI 200) hx hb dX2_solve_3 (by decide) ?_
  refine lv_icmp_ge (tgt := 27) hx hb dX2_solve_6 (by decide) (fun c0 => ?_) (fun c0 => ?_)
  · have c0 : 200 ≤ k := (nI_leI (by omega) (by omega)).mp c0
    rw [show k = 200 by omega] at hP hD
    refine lv_iconst (v := nI 1) hx hb dX2_solve_27 (by decide) ?_
    refine tp_i (y := bI true) (b1 rfl) ?_
    refine lv_istore_n (lv' := [(1, .int (bI true)), (0, .ref (o 0))]) hx hb dX2_solve_28 rfl hl (by decide) rfl (fun ls hl => ?_)
    refine lpQ (α := CB) (pcH := 29) (I := fun σ ls H locs => lv_has ls 3 [(1, .int (bI σ.2)), (0, .ref (o 0))] ∧ va_P D vwCl (mW R o K va fl n th σ.1 mn po an) H ∧ va_D A (mW R o K va fl n th σ.1 mn po an) ∧ va_S A s.heap H locs ∧ ms_inv mn po an va fl n th σ.1 ∧ (σ.2 = false → gd_good n th (nvS mn (psM po) (amM an)) (iV va) (iV fl) σ.1)) (fun σ : CB => if σ.2 = true then cn σ.1 n + 1 else 0) (fun σ ls H locs hI ihq => ?_) (st_s th ch 200, true) ls _ _ ⟨(lv_sub hl [0, 1] rfl), hP, hD, hS, ms_start hok.1 hth hch, fun z => (by cases z)⟩
    obtain ⟨hl, hP, hD, hS, hmi, hgd⟩ := hI
    refine lv_iload_n hx hb dX2_solve_29 rfl (lv_at hl 0 rfl) ?_
    refine lv_if_eq (tgt := 123) hx hb dX2_solve_30 (by decide) (fun c1 => ?_) (fun c1 => ?_)
    · have c1 : σ.2 = false := (bI_z σ.2).mp c1
      refine lv_aload_n hx hb dX2_solve_123 rfl (lv_at hl 1 rfl) ?_
      refine lv_iconst (v := nI 2) hx hb dX2_solve_124 (by decide) ?_
      refine pv (va_runV (As := [.int (nI 2)]) (rest := []) ⟨hx, hb, hml, hown, hts⟩ (cM_count l hP (nI 2)) (cwV 1 hts gM_83 rfl rfl rfl (by decide +kernel) (rmF hR (by decide) (by decide))) (kP_V C (va_recv C.2.2.2.2.1 hP (ci := ciM) (q0 := 0) rfl rfl)) rfl rfl hl.1 rfl (lv_room (Nat.le_of_ble_eq_true rfl)) dX2_solve_125 ⟨hR.2.2.1, hR.2.2.2⟩) ?_
      refine tp_i (y := nI (cn σ.1 200)) (by unfold cntS; rw [if_neg (by decide), if_neg (by decide), if_pos rfl]) ?_
      exact W.iret (v := nI (cn σ.1 200)) hx hb hr (fun t ht _ => ⟨⟨_, σ.1, rfl, ⟨rfl, hmi, hgd c1⟩, by rw [ht]; exact hP, hD⟩, hS.F ht⟩) hS.2.2 dX2_solve_128
    · have c1 : σ.2 = true := (bI_nz σ.2).mp c1
      refine lv_iconst (v := nI 0) hx hb dX2_solve_33 (by decide) ?_
      refine tp_i (y := bI (m_p1 mn po an va fl n σ.1 0).2) (b0 rfl) ?_
      refine lv_istore_n (lv' := [(1, .int (bI (m_p1 mn po an va fl n σ.1 0).2)), (0, .ref (o 0))]) hx hb dX2_solve_34 rfl hl (by decide) rfl (fun ls hl => ?_)
      refine lv_iconst (v := nI 0) hx hb dX2_solve_35 (by decide) ?_
      refine lv_istore_n (lv' := [(2, .int (nI 0)), (1, .int (bI (m_p1 mn po an va fl n σ.1 0).2)), (0, .ref (o 0))]) hx hb dX2_solve_36 rfl hl (by decide) rfl (fun ls hl => ?_)
      refine lpM (U := 300) (pcH := 37) (I := fun g ls H locs => lv_has ls 3 [(2, .int (nI g)), (1, .int (bI (m_p1 mn po an va fl n σ.1 g).2)), (0, .ref (o 0))] ∧ va_P D vwCl (mW R o K va fl n th ((m_p1 mn po an va fl n σ.1 g).1) mn po an) H ∧ va_D A (mW R o K va fl n th ((m_p1 mn po an va fl n σ.1 g).1) mn po an) ∧ va_S A s.heap H locs) (fun g ls H locs hkg hI ihg => ?_) 0 ls _ _ (Nat.zero_le _) ⟨(lv_sub hl [0, 1, 2] rfl), hP, hD, hS⟩
      obtain ⟨hl, hP, hD, hS⟩ := hI
      refine lv_iload_n hx hb dX2_solve_37 rfl (lv_at hl 0 rfl) ?_
      refine lv_sipush (v := nI 300) hx hb dX2_solve_38 (by decide) ?_
      refine lv_icmp_ge (tgt := 78) hx hb dX2_solve_41 (by decide) (fun c2 => ?_) (fun c2 => ?_)
      · have c2 : 300 ≤ g := (nI_leI (by omega) (by omega)).mp c2
        rw [show g = 300 by omega] at hP hD hl
        refine lv_iconst (v := nI 0) hx hb dX2_solve_78 (by decide) ?_
        refine lv_istore_n (lv' := [(2, .int (nI 0)), (1, .int (bI (m_p1 mn po an va fl n σ.1 300).2)), (0, .ref (o 0))]) hx hb dX2_solve_79 rfl hl (by decide) rfl (fun ls hl => ?_)
        refine lpM (U := n) (pcH := 80) (I := fun i ls H locs => lv_has ls 3 [(2, .int (nI i)), (1, .int (bI (m_p2 mn po an th (m_p1 mn po an va fl n σ.1 300) i).2)), (0, .ref (o 0))] ∧ va_P D vwCl (mW R o K va fl n th ((m_p2 mn po an th (m_p1 mn po an va fl n σ.1 300) i).1) mn po an) H ∧ va_D A (mW R o K va fl n th ((m_p2 mn po an th (m_p1 mn po an va fl n σ.1 300) i).1) mn po an) ∧ va_S A s.heap H locs) (fun i ls H locs hki hI ihi => ?_) 0 ls _ _ (Nat.zero_le _) ⟨(lv_sub hl [0, 1, 2] rfl), hP, hD, hS⟩
        obtain ⟨hl, hP, hD, hS⟩ := hI
        refine lv_iload_n hx hb dX2_solve_80 rfl (lv_at hl 0 rfl) ?_
        refine lv_aload_n hx hb dX2_solve_81 rfl (lv_at hl 2 rfl) ?_
        refine gM_items C hP dX2_solve_82 ?_
        refine lv_icmp_ge (tgt := 120) hx hb dX2_solve_85 (by decide) (fun c4 => ?_) (fun c4 => ?_)
        · have c4 : n ≤ i := (nI_leI (by omega) (by omega)).mp c4
          rw [show i = n by omega] at hP hD hl
          refine lv_goto (tgt := 29) hx hb dX2_solve_120 (by decide) ?_
          have hv : ms_inv mn po an va fl n th (m_p2 mn po an th (m_p1 mn po an va fl n σ.1 300) n).1 ∧ ((m_p2 mn po an th (m_p1 mn po an va fl n σ.1 300) n).2 = false → gd_good n th (nvS mn (psM po) (amM an)) (iV va) (iV fl) (m_p2 mn po an th (m_p1 mn po an va fl n σ.1 300) n).1) ∧ ((m_p2 mn po an th (m_p1 mn po an va fl n σ.1 300) n).2 = true → cn (m_p2 mn po an th (m_p1 mn po an va fl n σ.1 300) n).1 n < cn σ.1 n) := m_it_v hok hmi
          refine ihq (m_p2 mn po an th (m_p1 mn po an va fl n σ.1 300) n) ls _ _ ?_ ⟨(lv_sub hl [1, 2] rfl), hP, hD, hS, hv.1, hv.2.1⟩
          show (if (m_p2 mn po an th (m_p1 mn po an va fl n σ.1 300) n).2 = true then cn (m_p2 mn po an th (m_p1 mn po an va fl n σ.1 300) n).1 n + 1 else 0) < (if σ.2 = true then cn σ.1 n + 1 else 0)
          rw [if_pos c1]
          by_cases hz : (m_p2 mn po an th (m_p1 mn po an va fl n σ.1 300) n).2 = true
          · rw [if_pos hz]
            have hq9 := hv.2.2 hz
            omega
          · rw [if_neg hz]
            omega
        · have c4 : ¬ n ≤ i := fun z9 => c4 ((nI_leI (by omega) (by omega)).mpr z9)
          refine lv_aload_n hx hb dX2_solve_88 rfl (lv_at hl 2 rfl) ?_
          refine gM_chosen C hP dX2_solve_89 ?_
          refine lv_iload_n hx hb dX2_solve_92 rfl (lv_at hl 0 rfl) ?_
          refine lM_chosen C hP (by omega) dX2_solve_93 ?_
          refine lv_if_eq (tgt := 114) hx hb dX2_solve_94 (by decide) (fun c5 => ?_) (fun c5 => ?_)
          · have c5 : ((m_p2 mn po an th (m_p1 mn po an va fl n σ.1 300) i).1 i) = false := (bI_z ((m_p2 mn po an th (m_p1 mn po an va fl n σ.1 300) i).1 i)).mp c5
            have hd : (m_p2 mn po an th (m_p1 mn po an va fl n σ.1 300) (i + 1)) = (m_p2 mn po an th (m_p1 mn po an va fl n σ.1 300) i) := if_neg (fun y => absurd (c5.symm.trans y.1) (by decide))
            refine lv_iinc (v := nI (i + 1)) (lv' := [(2, .int (nI (i + 1))), (1, .int (bI (m_p2 mn po an th (m_p1 mn po an va fl n σ.1 300) i).2)), (0, .ref (o 0))]) hx hb dX2_solve_114 hl (k := 0) rfl (nI_1 i) (by decide) rfl (fun ls hl => ?_)
            refine lv_goto (tgt := 80) hx hb dX2_solve_117 (by decide) ?_
            have e_ch : (m_p2 mn po an th (m_p1 mn po an va fl n σ.1 300) (i + 1)).1 = (m_p2 mn po an th (m_p1 mn po an va fl n σ.1 300) i).1 := by rw [hd]
            rw [← e_ch] at hP hD
            exact ihi (by omega) ls _ _ ⟨(by rw [hd]; exact (lv_sub hl [0, 1, 2] rfl)), hP, hD, hS⟩
          · have c5 : ((m_p2 mn po an th (m_p1 mn po an va fl n σ.1 300) i).1 i) = true := (bI_nz ((m_p2 mn po an th (m_p1 mn po an va fl n σ.1 300) i).1 i)).mp c5
            refine lv_aload_n hx hb dX2_solve_97 rfl (lv_at hl 2 rfl) ?_
            refine lv_iload_n hx hb dX2_solve_98 rfl (lv_at hl 0 rfl) ?_
            refine pv (va_runV (As := [.int (nI i)]) (rest := []) ⟨hx, hb, hml, hown, hts⟩ (cM_lacks l hP hok (show i < n by omega)) (cwV 1 hts gM_80 rfl rfl rfl (by decide +kernel) (rmF hR (by decide) (by decide))) (kP_V C (va_recv C.2.2.2.2.1 hP (ci := ciM) (q0 := 0) rfl rfl)) rfl rfl hl.1 rfl (lv_room (Nat.le_of_ble_eq_true rfl)) dX2_solve_99 ⟨hR.2.2.1, hR.2.2.2⟩) ?_
            refine lv_if_eq (tgt := 114) hx hb dX2_solve_102 (by decide) (fun c6 => ?_) (fun c6 => ?_)
            · have c6 : (m_lack mn po an th (m_p2 mn po an th (m_p1 mn po an va fl n σ.1 300) i).1 i i) = false := (bI_z (m_lack mn po an th (m_p2 mn po an th (m_p1 mn po an va fl n σ.1 300) i).1 i i)).mp c6
              have hd : (m_p2 mn po an th (m_p1 mn po an va fl n σ.1 300) (i + 1)) = (m_p2 mn po an th (m_p1 mn po an va fl n σ.1 300) i) := if_neg (fun y => absurd (c6.symm.trans y.2) (by decide))
              refine lv_iinc (v := nI (i + 1)) (lv' := [(2, .int (nI (i + 1))), (1, .int (bI (m_p2 mn po an th (m_p1 mn po an va fl n σ.1 300) i).2)), (0, .ref (o 0))]) hx hb dX2_solve_114 hl (k := 0) rfl (nI_1 i) (by decide) rfl (fun ls hl => ?_)
              refine lv_goto (tgt := 80) hx hb dX2_solve_117 (by decide) ?_
              have e_ch : (m_p2 mn po an th (m_p1 mn po an va fl n σ.1 300) (i + 1)).1 = (m_p2 mn po an th (m_p1 mn po an va fl n σ.1 300) i).1 := by rw [hd]
              rw [← e_ch] at hP hD
              exact ihi (by omega) ls _ _ ⟨(by rw [hd]; exact (lv_sub hl [0, 1, 2] rfl)), hP, hD, hS⟩
            · have c6 : (m_lack mn po an th (m_p2 mn po an th (m_p1 mn po an va fl n σ.1 300) i).1 i i) = true := (bI_nz (m_lack mn po an th (m_p2 mn po an th (m_p1 mn po an va fl n σ.1 300) i).1 i i)).mp c6
              refine lv_aload_n hx hb dX2_solve_105 rfl (lv_at hl 2 rfl) ?_
              refine gM_chosen C hP dX2_solve_106 ?_
              refine lv_iload_n hx hb dX2_solve_109 rfl (lv_at hl 0 rfl) ?_
              refine lv_iconst (v := nI 0) hx hb dX2_solve_110 (by decide) ?_
              refine tp_i (y := bI false) (b0 rfl) ?_
              refine sM_chosen (x := false) C hP hD hS (by omega) dX2_solve_111 (fun H locs hP hD hS => ?_)
              refine lv_iconst (v := nI 1) hx hb dX2_solve_112 (by decide) ?_
              refine tp_i (y := bI true) (b1 rfl) ?_
              refine lv_istore_n (lv' := [(1, .int (bI true)), (2, .int (nI i)), (0, .ref (o 0))]) hx hb dX2_solve_113 rfl hl (by decide) rfl (fun ls hl => ?_)
              refine lv_iinc (v := nI (i + 1)) (lv' := [(2, .int (nI (i + 1))), (1, .int (bI true)), (0, .ref (o 0))]) hx hb dX2_solve_114 hl (k := 1) rfl (nI_1 i) (by decide) rfl (fun ls hl => ?_)
              refine lv_goto (tgt := 80) hx hb dX2_solve_117 (by decide) ?_
              have hd : (m_p2 mn po an th (m_p1 mn po an va fl n σ.1 300) (i + 1)) = (va_up (m_p2 mn po an th (m_p1 mn po an va fl n σ.1 300) i).1 i false, true) := if_pos ⟨c5, c6⟩
              have e_ch : (m_p2 mn po an th (m_p1 mn po an va fl n σ.1 300) (i + 1)).1 = (va_up (m_p2 mn po an th (m_p1 mn po an va fl n σ.1 300) i).1 i false) := by rw [hd]
              rw [← e_ch] at hP hD
              exact ihi (by omega) ls _ _ ⟨(by rw [hd]; exact (lv_sub hl [0, 1, 2] rfl)), hP, hD, hS⟩
      · have c2 : ¬ 300 ≤ g := fun z9 => c2 ((nI_leI (by omega) (by omega)).mpr z9)
        refine lv_aload_n hx hb dX2_solve_44 rfl (lv_at hl 2 rfl) ?_
        refine lv_iload_n hx hb dX2_solve_45 rfl (lv_at hl 0 rfl) ?_
        refine pv (va_runV (As := [.int (nI g)]) (rest := []) ⟨hx, hb, hml, hown, hts⟩ (cM_total l hP hok (show g < 300 by omega)) (cwV 1 hts gM_72 rfl rfl rfl (by decide +kernel) (rmF hR (by decide) (by decide))) (kP_V C (va_recv C.2.2.2.2.1 hP (ci := ciM) (q0 := 0) rfl rfl)) rfl rfl hl.1 rfl (lv_room (Nat.le_of_ble_eq_true rfl)) dX2_solve_46 ⟨hR.2.2.1, hR.2.2.2⟩) ?_
        refine lv_aload_n hx hb dX2_solve_49 rfl (lv_at hl 2 rfl) ?_
        refine gM_floors C hP dX2_solve_50 ?_
        refine lv_iload_n hx hb dX2_solve_53 rfl (lv_at hl 0 rfl) ?_
        refine lM_floors C hP (by omega) dX2_solve_54 ?_
        refine W.lcmp hx hb dX2_solve_55 ?_
        refine lv_if_ge (tgt := 72) hx hb dX2_solve_56 (by decide) (fun c3 => ?_) (fun c3 => ?_)
        · have c3 : (fl g) ≤ (m_tot mn po an va (m_p1 mn po an va fl n σ.1 g).1 g n) := (lg_cmp_ge (m_tot mn po an va (m_p1 mn po an va fl n σ.1 g).1 g n) (fl g)).mp c3
          have hd : (m_p1 mn po an va fl n σ.1 (g + 1)) = (m_p1 mn po an va fl n σ.1 g) := if_neg (i64_le_nlt c3)
          refine lv_iinc (v := nI (g + 1)) (lv' := [(2, .int (nI (g + 1))), (1, .int (bI (m_p1 mn po an va fl n σ.1 g).2)), (0, .ref (o 0))]) hx hb dX2_solve_72 hl (k := 0) rfl (nI_1 g) (by decide) rfl (fun ls hl => ?_)
          refine lv_goto (tgt := 37) hx hb dX2_solve_75 (by decide) ?_
          have e_ch : (m_p1 mn po an va fl n σ.1 (g + 1)).1 = (m_p1 mn po an va fl n σ.1 g).1 := by rw [hd]
          rw [← e_ch] at hP hD
          exact ihg (by omega) ls _ _ ⟨(by rw [hd]; exact (lv_sub hl [0, 1, 2] rfl)), hP, hD, hS⟩
        · have c3 : ¬ (fl g) ≤ (m_tot mn po an va (m_p1 mn po an va fl n σ.1 g).1 g n) := fun z9 => c3 ((lg_cmp_ge (m_tot mn po an va (m_p1 mn po an va fl n σ.1 g).1 g n) (fl g)).mpr z9)
          have hlow := i64_nle c3
          obtain ⟨t, ht, -, -, et, -⟩ := m_last_in hok (m_p1 mn po an va fl n σ.1 g).1 (show g < 300 by omega) hlow
          refine lv_aload_n hx hb dX2_solve_59 rfl (lv_at hl 2 rfl) ?_
          refine gM_chosen C hP dX2_solve_60 ?_
          refine lv_aload_n hx hb dX2_solve_63 rfl (lv_at hl 2 rfl) ?_
          refine lv_iload_n hx hb dX2_solve_64 rfl (lv_at hl 0 rfl) ?_
          refine pv (va_runV (As := [.int (nI g)]) (rest := [.ref (o 4)]) ⟨hx, hb, hml, hown, hts⟩ (cM_lastTaker l hP hok (show g < 300 by omega)) (cwV 1 hts gM_76 rfl rfl rfl (by decide +kernel) (rmF hR (by decide) (by decide))) (kP_V C (va_recv C.2.2.2.2.1 hP (ci := ciM) (q0 := 0) rfl rfl)) rfl rfl hl.1 rfl (lv_room (Nat.le_of_ble_eq_true rfl)) dX2_solve_65 ⟨hR.2.2.1, hR.2.2.2⟩) ?_
          refine tp_i (y := nI t) (et) ?_
          refine lv_iconst (v := nI 0) hx hb dX2_solve_68 (by decide) ?_
          refine tp_i (y := bI false) (b0 rfl) ?_
          refine sM_chosen (x := false) C hP hD hS (by omega) dX2_solve_69 (fun H locs hP hD hS => ?_)
          refine lv_iconst (v := nI 1) hx hb dX2_solve_70 (by decide) ?_
          refine tp_i (y := bI true) (b1 rfl) ?_
          refine lv_istore_n (lv' := [(1, .int (bI true)), (2, .int (nI g)), (0, .ref (o 0))]) hx hb dX2_solve_71 rfl hl (by decide) rfl (fun ls hl => ?_)
          refine lv_iinc (v := nI (g + 1)) (lv' := [(2, .int (nI (g + 1))), (1, .int (bI true)), (0, .ref (o 0))]) hx hb dX2_solve_72 hl (k := 1) rfl (nI_1 g) (by decide) rfl (fun ls hl => ?_)
          refine lv_goto (tgt := 37) hx hb dX2_solve_75 (by decide) ?_
          have hd : (m_p1 mn po an va fl n σ.1 (g + 1)) = (va_up (m_p1 mn po an va fl n σ.1 g).1 t false, true) := (if_pos hlow).trans (by rw [et, nI_clamp (by omega)])
          have e_ch : (m_p1 mn po an va fl n σ.1 (g + 1)).1 = (va_up (m_p1 mn po an va fl n σ.1 g).1 t false) := by rw [hd]
          rw [← e_ch] at hP hD
          exact ihg (by omega) ls _ _ ⟨(by rw [hd]; exact (lv_sub hl [0, 1, 2] rfl)), hP, hD, hS⟩
  · have c0 : ¬ 200 ≤ k := fun z9 => c0 ((nI_leI (by omega) (by omega)).mpr z9)
    refine lv_aload_n hx hb dX2_solve_9 rfl (lv_at hl 1 rfl) ?_
    refine gM_chosen C hP dX2_solve_10 ?_
    refine lv_iload_n hx hb dX2_solve_13 rfl (lv_at hl 0 rfl) ?_
    refine lv_aload_n hx hb dX2_solve_14 rfl (lv_at hl 1 rfl) ?_
    refine gM_there C hP dX2_solve_15 ?_
    refine lv_iload_n hx hb dX2_solve_18 rfl (lv_at hl 0 rfl) ?_
    refine lM_there C hP (by omega) dX2_solve_19 ?_
    refine sM_chosen (x := (th k)) C hP hD hS (by omega) dX2_solve_20 (fun H locs hP hD hS => ?_)
    refine lv_iinc (v := nI (k + 1)) (lv' := [(1, .int (nI (k + 1))), (0, .ref (o 0))]) hx hb dX2_solve_21 hl (k := 0) rfl (nI_1 k) (by decide) rfl (fun ls hl => ?_)
    refine lv_goto (tgt := 2) hx hb dX2_solve_24 (by decide) ?_
    have e_ch : (st_s th ch (k + 1)) = (va_up (st_s th ch k) k (th k)) := rfl
    rw [← e_ch] at hP hD
    exact ihk (by omega) ls _ _ ⟨(lv_sub hl [0, 1] rfl), hP, hD, hS⟩
set_option maxHeartbeats 1000000 in
set_option maxRecDepth 100000 in
theorem cM_perform (l : Launch) (hP : va_P D vwCl (mW R o K va fl n th ch mn po an) H) (hD : va_D A (mW R o K va fl n th ch mn po an)) (hok : cl_ok mn (psM po) (amM an) va fl n) (hth : ∀ i, n ≤ i → th i = false) (hch : ∀ i, n ≤ i → ch i = false) : Met l yX2_perform (tC yX2_perform cX2_perform 3 (some .int)) (rmK 5 0 0) (kP D K H [.ref (o 0)]) (qI D A (fun (r : Int32) (u : ((Nat → Bool) × (Nat → Int64) × (Nat → Bool))) => ms_inv mn po an va fl n th u.1 ∧ gd_good n th (nvS mn (psM po) (amM an)) (iV va) (iV fl) u.1 ∧ (((∃ g, g < 300 ∧ 1000000000000000000 < m_tot mn po an va u.1 g n) ∧ r = (-1) ∧ u.2.1 = va ∧ u.2.2 = th) ∨ ((∀ g, g < 300 → ¬ 1000000000000000000 < m_tot mn po an va u.1 g n) ∧ r = nI (cn u.1 200) ∧ u.2.1 = m_pv mn po an u.1 n va 300 ∧ u.2.2 = m_nt u.1 th n))) (fun u : ((Nat → Bool) × (Nat → Int64) × (Nat → Bool)) => mW R o K u.2.1 fl n u.2.2 u.1 mn po an)) 0 0 A := by
  refine Met.ofW (cc := cX2_perform) (maxL := 3) (ret := (some .int)) (by decide) rfl ?_
  intro p e s m args below meth c s₁ B hml hv
  obtain ⟨rfl, hH, hK, hN, hO⟩ := hv
  have hx := B.exec
  have hb := B.bytes
  have hr := B.returns
  have hts : ∀ w ∈ tT, w.before _ s = true := fun w h => atoms_spec (ws := tC yX2_perform cX2_perform 3 (some .int)) B.pre w (List.mem_cons_of_mem _ h)
  have hown : s.vm.findClass RX2 = some m.cls := findClass_of_methodNamed B.named
  have hlocks := B.notSynchronized
  have C : cx RX2 D K p s m _ c cX2_perform := ⟨hx, hb, hown, hts, hK, hN, hO⟩
  have hR : rmOk (headSpec (tC yX2_perform cX2_perform 3 (some .int)) (rmK 5 0 0)).room 5 0 0 := ⟨Nat.le_refl _, Nat.le_refl _, Nat.le_refl _, Nat.le_refl _⟩
  subst hH
  have hS : va_S A s.heap s.heap [] := va_S.rf
  have hl := lv_entry ([.ref (o 0)]) (n := 3) (Nat.le_of_ble_eq_true rfl)
  rw [lg_entry_eq]
  generalize (lg_sl ([.ref (o 0)]) ++ List.replicate (3 - (lg_sl ([.ref (o 0)])).length) Slot.unset).toArray = ls at hl ⊢
  have hl : lv_has ls 3 [(0, .ref (o 0))] := hl
  have hn200 : n ≤ 200 := hok.1
  refine lv_aload_n hx hb dX2_perform_0 rfl (lv_at hl 0 rfl) ?_
  refine wi (va_runV (As := []) (rest := []) ⟨hx, hb, hml, hown, hts⟩ (cM_solve l hP hD hok hth hch) (cwV 0 hts gM_86 rfl rfl rfl (by decide +kernel) (rmF hR (by decide) (by decide))) (kP_V C (va_recv C.2.2.2.2.1 hP (ci := ciM) (q0 := 0) rfl rfl)) rfl rfl hl.1 rfl (lv_room (Nat.le_of_ble_eq_true rfl)) dX2_perform_1 ⟨hR.2.2.1, hR.2.2.2⟩) hS (fun r u H locs hq hP hD hS => ?_)
  obtain ⟨rfl, hms, hgd⟩ := hq
  refine lv_istore_n (lv' := [(1, .int (nI (cn u 200))), (0, .ref (o 0))]) hx hb dX2_perform_4 rfl hl (by decide) rfl (fun ls hl => ?_)
  refine lv_iconst (v := nI 0) hx hb dX2_perform_5 (by decide) ?_
  refine lv_istore_n (lv' := [(2, .int (nI 0)), (1, .int (nI (cn u 200))), (0, .ref (o 0))]) hx hb dX2_perform_6 rfl hl (by decide) rfl (fun ls hl => ?_)
  refine lpW (U := 300) (pcH := 7) (I := fun g ls => lv_has ls 3 [(2, .int (nI g)), (1, .int (nI (cn u 200))), (0, .ref (o 0))] ∧ ∀ j, j < g → ¬ 1000000000000000000 < m_tot mn po an va u j n) (fun g ls hkg hI ihg => ?_) 0 ls (Nat.zero_le _) ⟨(lv_sub hl [0, 1, 2] rfl), fun j hj => absurd hj (Nat.not_lt_zero j)⟩
  obtain ⟨hl, hm⟩ := hI
  refine lv_iload_n hx hb dX2_perform_7 rfl (lv_at hl 0 rfl) ?_
  refine lv_sipush (v := nI 300) hx hb dX2_perform_8 (by decide) ?_
  refine lv_icmp_ge (tgt := 34) hx hb dX2_perform_11 (by decide) (fun c1 => ?_) (fun c1 => ?_)
  · have c1 : 300 ≤ g := (nI_leI (by omega) (by omega)).mp c1
    have hall : ∀ j, j < 300 → ¬ 1000000000000000000 < m_tot mn po an va u j n := fun j hj => hm j (by omega)
    refine lv_iconst (v := nI 0) hx hb dX2_perform_34 (by decide) ?_
    refine lv_istore_n (lv' := [(2, .int (nI 0)), (1, .int (nI (cn u 200))), (0, .ref (o 0))]) hx hb dX2_perform_35 rfl hl (by decide) rfl (fun ls hl => ?_)
    refine lpM (U := 300) (pcH := 36) (I := fun k ls H locs => lv_has ls 3 [(2, .int (nI k)), (1, .int (nI (cn u 200))), (0, .ref (o 0))] ∧ va_P D vwCl (mW R o K (m_pv mn po an u n va k) fl n th u mn po an) H ∧ va_D A (mW R o K (m_pv mn po an u n va k) fl n th u mn po an) ∧ va_S A s.heap H locs) (fun k ls H locs hkk hI ihk => ?_) 0 ls _ _ (Nat.zero_le _) ⟨(lv_sub hl [0, 1, 2] rfl), hP, hD, hS⟩
    obtain ⟨hl, hP, hD, hS⟩ := hI
    refine lv_iload_n hx hb dX2_perform_36 rfl (lv_at hl 0 rfl) ?_
    refine lv_sipush (v := nI 300) hx hb dX2_perform_37 (by decide) ?_
    refine lv_icmp_ge (tgt := 60) hx hb dX2_perform_40 (by decide) (fun c3 => ?_) (fun c3 => ?_)
    · have c3 : 300 ≤ k := (nI_leI (by omega) (by omega)).mp c3
      rw [show k = 300 by omega] at hP hD
      refine lv_iconst (v := nI 0) hx hb dX2_perform_60 (by decide) ?_
      refine lv_istore_n (lv' := [(2, .int (nI 0)), (1, .int (nI (cn u 200))), (0, .ref (o 0))]) hx hb dX2_perform_61 rfl hl (by decide) rfl (fun ls hl => ?_)
      refine lpM (U := n) (pcH := 62) (I := fun i ls H locs => lv_has ls 3 [(2, .int (nI i)), (1, .int (nI (cn u 200))), (0, .ref (o 0))] ∧ va_P D vwCl (mW R o K (m_pv mn po an u n va 300) fl n (m_nt u th i) u mn po an) H ∧ va_D A (mW R o K (m_pv mn po an u n va 300) fl n (m_nt u th i) u mn po an) ∧ va_S A s.heap H locs) (fun i ls H locs hki hI ihi => ?_) 0 ls _ _ (Nat.zero_le _) ⟨(lv_sub hl [0, 1, 2] rfl), hP, hD, hS⟩
      obtain ⟨hl, hP, hD, hS⟩ := hI
      refine lv_iload_n hx hb dX2_perform_62 rfl (lv_at hl 0 rfl) ?_
      refine lv_aload_n hx hb dX2_perform_63 rfl (lv_at hl 2 rfl) ?_
      refine gM_items C hP dX2_perform_64 ?_
      refine lv_icmp_ge (tgt := 105) hx hb dX2_perform_67 (by decide) (fun c4 => ?_) (fun c4 => ?_)
      · have c4 : n ≤ i := (nI_leI (by omega) (by omega)).mp c4
        rw [show i = n by omega] at hP hD
        refine lv_iload_n hx hb dX2_perform_105 rfl (lv_at hl 1 rfl) ?_
        exact W.iret (v := nI (cn u 200)) hx hb hr (fun t ht _ => ⟨⟨_, (u, m_pv mn po an u n va 300, m_nt u th n), rfl, ⟨hms, hgd, Or.inr ⟨hall, rfl, rfl, rfl⟩⟩, by rw [ht]; exact hP, hD⟩, hS.F ht⟩) hS.2.2 dX2_perform_106
      · have c4 : ¬ n ≤ i := fun z9 => c4 ((nI_leI (by omega) (by omega)).mpr z9)
        refine lv_aload_n hx hb dX2_perform_70 rfl (lv_at hl 2 rfl) ?_
        refine gM_there C hP dX2_perform_71 ?_
        refine lv_iload_n hx hb dX2_perform_74 rfl (lv_at hl 0 rfl) ?_
        refine lv_aload_n hx hb dX2_perform_75 rfl (lv_at hl 2 rfl) ?_
        refine gM_there C hP dX2_perform_76 ?_
        refine lv_iload_n hx hb dX2_perform_79 rfl (lv_at hl 0 rfl) ?_
        refine lM_there C hP (by omega) dX2_perform_80 ?_
        refine lv_if_eq (tgt := 97) hx hb dX2_perform_81 (by decide) (fun c5 => ?_) (fun c5 => ?_)
        · have c5 : ((m_nt u th i) i) = false := (bI_z ((m_nt u th i) i)).mp c5
          refine lv_iconst (v := nI 0) hx hb dX2_perform_97 (by decide) ?_
          refine tp_i (y := bI (m_nt u th i i && !u i)) (b0 (by rw [c5]; rfl)) ?_
          refine sM_there (x := (m_nt u th i i && !u i)) C hP hD hS (by omega) dX2_perform_98 (fun H locs hP hD hS => ?_)
          refine lv_iinc (v := nI (i + 1)) (lv' := [(2, .int (nI (i + 1))), (1, .int (nI (cn u 200))), (0, .ref (o 0))]) hx hb dX2_perform_99 hl (k := 0) rfl (nI_1 i) (by decide) rfl (fun ls hl => ?_)
          refine lv_goto (tgt := 62) hx hb dX2_perform_102 (by decide) ?_
          have e_th : (m_nt u th (i + 1)) = (va_up (m_nt u th i) i (m_nt u th i i && !u i)) := rfl
          rw [← e_th] at hP hD
          exact ihi (by omega) ls _ _ ⟨(lv_sub hl [0, 1, 2] rfl), hP, hD, hS⟩
        · have c5 : ((m_nt u th i) i) = true := (bI_nz ((m_nt u th i) i)).mp c5
          refine lv_aload_n hx hb dX2_perform_84 rfl (lv_at hl 2 rfl) ?_
          refine gM_chosen C hP dX2_perform_85 ?_
          refine lv_iload_n hx hb dX2_perform_88 rfl (lv_at hl 0 rfl) ?_
          refine lM_chosen C hP (by omega) dX2_perform_89 ?_
          refine lv_if_ne (tgt := 97) hx hb dX2_perform_90 (by decide) (fun c6 => ?_) (fun c6 => ?_)
          · have c6 : (u i) = true := (bI_nz (u i)).mp c6
            refine lv_iconst (v := nI 0) hx hb dX2_perform_97 (by decide) ?_
            refine tp_i (y := bI (m_nt u th i i && !u i)) (b0 (by rw [c5, c6]; rfl)) ?_
            refine sM_there (x := (m_nt u th i i && !u i)) C hP hD hS (by omega) dX2_perform_98 (fun H locs hP hD hS => ?_)
            refine lv_iinc (v := nI (i + 1)) (lv' := [(2, .int (nI (i + 1))), (1, .int (nI (cn u 200))), (0, .ref (o 0))]) hx hb dX2_perform_99 hl (k := 0) rfl (nI_1 i) (by decide) rfl (fun ls hl => ?_)
            refine lv_goto (tgt := 62) hx hb dX2_perform_102 (by decide) ?_
            have e_th : (m_nt u th (i + 1)) = (va_up (m_nt u th i) i (m_nt u th i i && !u i)) := rfl
            rw [← e_th] at hP hD
            exact ihi (by omega) ls _ _ ⟨(lv_sub hl [0, 1, 2] rfl), hP, hD, hS⟩
          · have c6 : (u i) = false := (bI_z (u i)).mp c6
            refine lv_iconst (v := nI 1) hx hb dX2_perform_93 (by decide) ?_
            refine lv_goto (tgt := 98) hx hb dX2_perform_94 (by decide) ?_
            refine tp_i (y := bI (m_nt u th i i && !u i)) (b1 (by rw [c5, c6]; rfl)) ?_
            refine sM_there (x := (m_nt u th i i && !u i)) C hP hD hS (by omega) dX2_perform_98 (fun H locs hP hD hS => ?_)
            refine lv_iinc (v := nI (i + 1)) (lv' := [(2, .int (nI (i + 1))), (1, .int (nI (cn u 200))), (0, .ref (o 0))]) hx hb dX2_perform_99 hl (k := 0) rfl (nI_1 i) (by decide) rfl (fun ls hl => ?_)
            refine lv_goto (tgt := 62) hx hb dX2_perform_102 (by decide) ?_
            have e_th : (m_nt u th (i + 1)) = (va_up (m_nt u th i) i (m_nt u th i i && !u i)) := rfl
            rw [← e_th] at hP hD
            exact ihi (by omega) ls _ _ ⟨(lv_sub hl [0, 1, 2] rfl), hP, hD, hS⟩
    · have c3 : ¬ 300 ≤ k := fun z9 => c3 ((nI_leI (by omega) (by omega)).mpr z9)
      refine lv_aload_n hx hb dX2_perform_43 rfl (lv_at hl 2 rfl) ?_
      refine gM_values C hP dX2_perform_44 ?_
      refine lv_iload_n hx hb dX2_perform_47 rfl (lv_at hl 0 rfl) ?_
      refine lv_aload_n hx hb dX2_perform_48 rfl (lv_at hl 2 rfl) ?_
      refine lv_iload_n hx hb dX2_perform_49 rfl (lv_at hl 0 rfl) ?_
      refine pv (va_runV (As := [.int (nI k)]) (rest := [.int (nI k), .ref (o 1)]) ⟨hx, hb, hml, hown, hts⟩ (cM_total l hP hok (show k < 300 by omega)) (cwV 1 hts gM_72 rfl rfl rfl (by decide +kernel) (rmF hR (by decide) (by decide))) (kP_V C (va_recv C.2.2.2.2.1 hP (ci := ciM) (q0 := 0) rfl rfl)) rfl rfl hl.1 rfl (lv_room (Nat.le_of_ble_eq_true rfl)) dX2_perform_50 ⟨hR.2.2.1, hR.2.2.2⟩) ?_
      refine sM_values (x := m_tot mn po an (m_pv mn po an u n va k) u k n) C hP hD hS (by omega) dX2_perform_53 (fun H locs hP hD hS => ?_)
      refine lv_iinc (v := nI (k + 1)) (lv' := [(2, .int (nI (k + 1))), (1, .int (nI (cn u 200))), (0, .ref (o 0))]) hx hb dX2_perform_54 hl (k := 0) rfl (nI_1 k) (by decide) rfl (fun ls hl => ?_)
      refine lv_goto (tgt := 36) hx hb dX2_perform_57 (by decide) ?_
      have e_va : (m_pv mn po an u n va (k + 1)) = (va_up (m_pv mn po an u n va k) k (m_tot mn po an (m_pv mn po an u n va k) u k n)) := rfl
      rw [← e_va] at hP hD
      exact ihk (by omega) ls _ _ ⟨(lv_sub hl [0, 1, 2] rfl), hP, hD, hS⟩
  · have c1 : ¬ 300 ≤ g := fun z9 => c1 ((nI_leI (by omega) (by omega)).mpr z9)
    refine lv_aload_n hx hb dX2_perform_14 rfl (lv_at hl 2 rfl) ?_
    refine lv_iload_n hx hb dX2_perform_15 rfl (lv_at hl 0 rfl) ?_
    refine pv (va_runV (As := [.int (nI g)]) (rest := []) ⟨hx, hb, hml, hown, hts⟩ (cM_total l hP hok (show g < 300 by omega)) (cwV 1 hts gM_72 rfl rfl rfl (by decide +kernel) (rmF hR (by decide) (by decide))) (kP_V C (va_recv C.2.2.2.2.1 hP (ci := ciM) (q0 := 0) rfl rfl)) rfl rfl hl.1 rfl (lv_room (Nat.le_of_ble_eq_true rfl)) dX2_perform_16 ⟨hR.2.2.1, hR.2.2.2⟩) ?_
    refine lv_ldc2 (v := 1000000000000000000) hx hb hown (hts _ (by decide +kernel : Cond.constantLong RX2 35 1000000000000000000 ∈ tT)) dX2_perform_19 ?_
    refine W.lcmp hx hb dX2_perform_22 ?_
    refine lv_if_le (tgt := 28) hx hb dX2_perform_23 (by decide) (fun c2 => ?_) (fun c2 => ?_)
    · have c2 : (m_tot mn po an va u g n) ≤ 1000000000000000000 := (lg_cmp_le (m_tot mn po an va u g n) 1000000000000000000).mp c2
      refine lv_iinc (v := nI (g + 1)) (lv' := [(2, .int (nI (g + 1))), (1, .int (nI (cn u 200))), (0, .ref (o 0))]) hx hb dX2_perform_28 hl (k := 0) rfl (nI_1 g) (by decide) rfl (fun ls hl => ?_)
      refine lv_goto (tgt := 7) hx hb dX2_perform_31 (by decide) ?_
      exact ihg (by omega) ls ⟨(lv_sub hl [0, 1, 2] rfl), lt_s' hm (i64_le_nlt c2)⟩
    · have c2 : ¬ (m_tot mn po an va u g n) ≤ 1000000000000000000 := fun z9 => c2 ((lg_cmp_le (m_tot mn po an va u g n) 1000000000000000000).mpr z9)
      refine lv_iconst (v := (-1)) hx hb dX2_perform_26 (by decide) ?_
      exact W.iret (v := (-1)) hx hb hr (fun t ht _ => ⟨⟨_, (u, va, th), rfl, ⟨hms, hgd, Or.inl ⟨⟨g, by omega, i64_nle c2⟩, rfl, rfl, rfl⟩⟩, by rw [ht]; exact hP, hD⟩, hS.F ht⟩) hS.2.2 dX2_perform_27
end MM3
end
section
/-! CONSTRUCTORS, and the class's item -/
theorem at_len (ws : va_W) (x : Nat × va_E) (y : va_W) : (ws ++ x :: y)[ws.length]? = some x := by
  rw [List.getElem?_append_right (Nat.le_refl _), Nat.sub_self]; rfl
theorem set_len (ws : va_W) (x z : Nat × va_E) (y : va_W) : (ws ++ x :: y).set ws.length z = ws ++ z :: y := by
  rw [List.set_append_right _ _ (Nat.le_refl _), Nat.sub_self]; rfl
section PFC
variable {p : Program} {l : Launch} {e : Env} {Rm : Room} {s : State} {m : MethodId} {args : Array Value} {below : List Frame} {meth : Method} {c : Code} {H : Heap} {locs : List Loc} {cells slots : Nat} {Q : State → Prop} {cc : ByteArray} {pc : Nat} {ls : Array Slot} {rest : List Value} {own : String} {D : va_G} {A : Nat → Prop} {H0 : Heap} {K : Nat → ClassId} {ws y : va_W}
theorem pf_ {C : String} {T : u_T} {N ci index a : Nat} {fs : List Value} (C0 : cx own D K p s m args c cc) (hin : ∀ w ∈ u_ws C T N, w ∈ tT) (ty0 : Nat → FieldType) (hty : ∀ k, k < N → parseFieldDescriptor (T k).2.2.1 = some (ty0 k)) (hnm : ∀ a, a < N → ∀ b, b < N → a ≠ b → (T a).2.1 ≠ (T b).2.1) (hin2 : meth.name = "<init>") (hP : va_P D vwCl (ws ++ (a, .inr (ci, fs)) :: y) H) (hD : va_D A (ws ++ (a, .inr (ci, fs)) :: y)) (hS : va_S A H0 H locs) (hc : vwCl[ci]? = some (C, T, N)) (k : Nat) (hk : k < N) (hlink : Cond.fieldLink own index C (T k).2.1 (T k).2.2.1 ∈ tT) (hC : (T k).1 = C) (hfin : (T k).2.2.2 = true) (hdecl : (T k).1 = own) {ty : FieldType} {v : Value} (hd : parseFieldDescriptor (T k).2.2.1 = some ty) (hn : narrow ty v = v) (hfit : fits ty v = true) (hl : k < fs.length) (hdg : decode cc pc = .ok (.putfield index, 3))
    (kk : ∀ (H1 : Heap) (locs1 : List Loc), va_P D vwCl (ws ++ (a, .inr (ci, fs.set k v)) :: y) H1 → va_D A (ws ++ (a, .inr (ci, fs.set k v)) :: y) → va_S A H0 H1 locs1 → W p l e Rm s m args below meth c H1 locs1 cells slots Q (F0 m (pc + 3) ls rest)) : W p l e Rm s m args below meth c H locs cells slots Q (F0 m pc ls (v :: .ref a :: rest)) := by
  refine va_putF (ty := ty) C0.1 C0.2.1 C0.2.2.2.1 hin ty0 hty hnm C0.2.2.1 C0.2.2.2.2.1 hP hD hS ws.length (at_len _ _ _) hc k hk (C0.2.2.2.1 _ hlink) (fun _ h => by rw [← hC]; exact h) hfin hin2 hdecl hd hn hfit hl hdg (fun H1 locs1 h1 h2 h3 => ?_)
  rw [set_len] at h1 h2
  exact kk H1 locs1 h1 h2 h3
theorem pf_n {C : String} {T : u_T} {N ci index a : Nat} {fs : List Value} (C0 : cx own D K p s m args c cc) (hin : ∀ w ∈ u_ws C T N, w ∈ tT) (ty0 : Nat → FieldType) (hty : ∀ k, k < N → parseFieldDescriptor (T k).2.2.1 = some (ty0 k)) (hnm : ∀ a, a < N → ∀ b, b < N → a ≠ b → (T a).2.1 ≠ (T b).2.1) (hP : va_P D vwCl (ws ++ (a, .inr (ci, fs)) :: y) H) (hD : va_D A (ws ++ (a, .inr (ci, fs)) :: y)) (hS : va_S A H0 H locs) (hc : vwCl[ci]? = some (C, T, N)) (k : Nat) (hk : k < N) (hlink : Cond.fieldLink own index C (T k).2.1 (T k).2.2.1 ∈ tT) (hC : (T k).1 = C) (hfin : (T k).2.2.2 = false) {ty : FieldType} {v : Value} (hd : parseFieldDescriptor (T k).2.2.1 = some ty) (hn : narrow ty v = v) (hfit : fits ty v = true) (hl : k < fs.length) (hdg : decode cc pc = .ok (.putfield index, 3))
    (kk : ∀ (H1 : Heap) (locs1 : List Loc), va_P D vwCl (ws ++ (a, .inr (ci, fs.set k v)) :: y) H1 → va_D A (ws ++ (a, .inr (ci, fs.set k v)) :: y) → va_S A H0 H1 locs1 → W p l e Rm s m args below meth c H1 locs1 cells slots Q (F0 m (pc + 3) ls rest)) : W p l e Rm s m args below meth c H locs cells slots Q (F0 m pc ls (v :: .ref a :: rest)) := by
  refine va_put (ty := ty) C0.1 C0.2.1 C0.2.2.2.1 hin ty0 hty hnm C0.2.2.1 C0.2.2.2.2.1 hP hD hS ws.length (at_len _ _ _) hc k hk (C0.2.2.2.1 _ hlink) (fun _ h => by rw [← hC]; exact h) hfin hd hn hfit hl hdg (fun H1 locs1 h1 h2 h3 => ?_)
  rw [set_len] at h1 h2
  exact kk H1 locs1 h1 h2 h3
end PFC
section CTOR
variable {D : va_G} {K : Nat → ClassId} {H : Heap} {A : Nat → Prop} {R : va_W} {o : Nat → Nat} {ad : Nat → Nat × Nat × Nat} {va fl af : Nat → Int64} {bl : Nat → Bool} {n tc sc : Nat} {T S : Nat → Bool} {us : Nat → Nat} {ps : Nat → Nat → Nat} {am : Nat → Nat → Int64} {ws : va_W} {h0 : Nat}
set_option maxHeartbeats 1000000 in
set_option maxRecDepth 100000 in
theorem cI_init (l : Launch) (hP : va_P D vwCl (ws ++ [(h0, .inr (ciI, [.null, .null, .int (nI 0), .int (bI false), .int (bI false)]))]) H) (hD : va_D A (ws ++ [(h0, .inr (ciI, [.null, .null, .int (nI 0), .int (bI false), .int (bI false)]))])) (hA : ∀ q, H.size ≤ q → A q)  : Met l yX0_init (tC yX0_init cX0_init 1 none) (rmK 1 2 32) (kP D K H [.ref h0]) (qV D A (fun u : (Nat × Nat) => True) (fun u : (Nat × Nat) => ws ++ [i_ob (h0, u.1, u.2) true false 0, i_pc K (h0, u.1, u.2) (fun _ => 0), i_ac K (h0, u.1, u.2) (fun _ => 0)])) 2 32 A := by
  refine Met.ofW (cc := cX0_init) (maxL := 1) (ret := none) (by decide) rfl ?_
  intro p e s m args below meth c s₁ B hml hv
  obtain ⟨rfl, hH, hK, hN, hO⟩ := hv
  have hx := B.exec
  have hb := B.bytes
  have hr := B.returns
  have hts : ∀ w ∈ tT, w.before _ s = true := fun w h => atoms_spec (ws := tC yX0_init cX0_init 1 none) B.pre w (List.mem_cons_of_mem _ h)
  have hown : s.vm.findClass RX0 = some m.cls := findClass_of_methodNamed B.named
  have hlocks := B.notSynchronized
  have C : cx RX0 D K p s m _ c cX0_init := ⟨hx, hb, hown, hts, hK, hN, hO⟩
  have hR : rmOk (headSpec (tC yX0_init cX0_init 1 none) (rmK 1 2 32)).room 1 2 32 := ⟨Nat.le_refl _, Nat.le_refl _, Nat.le_refl _, Nat.le_refl _⟩
  subst hH
  have hS : va_S A s.heap s.heap [] := va_S.rf
  have hl := lv_entry ([.ref h0]) (n := 1) (Nat.le_of_ble_eq_true rfl)
  rw [lg_entry_eq]
  generalize (lg_sl ([.ref h0]) ++ List.replicate (1 - (lg_sl ([.ref h0])).length) Slot.unset).toArray = ls at hl ⊢
  have hl : lv_has ls 1 [(0, .ref h0)] := hl
  have hin2 : meth.name = "<init>" := (name_of_methodNamed B.named B.method).1
  refine lv_aload_n hx hb dX0_init_0 rfl (lv_at hl 0 rfl) ?_
  refine W.objInit hx hb hown (hts _ (by decide +kernel : Cond.methodLink RX0 3 objectInit ∈ tT)) (hts _ (by decide +kernel : Cond.instanceMethod objectInit ∈ tT)) (hts _ (by decide +kernel : Cond.code objectInit ⟨#[0xb1]⟩ 1 none ∈ tT)) rfl (by rw [hml]; exact hl.1) rfl dX0_init_1 (Nat.le_of_ble_eq_true rfl) (Nat.le_of_ble_eq_true rfl) ?_
  refine W.eq (g2 := F0 m 4 ls []) rfl ?_
  refine lv_aload_n hx hb dX0_init_4 rfl (lv_at hl 0 rfl) ?_
  refine lv_bipush (v := nI 16) hx hb dX0_init_5 (by decide) ?_
  refine nwI C hP hD hS hA (by decide) (Nat.le_of_ble_eq_true rfl) (Nat.le_of_ble_eq_true rfl) dX0_init_7 (fun q1 H hP hD hS => ?_)
  have hP : va_P D vwCl (ws ++ [(h0, .inr (ciI, [.null, .null, .int (nI 0), .int (bI false), .int (bI false)])), (q1, .inl (K 1, 16, .inl (fun _ => nI 0)))]) H := by rw [List.append_assoc] at hP; exact hP
  have hD : va_D A (ws ++ [(h0, .inr (ciI, [.null, .null, .int (nI 0), .int (bI false), .int (bI false)])), (q1, .inl (K 1, 16, .inl (fun _ => nI 0)))]) := by rw [List.append_assoc] at hD; exact hD
  refine pf_ (C := RX0) (T := TX0) (N := 5) (ci := ciI) (ty := .array .int) C in_I tyX0 tyX0_ok nmX0 hin2 hP hD hS rfl 0 (by decide) (by decide +kernel : Cond.fieldLink RX0 9 RX0 (TX0 0).2.1 (TX0 0).2.2.1 ∈ tT) rfl rfl rfl (by decide +kernel) rfl rfl (Nat.le_of_ble_eq_true rfl) dX0_init_9 (fun H locs hP hD hS => ?_)
  have hP : va_P D vwCl (ws ++ [(h0, .inr (ciI, [.ref q1, .null, .int (nI 0), .int (bI false), .int (bI false)])), (q1, .inl (K 1, 16, .inl (fun _ => nI 0)))]) H := hP
  have hD : va_D A (ws ++ [(h0, .inr (ciI, [.ref q1, .null, .int (nI 0), .int (bI false), .int (bI false)])), (q1, .inl (K 1, 16, .inl (fun _ => nI 0)))]) := hD
  refine lv_aload_n hx hb dX0_init_12 rfl (lv_at hl 0 rfl) ?_
  refine lv_bipush (v := nI 16) hx hb dX0_init_13 (by decide) ?_
  refine nwJ C hP hD hS hA (by decide) (Nat.le_of_ble_eq_true rfl) (Nat.le_of_ble_eq_true rfl) dX0_init_15 (fun q2 H hP hD hS => ?_)
  have hP : va_P D vwCl (ws ++ [(h0, .inr (ciI, [.ref q1, .null, .int (nI 0), .int (bI false), .int (bI false)])), (q1, .inl (K 1, 16, .inl (fun _ => nI 0))), (q2, .inl (K 0, 16, .inr (.inl (fun _ => 0))))]) H := by rw [List.append_assoc] at hP; exact hP
  have hD : va_D A (ws ++ [(h0, .inr (ciI, [.ref q1, .null, .int (nI 0), .int (bI false), .int (bI false)])), (q1, .inl (K 1, 16, .inl (fun _ => nI 0))), (q2, .inl (K 0, 16, .inr (.inl (fun _ => 0))))]) := by rw [List.append_assoc] at hD; exact hD
  refine pf_ (C := RX0) (T := TX0) (N := 5) (ci := ciI) (ty := .array .long) C in_I tyX0 tyX0_ok nmX0 hin2 hP hD hS rfl 1 (by decide) (by decide +kernel : Cond.fieldLink RX0 15 RX0 (TX0 1).2.1 (TX0 1).2.2.1 ∈ tT) rfl rfl rfl (by decide +kernel) rfl rfl (Nat.le_of_ble_eq_true rfl) dX0_init_17 (fun H locs hP hD hS => ?_)
  have hP : va_P D vwCl (ws ++ [(h0, .inr (ciI, [.ref q1, .ref q2, .int (nI 0), .int (bI false), .int (bI false)])), (q1, .inl (K 1, 16, .inl (fun _ => nI 0))), (q2, .inl (K 0, 16, .inr (.inl (fun _ => 0))))]) H := hP
  have hD : va_D A (ws ++ [(h0, .inr (ciI, [.ref q1, .ref q2, .int (nI 0), .int (bI false), .int (bI false)])), (q1, .inl (K 1, 16, .inl (fun _ => nI 0))), (q2, .inl (K 0, 16, .inr (.inl (fun _ => 0))))]) := hD
  refine lv_aload_n hx hb dX0_init_20 rfl (lv_at hl 0 rfl) ?_
  refine lv_iconst (v := nI 1) hx hb dX0_init_21 (by decide) ?_
  refine tp_i (y := bI true) (b1 rfl) ?_
  refine pf_n (C := RX0) (T := TX0) (N := 5) (ci := ciI) (ty := .boolean) C in_I tyX0 tyX0_ok nmX0 hP hD hS rfl 3 (by decide) (by decide +kernel : Cond.fieldLink RX0 19 RX0 (TX0 3).2.1 (TX0 3).2.2.1 ∈ tT) rfl rfl (by decide +kernel) (bI_narrow true) (bI_fits true) (Nat.le_of_ble_eq_true rfl) dX0_init_22 (fun H locs hP hD hS => ?_)
  have hP : va_P D vwCl (ws ++ [(h0, .inr (ciI, [.ref q1, .ref q2, .int (nI 0), .int (bI true), .int (bI false)])), (q1, .inl (K 1, 16, .inl (fun _ => nI 0))), (q2, .inl (K 0, 16, .inr (.inl (fun _ => 0))))]) H := hP
  have hD : va_D A (ws ++ [(h0, .inr (ciI, [.ref q1, .ref q2, .int (nI 0), .int (bI true), .int (bI false)])), (q1, .inl (K 1, 16, .inl (fun _ => nI 0))), (q2, .inl (K 0, 16, .inr (.inl (fun _ => 0))))]) := hD
  exact W.vret hx hb hr (fun t ht _ => ⟨⟨(q1, q2), rfl, trivial, by rw [ht]; exact hP, hD⟩, hS.F ht⟩) hS.2.2 dX0_init_25
set_option maxHeartbeats 1000000 in
set_option maxRecDepth 100000 in
theorem cD_init (l : Launch) (hP : va_P D vwCl (ws ++ [(h0, .inr (ciD, [.null, .null, .null, .int (nI 0), .int (nI 0), .int (nI 0), .null, .null]))]) H) (hD : va_D A (ws ++ [(h0, .inr (ciD, [.null, .null, .null, .int (nI 0), .int (nI 0), .int (nI 0), .null, .null]))])) (hA : ∀ q, H.size ≤ q → A q)  : Met l yX1_init (tC yX1_init cX1_init 1 none) (rmK 1 5 1400) (kP D K H [.ref h0]) (qV D A (fun u : (Nat × Nat × Nat × Nat × Nat) => True) (fun u : (Nat × Nat × Nat × Nat × Nat) => ws ++ [(h0, .inr (ciD, [.ref u.1, .ref u.2.1, .ref u.2.2.1, .int (nI 0), .int (nI 0), .int (nI 0), .ref u.2.2.2.1, .ref u.2.2.2.2])), (u.1, .inl (K 0, 300, .inr (.inl (fun _ => 0)))), (u.2.1, .inl (K 0, 300, .inr (.inl (fun _ => 0)))), (u.2.2.1, .inl (K 3, 200, .inr (.inr (.inr (.inr (fun _ => none)))))), (u.2.2.2.1, .inl (K 0, 300, .inr (.inl (fun _ => 0)))), (u.2.2.2.2, .inl (K 2, 300, .inl (fun _ => bI false)))])) 5 1400 A := by
  refine Met.ofW (cc := cX1_init) (maxL := 1) (ret := none) (by decide) rfl ?_
  intro p e s m args below meth c s₁ B hml hv
  obtain ⟨rfl, hH, hK, hN, hO⟩ := hv
  have hx := B.exec
  have hb := B.bytes
  have hr := B.returns
  have hts : ∀ w ∈ tT, w.before _ s = true := fun w h => atoms_spec (ws := tC yX1_init cX1_init 1 none) B.pre w (List.mem_cons_of_mem _ h)
  have hown : s.vm.findClass RX1 = some m.cls := findClass_of_methodNamed B.named
  have hlocks := B.notSynchronized
  have C : cx RX1 D K p s m _ c cX1_init := ⟨hx, hb, hown, hts, hK, hN, hO⟩
  have hR : rmOk (headSpec (tC yX1_init cX1_init 1 none) (rmK 1 5 1400)).room 1 5 1400 := ⟨Nat.le_refl _, Nat.le_refl _, Nat.le_refl _, Nat.le_refl _⟩
  subst hH
  have hS : va_S A s.heap s.heap [] := va_S.rf
  have hl := lv_entry ([.ref h0]) (n := 1) (Nat.le_of_ble_eq_true rfl)
  rw [lg_entry_eq]
  generalize (lg_sl ([.ref h0]) ++ List.replicate (1 - (lg_sl ([.ref h0])).length) Slot.unset).toArray = ls at hl ⊢
  have hl : lv_has ls 1 [(0, .ref h0)] := hl
  have hin2 : meth.name = "<init>" := (name_of_methodNamed B.named B.method).1
  refine lv_aload_n hx hb dX1_init_0 rfl (lv_at hl 0 rfl) ?_
  refine W.objInit hx hb hown (hts _ (by decide +kernel : Cond.methodLink RX1 1 objectInit ∈ tT)) (hts _ (by decide +kernel : Cond.instanceMethod objectInit ∈ tT)) (hts _ (by decide +kernel : Cond.code objectInit ⟨#[0xb1]⟩ 1 none ∈ tT)) rfl (by rw [hml]; exact hl.1) rfl dX1_init_1 (Nat.le_of_ble_eq_true rfl) (Nat.le_of_ble_eq_true rfl) ?_
  refine W.eq (g2 := F0 m 4 ls []) rfl ?_
  refine lv_aload_n hx hb dX1_init_4 rfl (lv_at hl 0 rfl) ?_
  refine lv_sipush (v := nI 300) hx hb dX1_init_5 (by decide) ?_
  refine nwJ C hP hD hS hA (by decide) (Nat.le_of_ble_eq_true rfl) (Nat.le_of_ble_eq_true rfl) dX1_init_8 (fun q1 H hP hD hS => ?_)
  have hP : va_P D vwCl (ws ++ [(h0, .inr (ciD, [.null, .null, .null, .int (nI 0), .int (nI 0), .int (nI 0), .null, .null])), (q1, .inl (K 0, 300, .inr (.inl (fun _ => 0))))]) H := by rw [List.append_assoc] at hP; exact hP
  have hD : va_D A (ws ++ [(h0, .inr (ciD, [.null, .null, .null, .int (nI 0), .int (nI 0), .int (nI 0), .null, .null])), (q1, .inl (K 0, 300, .inr (.inl (fun _ => 0))))]) := by rw [List.append_assoc] at hD; exact hD
  refine pf_ (C := RX1) (T := TX1) (N := 8) (ci := ciD) (ty := .array .long) C in_D tyX1 tyX1_ok nmX1 hin2 hP hD hS rfl 0 (by decide) (by decide +kernel : Cond.fieldLink RX1 9 RX1 (TX1 0).2.1 (TX1 0).2.2.1 ∈ tT) rfl rfl rfl (by decide +kernel) rfl rfl (Nat.le_of_ble_eq_true rfl) dX1_init_10 (fun H locs hP hD hS => ?_)
  have hP : va_P D vwCl (ws ++ [(h0, .inr (ciD, [.ref q1, .null, .null, .int (nI 0), .int (nI 0), .int (nI 0), .null, .null])), (q1, .inl (K 0, 300, .inr (.inl (fun _ => 0))))]) H := hP
  have hD : va_D A (ws ++ [(h0, .inr (ciD, [.ref q1, .null, .null, .int (nI 0), .int (nI 0), .int (nI 0), .null, .null])), (q1, .inl (K 0, 300, .inr (.inl (fun _ => 0))))]) := hD
  refine lv_aload_n hx hb dX1_init_13 rfl (lv_at hl 0 rfl) ?_
  refine lv_sipush (v := nI 300) hx hb dX1_init_14 (by decide) ?_
  refine nwJ C hP hD hS hA (by decide) (Nat.le_of_ble_eq_true rfl) (Nat.le_of_ble_eq_true rfl) dX1_init_17 (fun q2 H hP hD hS => ?_)
  have hP : va_P D vwCl (ws ++ [(h0, .inr (ciD, [.ref q1, .null, .null, .int (nI 0), .int (nI 0), .int (nI 0), .null, .null])), (q1, .inl (K 0, 300, .inr (.inl (fun _ => 0)))), (q2, .inl (K 0, 300, .inr (.inl (fun _ => 0))))]) H := by rw [List.append_assoc] at hP; exact hP
  have hD : va_D A (ws ++ [(h0, .inr (ciD, [.ref q1, .null, .null, .int (nI 0), .int (nI 0), .int (nI 0), .null, .null])), (q1, .inl (K 0, 300, .inr (.inl (fun _ => 0)))), (q2, .inl (K 0, 300, .inr (.inl (fun _ => 0))))]) := by rw [List.append_assoc] at hD; exact hD
  refine pf_ (C := RX1) (T := TX1) (N := 8) (ci := ciD) (ty := .array .long) C in_D tyX1 tyX1_ok nmX1 hin2 hP hD hS rfl 1 (by decide) (by decide +kernel : Cond.fieldLink RX1 13 RX1 (TX1 1).2.1 (TX1 1).2.2.1 ∈ tT) rfl rfl rfl (by decide +kernel) rfl rfl (Nat.le_of_ble_eq_true rfl) dX1_init_19 (fun H locs hP hD hS => ?_)
  have hP : va_P D vwCl (ws ++ [(h0, .inr (ciD, [.ref q1, .ref q2, .null, .int (nI 0), .int (nI 0), .int (nI 0), .null, .null])), (q1, .inl (K 0, 300, .inr (.inl (fun _ => 0)))), (q2, .inl (K 0, 300, .inr (.inl (fun _ => 0))))]) H := hP
  have hD : va_D A (ws ++ [(h0, .inr (ciD, [.ref q1, .ref q2, .null, .int (nI 0), .int (nI 0), .int (nI 0), .null, .null])), (q1, .inl (K 0, 300, .inr (.inl (fun _ => 0)))), (q2, .inl (K 0, 300, .inr (.inl (fun _ => 0))))]) := hD
  refine lv_aload_n hx hb dX1_init_22 rfl (lv_at hl 0 rfl) ?_
  refine lv_sipush (v := nI 200) hx hb dX1_init_23 (by decide) ?_
  refine nwQ C (by decide +kernel : Cond.classLink RX1 16 RIt ∈ tT) hP hD hS hA (by decide) (Nat.le_of_ble_eq_true rfl) (Nat.le_of_ble_eq_true rfl) dX1_init_26 (fun q3 H hP hD hS => ?_)
  have hP : va_P D vwCl (ws ++ [(h0, .inr (ciD, [.ref q1, .ref q2, .null, .int (nI 0), .int (nI 0), .int (nI 0), .null, .null])), (q1, .inl (K 0, 300, .inr (.inl (fun _ => 0)))), (q2, .inl (K 0, 300, .inr (.inl (fun _ => 0)))), (q3, .inl (K 3, 200, .inr (.inr (.inr (.inr (fun _ => none))))))]) H := by rw [List.append_assoc] at hP; exact hP
  have hD : va_D A (ws ++ [(h0, .inr (ciD, [.ref q1, .ref q2, .null, .int (nI 0), .int (nI 0), .int (nI 0), .null, .null])), (q1, .inl (K 0, 300, .inr (.inl (fun _ => 0)))), (q2, .inl (K 0, 300, .inr (.inl (fun _ => 0)))), (q3, .inl (K 3, 200, .inr (.inr (.inr (.inr (fun _ => none))))))]) := by rw [List.append_assoc] at hD; exact hD
  refine pf_ (C := RX1) (T := TX1) (N := 8) (ci := ciD) (ty := .array (.object "GridDesk$Item")) C in_D tyX1 tyX1_ok nmX1 hin2 hP hD hS rfl 2 (by decide) (by decide +kernel : Cond.fieldLink RX1 18 RX1 (TX1 2).2.1 (TX1 2).2.2.1 ∈ tT) rfl rfl rfl (by decide +kernel) rfl rfl (Nat.le_of_ble_eq_true rfl) dX1_init_29 (fun H locs hP hD hS => ?_)
  have hP : va_P D vwCl (ws ++ [(h0, .inr (ciD, [.ref q1, .ref q2, .ref q3, .int (nI 0), .int (nI 0), .int (nI 0), .null, .null])), (q1, .inl (K 0, 300, .inr (.inl (fun _ => 0)))), (q2, .inl (K 0, 300, .inr (.inl (fun _ => 0)))), (q3, .inl (K 3, 200, .inr (.inr (.inr (.inr (fun _ => none))))))]) H := hP
  have hD : va_D A (ws ++ [(h0, .inr (ciD, [.ref q1, .ref q2, .ref q3, .int (nI 0), .int (nI 0), .int (nI 0), .null, .null])), (q1, .inl (K 0, 300, .inr (.inl (fun _ => 0)))), (q2, .inl (K 0, 300, .inr (.inl (fun _ => 0)))), (q3, .inl (K 3, 200, .inr (.inr (.inr (.inr (fun _ => none))))))]) := hD
  refine lv_aload_n hx hb dX1_init_32 rfl (lv_at hl 0 rfl) ?_
  refine lv_sipush (v := nI 300) hx hb dX1_init_33 (by decide) ?_
  refine nwJ C hP hD hS hA (by decide) (Nat.le_of_ble_eq_true rfl) (Nat.le_of_ble_eq_true rfl) dX1_init_36 (fun q4 H hP hD hS => ?_)
  have hP : va_P D vwCl (ws ++ [(h0, .inr (ciD, [.ref q1, .ref q2, .ref q3, .int (nI 0), .int (nI 0), .int (nI 0), .null, .null])), (q1, .inl (K 0, 300, .inr (.inl (fun _ => 0)))), (q2, .inl (K 0, 300, .inr (.inl (fun _ => 0)))), (q3, .inl (K 3, 200, .inr (.inr (.inr (.inr (fun _ => none)))))), (q4, .inl (K 0, 300, .inr (.inl (fun _ => 0))))]) H := by rw [List.append_assoc] at hP; exact hP
  have hD : va_D A (ws ++ [(h0, .inr (ciD, [.ref q1, .ref q2, .ref q3, .int (nI 0), .int (nI 0), .int (nI 0), .null, .null])), (q1, .inl (K 0, 300, .inr (.inl (fun _ => 0)))), (q2, .inl (K 0, 300, .inr (.inl (fun _ => 0)))), (q3, .inl (K 3, 200, .inr (.inr (.inr (.inr (fun _ => none)))))), (q4, .inl (K 0, 300, .inr (.inl (fun _ => 0))))]) := by rw [List.append_assoc] at hD; exact hD
  refine pf_ (C := RX1) (T := TX1) (N := 8) (ci := ciD) (ty := .array .long) C in_D tyX1 tyX1_ok nmX1 hin2 hP hD hS rfl 6 (by decide) (by decide +kernel : Cond.fieldLink RX1 22 RX1 (TX1 6).2.1 (TX1 6).2.2.1 ∈ tT) rfl rfl rfl (by decide +kernel) rfl rfl (Nat.le_of_ble_eq_true rfl) dX1_init_38 (fun H locs hP hD hS => ?_)
  have hP : va_P D vwCl (ws ++ [(h0, .inr (ciD, [.ref q1, .ref q2, .ref q3, .int (nI 0), .int (nI 0), .int (nI 0), .ref q4, .null])), (q1, .inl (K 0, 300, .inr (.inl (fun _ => 0)))), (q2, .inl (K 0, 300, .inr (.inl (fun _ => 0)))), (q3, .inl (K 3, 200, .inr (.inr (.inr (.inr (fun _ => none)))))), (q4, .inl (K 0, 300, .inr (.inl (fun _ => 0))))]) H := hP
  have hD : va_D A (ws ++ [(h0, .inr (ciD, [.ref q1, .ref q2, .ref q3, .int (nI 0), .int (nI 0), .int (nI 0), .ref q4, .null])), (q1, .inl (K 0, 300, .inr (.inl (fun _ => 0)))), (q2, .inl (K 0, 300, .inr (.inl (fun _ => 0)))), (q3, .inl (K 3, 200, .inr (.inr (.inr (.inr (fun _ => none)))))), (q4, .inl (K 0, 300, .inr (.inl (fun _ => 0))))]) := hD
  refine lv_aload_n hx hb dX1_init_41 rfl (lv_at hl 0 rfl) ?_
  refine lv_sipush (v := nI 300) hx hb dX1_init_42 (by decide) ?_
  refine nwZ C hP hD hS hA (by decide) (Nat.le_of_ble_eq_true rfl) (Nat.le_of_ble_eq_true rfl) dX1_init_45 (fun q5 H hP hD hS => ?_)
  have hP : va_P D vwCl (ws ++ [(h0, .inr (ciD, [.ref q1, .ref q2, .ref q3, .int (nI 0), .int (nI 0), .int (nI 0), .ref q4, .null])), (q1, .inl (K 0, 300, .inr (.inl (fun _ => 0)))), (q2, .inl (K 0, 300, .inr (.inl (fun _ => 0)))), (q3, .inl (K 3, 200, .inr (.inr (.inr (.inr (fun _ => none)))))), (q4, .inl (K 0, 300, .inr (.inl (fun _ => 0)))), (q5, .inl (K 2, 300, .inl (fun _ => bI false)))]) H := by rw [List.append_assoc] at hP; exact hP
  have hD : va_D A (ws ++ [(h0, .inr (ciD, [.ref q1, .ref q2, .ref q3, .int (nI 0), .int (nI 0), .int (nI 0), .ref q4, .null])), (q1, .inl (K 0, 300, .inr (.inl (fun _ => 0)))), (q2, .inl (K 0, 300, .inr (.inl (fun _ => 0)))), (q3, .inl (K 3, 200, .inr (.inr (.inr (.inr (fun _ => none)))))), (q4, .inl (K 0, 300, .inr (.inl (fun _ => 0)))), (q5, .inl (K 2, 300, .inl (fun _ => bI false)))]) := by rw [List.append_assoc] at hD; exact hD
  refine pf_ (C := RX1) (T := TX1) (N := 8) (ci := ciD) (ty := .array .boolean) C in_D tyX1 tyX1_ok nmX1 hin2 hP hD hS rfl 7 (by decide) (by decide +kernel : Cond.fieldLink RX1 25 RX1 (TX1 7).2.1 (TX1 7).2.2.1 ∈ tT) rfl rfl rfl (by decide +kernel) rfl rfl (Nat.le_of_ble_eq_true rfl) dX1_init_47 (fun H locs hP hD hS => ?_)
  have hP : va_P D vwCl (ws ++ [(h0, .inr (ciD, [.ref q1, .ref q2, .ref q3, .int (nI 0), .int (nI 0), .int (nI 0), .ref q4, .ref q5])), (q1, .inl (K 0, 300, .inr (.inl (fun _ => 0)))), (q2, .inl (K 0, 300, .inr (.inl (fun _ => 0)))), (q3, .inl (K 3, 200, .inr (.inr (.inr (.inr (fun _ => none)))))), (q4, .inl (K 0, 300, .inr (.inl (fun _ => 0)))), (q5, .inl (K 2, 300, .inl (fun _ => bI false)))]) H := hP
  have hD : va_D A (ws ++ [(h0, .inr (ciD, [.ref q1, .ref q2, .ref q3, .int (nI 0), .int (nI 0), .int (nI 0), .ref q4, .ref q5])), (q1, .inl (K 0, 300, .inr (.inl (fun _ => 0)))), (q2, .inl (K 0, 300, .inr (.inl (fun _ => 0)))), (q3, .inl (K 3, 200, .inr (.inr (.inr (.inr (fun _ => none)))))), (q4, .inl (K 0, 300, .inr (.inl (fun _ => 0)))), (q5, .inl (K 2, 300, .inl (fun _ => bI false)))]) := hD
  exact W.vret hx hb hr (fun t ht _ => ⟨⟨(q1, q2, q3, q4, q5), rfl, trivial, by rw [ht]; exact hP, hD⟩, hS.F ht⟩) hS.2.2 dX1_init_50
set_option maxHeartbeats 1000000 in
set_option maxRecDepth 100000 in
theorem cM_init (l : Launch) (hP : va_P D vwCl (ws ++ [(h0, .inr (ciM, [.null, .null, .int (nI 0), .null, .null, .null, .null, .null]))]) H) (hD : va_D A (ws ++ [(h0, .inr (ciM, [.null, .null, .int (nI 0), .null, .null, .null, .null, .null]))])) (hA : ∀ q, H.size ≤ q → A q)  : Met l yX2_init (tC yX2_init cX2_init 1 none) (rmK 1 7 7600) (kP D K H [.ref h0]) (qV D A (fun u : (Nat × Nat × Nat × Nat × Nat × Nat × Nat) => True) (fun u : (Nat × Nat × Nat × Nat × Nat × Nat × Nat) => ws ++ [(h0, .inr (ciM, [.ref u.1, .ref u.2.1, .int (nI 0), .ref u.2.2.1, .ref u.2.2.2.1, .ref u.2.2.2.2.1, .ref u.2.2.2.2.2.1, .ref u.2.2.2.2.2.2])), (u.1, .inl (K 0, 300, .inr (.inl (fun _ => 0)))), (u.2.1, .inl (K 0, 300, .inr (.inl (fun _ => 0)))), (u.2.2.1, .inl (K 2, 200, .inl (fun _ => bI false))), (u.2.2.2.1, .inl (K 2, 200, .inl (fun _ => bI false))), (u.2.2.2.2.1, .inl (K 1, 200, .inl (fun _ => nI 0))), (u.2.2.2.2.2.1, .inl (K 1, 3200, .inl (fun _ => nI 0))), (u.2.2.2.2.2.2, .inl (K 0, 3200, .inr (.inl (fun _ => 0))))])) 7 7600 A := by
  refine Met.ofW (cc := cX2_init) (maxL := 1) (ret := none) (by decide) rfl ?_
  intro p e s m args below meth c s₁ B hml hv
  obtain ⟨rfl, hH, hK, hN, hO⟩ := hv
  have hx := B.exec
  have hb := B.bytes
  have hr := B.returns
  have hts : ∀ w ∈ tT, w.before _ s = true := fun w h => atoms_spec (ws := tC yX2_init cX2_init 1 none) B.pre w (List.mem_cons_of_mem _ h)
  have hown : s.vm.findClass RX2 = some m.cls := findClass_of_methodNamed B.named
  have hlocks := B.notSynchronized
  have C : cx RX2 D K p s m _ c cX2_init := ⟨hx, hb, hown, hts, hK, hN, hO⟩
  have hR : rmOk (headSpec (tC yX2_init cX2_init 1 none) (rmK 1 7 7600)).room 1 7 7600 := ⟨Nat.le_refl _, Nat.le_refl _, Nat.le_refl _, Nat.le_refl _⟩
  subst hH
  have hS : va_S A s.heap s.heap [] := va_S.rf
  have hl := lv_entry ([.ref h0]) (n := 1) (Nat.le_of_ble_eq_true rfl)
  rw [lg_entry_eq]
  generalize (lg_sl ([.ref h0]) ++ List.replicate (1 - (lg_sl ([.ref h0])).length) Slot.unset).toArray = ls at hl ⊢
  have hl : lv_has ls 1 [(0, .ref h0)] := hl
  have hin2 : meth.name = "<init>" := (name_of_methodNamed B.named B.method).1
  refine lv_aload_n hx hb dX2_init_0 rfl (lv_at hl 0 rfl) ?_
  refine W.objInit hx hb hown (hts _ (by decide +kernel : Cond.methodLink RX2 1 objectInit ∈ tT)) (hts _ (by decide +kernel : Cond.instanceMethod objectInit ∈ tT)) (hts _ (by decide +kernel : Cond.code objectInit ⟨#[0xb1]⟩ 1 none ∈ tT)) rfl (by rw [hml]; exact hl.1) rfl dX2_init_1 (Nat.le_of_ble_eq_true rfl) (Nat.le_of_ble_eq_true rfl) ?_
  refine W.eq (g2 := F0 m 4 ls []) rfl ?_
  refine lv_aload_n hx hb dX2_init_4 rfl (lv_at hl 0 rfl) ?_
  refine lv_sipush (v := nI 300) hx hb dX2_init_5 (by decide) ?_
  refine nwJ C hP hD hS hA (by decide) (Nat.le_of_ble_eq_true rfl) (Nat.le_of_ble_eq_true rfl) dX2_init_8 (fun q1 H hP hD hS => ?_)
  have hP : va_P D vwCl (ws ++ [(h0, .inr (ciM, [.null, .null, .int (nI 0), .null, .null, .null, .null, .null])), (q1, .inl (K 0, 300, .inr (.inl (fun _ => 0))))]) H := by rw [List.append_assoc] at hP; exact hP
  have hD : va_D A (ws ++ [(h0, .inr (ciM, [.null, .null, .int (nI 0), .null, .null, .null, .null, .null])), (q1, .inl (K 0, 300, .inr (.inl (fun _ => 0))))]) := by rw [List.append_assoc] at hD; exact hD
  refine pf_ (C := RX2) (T := TX2) (N := 8) (ci := ciM) (ty := .array .long) C in_M tyX2 tyX2_ok nmX2 hin2 hP hD hS rfl 0 (by decide) (by decide +kernel : Cond.fieldLink RX2 7 RX2 (TX2 0).2.1 (TX2 0).2.2.1 ∈ tT) rfl rfl rfl (by decide +kernel) rfl rfl (Nat.le_of_ble_eq_true rfl) dX2_init_10 (fun H locs hP hD hS => ?_)
  have hP : va_P D vwCl (ws ++ [(h0, .inr (ciM, [.ref q1, .null, .int (nI 0), .null, .null, .null, .null, .null])), (q1, .inl (K 0, 300, .inr (.inl (fun _ => 0))))]) H := hP
  have hD : va_D A (ws ++ [(h0, .inr (ciM, [.ref q1, .null, .int (nI 0), .null, .null, .null, .null, .null])), (q1, .inl (K 0, 300, .inr (.inl (fun _ => 0))))]) := hD
  refine lv_aload_n hx hb dX2_init_13 rfl (lv_at hl 0 rfl) ?_
  refine lv_sipush (v := nI 300) hx hb dX2_init_14 (by decide) ?_
  refine nwJ C hP hD hS hA (by decide) (Nat.le_of_ble_eq_true rfl) (Nat.le_of_ble_eq_true rfl) dX2_init_17 (fun q2 H hP hD hS => ?_)
  have hP : va_P D vwCl (ws ++ [(h0, .inr (ciM, [.ref q1, .null, .int (nI 0), .null, .null, .null, .null, .null])), (q1, .inl (K 0, 300, .inr (.inl (fun _ => 0)))), (q2, .inl (K 0, 300, .inr (.inl (fun _ => 0))))]) H := by rw [List.append_assoc] at hP; exact hP
  have hD : va_D A (ws ++ [(h0, .inr (ciM, [.ref q1, .null, .int (nI 0), .null, .null, .null, .null, .null])), (q1, .inl (K 0, 300, .inr (.inl (fun _ => 0)))), (q2, .inl (K 0, 300, .inr (.inl (fun _ => 0))))]) := by rw [List.append_assoc] at hD; exact hD
  refine pf_ (C := RX2) (T := TX2) (N := 8) (ci := ciM) (ty := .array .long) C in_M tyX2 tyX2_ok nmX2 hin2 hP hD hS rfl 1 (by decide) (by decide +kernel : Cond.fieldLink RX2 13 RX2 (TX2 1).2.1 (TX2 1).2.2.1 ∈ tT) rfl rfl rfl (by decide +kernel) rfl rfl (Nat.le_of_ble_eq_true rfl) dX2_init_19 (fun H locs hP hD hS => ?_)
  have hP : va_P D vwCl (ws ++ [(h0, .inr (ciM, [.ref q1, .ref q2, .int (nI 0), .null, .null, .null, .null, .null])), (q1, .inl (K 0, 300, .inr (.inl (fun _ => 0)))), (q2, .inl (K 0, 300, .inr (.inl (fun _ => 0))))]) H := hP
  have hD : va_D A (ws ++ [(h0, .inr (ciM, [.ref q1, .ref q2, .int (nI 0), .null, .null, .null, .null, .null])), (q1, .inl (K 0, 300, .inr (.inl (fun _ => 0)))), (q2, .inl (K 0, 300, .inr (.inl (fun _ => 0))))]) := hD
  refine lv_aload_n hx hb dX2_init_22 rfl (lv_at hl 0 rfl) ?_
  refine lv_sipush (v := nI 200) hx hb dX2_init_23 (by decide) ?_
  refine nwZ C hP hD hS hA (by decide) (Nat.le_of_ble_eq_true rfl) (Nat.le_of_ble_eq_true rfl) dX2_init_26 (fun q3 H hP hD hS => ?_)
  have hP : va_P D vwCl (ws ++ [(h0, .inr (ciM, [.ref q1, .ref q2, .int (nI 0), .null, .null, .null, .null, .null])), (q1, .inl (K 0, 300, .inr (.inl (fun _ => 0)))), (q2, .inl (K 0, 300, .inr (.inl (fun _ => 0)))), (q3, .inl (K 2, 200, .inl (fun _ => bI false)))]) H := by rw [List.append_assoc] at hP; exact hP
  have hD : va_D A (ws ++ [(h0, .inr (ciM, [.ref q1, .ref q2, .int (nI 0), .null, .null, .null, .null, .null])), (q1, .inl (K 0, 300, .inr (.inl (fun _ => 0)))), (q2, .inl (K 0, 300, .inr (.inl (fun _ => 0)))), (q3, .inl (K 2, 200, .inl (fun _ => bI false)))]) := by rw [List.append_assoc] at hD; exact hD
  refine pf_ (C := RX2) (T := TX2) (N := 8) (ci := ciM) (ty := .array .boolean) C in_M tyX2 tyX2_ok nmX2 hin2 hP hD hS rfl 3 (by decide) (by decide +kernel : Cond.fieldLink RX2 16 RX2 (TX2 3).2.1 (TX2 3).2.2.1 ∈ tT) rfl rfl rfl (by decide +kernel) rfl rfl (Nat.le_of_ble_eq_true rfl) dX2_init_28 (fun H locs hP hD hS => ?_)
  have hP : va_P D vwCl (ws ++ [(h0, .inr (ciM, [.ref q1, .ref q2, .int (nI 0), .ref q3, .null, .null, .null, .null])), (q1, .inl (K 0, 300, .inr (.inl (fun _ => 0)))), (q2, .inl (K 0, 300, .inr (.inl (fun _ => 0)))), (q3, .inl (K 2, 200, .inl (fun _ => bI false)))]) H := hP
  have hD : va_D A (ws ++ [(h0, .inr (ciM, [.ref q1, .ref q2, .int (nI 0), .ref q3, .null, .null, .null, .null])), (q1, .inl (K 0, 300, .inr (.inl (fun _ => 0)))), (q2, .inl (K 0, 300, .inr (.inl (fun _ => 0)))), (q3, .inl (K 2, 200, .inl (fun _ => bI false)))]) := hD
  refine lv_aload_n hx hb dX2_init_31 rfl (lv_at hl 0 rfl) ?_
  refine lv_sipush (v := nI 200) hx hb dX2_init_32 (by decide) ?_
  refine nwZ C hP hD hS hA (by decide) (Nat.le_of_ble_eq_true rfl) (Nat.le_of_ble_eq_true rfl) dX2_init_35 (fun q4 H hP hD hS => ?_)
  have hP : va_P D vwCl (ws ++ [(h0, .inr (ciM, [.ref q1, .ref q2, .int (nI 0), .ref q3, .null, .null, .null, .null])), (q1, .inl (K 0, 300, .inr (.inl (fun _ => 0)))), (q2, .inl (K 0, 300, .inr (.inl (fun _ => 0)))), (q3, .inl (K 2, 200, .inl (fun _ => bI false))), (q4, .inl (K 2, 200, .inl (fun _ => bI false)))]) H := by rw [List.append_assoc] at hP; exact hP
  have hD : va_D A (ws ++ [(h0, .inr (ciM, [.ref q1, .ref q2, .int (nI 0), .ref q3, .null, .null, .null, .null])), (q1, .inl (K 0, 300, .inr (.inl (fun _ => 0)))), (q2, .inl (K 0, 300, .inr (.inl (fun _ => 0)))), (q3, .inl (K 2, 200, .inl (fun _ => bI false))), (q4, .inl (K 2, 200, .inl (fun _ => bI false)))]) := by rw [List.append_assoc] at hD; exact hD
  refine pf_ (C := RX2) (T := TX2) (N := 8) (ci := ciM) (ty := .array .boolean) C in_M tyX2 tyX2_ok nmX2 hin2 hP hD hS rfl 4 (by decide) (by decide +kernel : Cond.fieldLink RX2 20 RX2 (TX2 4).2.1 (TX2 4).2.2.1 ∈ tT) rfl rfl rfl (by decide +kernel) rfl rfl (Nat.le_of_ble_eq_true rfl) dX2_init_37 (fun H locs hP hD hS => ?_)
  have hP : va_P D vwCl (ws ++ [(h0, .inr (ciM, [.ref q1, .ref q2, .int (nI 0), .ref q3, .ref q4, .null, .null, .null])), (q1, .inl (K 0, 300, .inr (.inl (fun _ => 0)))), (q2, .inl (K 0, 300, .inr (.inl (fun _ => 0)))), (q3, .inl (K 2, 200, .inl (fun _ => bI false))), (q4, .inl (K 2, 200, .inl (fun _ => bI false)))]) H := hP
  have hD : va_D A (ws ++ [(h0, .inr (ciM, [.ref q1, .ref q2, .int (nI 0), .ref q3, .ref q4, .null, .null, .null])), (q1, .inl (K 0, 300, .inr (.inl (fun _ => 0)))), (q2, .inl (K 0, 300, .inr (.inl (fun _ => 0)))), (q3, .inl (K 2, 200, .inl (fun _ => bI false))), (q4, .inl (K 2, 200, .inl (fun _ => bI false)))]) := hD
  refine lv_aload_n hx hb dX2_init_40 rfl (lv_at hl 0 rfl) ?_
  refine lv_sipush (v := nI 200) hx hb dX2_init_41 (by decide) ?_
  refine nwI C hP hD hS hA (by decide) (Nat.le_of_ble_eq_true rfl) (Nat.le_of_ble_eq_true rfl) dX2_init_44 (fun q5 H hP hD hS => ?_)
  have hP : va_P D vwCl (ws ++ [(h0, .inr (ciM, [.ref q1, .ref q2, .int (nI 0), .ref q3, .ref q4, .null, .null, .null])), (q1, .inl (K 0, 300, .inr (.inl (fun _ => 0)))), (q2, .inl (K 0, 300, .inr (.inl (fun _ => 0)))), (q3, .inl (K 2, 200, .inl (fun _ => bI false))), (q4, .inl (K 2, 200, .inl (fun _ => bI false))), (q5, .inl (K 1, 200, .inl (fun _ => nI 0)))]) H := by rw [List.append_assoc] at hP; exact hP
  have hD : va_D A (ws ++ [(h0, .inr (ciM, [.ref q1, .ref q2, .int (nI 0), .ref q3, .ref q4, .null, .null, .null])), (q1, .inl (K 0, 300, .inr (.inl (fun _ => 0)))), (q2, .inl (K 0, 300, .inr (.inl (fun _ => 0)))), (q3, .inl (K 2, 200, .inl (fun _ => bI false))), (q4, .inl (K 2, 200, .inl (fun _ => bI false))), (q5, .inl (K 1, 200, .inl (fun _ => nI 0)))]) := by rw [List.append_assoc] at hD; exact hD
  refine pf_ (C := RX2) (T := TX2) (N := 8) (ci := ciM) (ty := .array .int) C in_M tyX2 tyX2_ok nmX2 hin2 hP hD hS rfl 5 (by decide) (by decide +kernel : Cond.fieldLink RX2 23 RX2 (TX2 5).2.1 (TX2 5).2.2.1 ∈ tT) rfl rfl rfl (by decide +kernel) rfl rfl (Nat.le_of_ble_eq_true rfl) dX2_init_46 (fun H locs hP hD hS => ?_)
  have hP : va_P D vwCl (ws ++ [(h0, .inr (ciM, [.ref q1, .ref q2, .int (nI 0), .ref q3, .ref q4, .ref q5, .null, .null])), (q1, .inl (K 0, 300, .inr (.inl (fun _ => 0)))), (q2, .inl (K 0, 300, .inr (.inl (fun _ => 0)))), (q3, .inl (K 2, 200, .inl (fun _ => bI false))), (q4, .inl (K 2, 200, .inl (fun _ => bI false))), (q5, .inl (K 1, 200, .inl (fun _ => nI 0)))]) H := hP
  have hD : va_D A (ws ++ [(h0, .inr (ciM, [.ref q1, .ref q2, .int (nI 0), .ref q3, .ref q4, .ref q5, .null, .null])), (q1, .inl (K 0, 300, .inr (.inl (fun _ => 0)))), (q2, .inl (K 0, 300, .inr (.inl (fun _ => 0)))), (q3, .inl (K 2, 200, .inl (fun _ => bI false))), (q4, .inl (K 2, 200, .inl (fun _ => bI false))), (q5, .inl (K 1, 200, .inl (fun _ => nI 0)))]) := hD
  refine lv_aload_n hx hb dX2_init_49 rfl (lv_at hl 0 rfl) ?_
  refine lv_sipush (v := nI 3200) hx hb dX2_init_50 (by decide) ?_
  refine nwI C hP hD hS hA (by decide) (Nat.le_of_ble_eq_true rfl) (Nat.le_of_ble_eq_true rfl) dX2_init_53 (fun q6 H hP hD hS => ?_)
  have hP : va_P D vwCl (ws ++ [(h0, .inr (ciM, [.ref q1, .ref q2, .int (nI 0), .ref q3, .ref q4, .ref q5, .null, .null])), (q1, .inl (K 0, 300, .inr (.inl (fun _ => 0)))), (q2, .inl (K 0, 300, .inr (.inl (fun _ => 0)))), (q3, .inl (K 2, 200, .inl (fun _ => bI false))), (q4, .inl (K 2, 200, .inl (fun _ => bI false))), (q5, .inl (K 1, 200, .inl (fun _ => nI 0))), (q6, .inl (K 1, 3200, .inl (fun _ => nI 0)))]) H := by rw [List.append_assoc] at hP; exact hP
  have hD : va_D A (ws ++ [(h0, .inr (ciM, [.ref q1, .ref q2, .int (nI 0), .ref q3, .ref q4, .ref q5, .null, .null])), (q1, .inl (K 0, 300, .inr (.inl (fun _ => 0)))), (q2, .inl (K 0, 300, .inr (.inl (fun _ => 0)))), (q3, .inl (K 2, 200, .inl (fun _ => bI false))), (q4, .inl (K 2, 200, .inl (fun _ => bI false))), (q5, .inl (K 1, 200, .inl (fun _ => nI 0))), (q6, .inl (K 1, 3200, .inl (fun _ => nI 0)))]) := by rw [List.append_assoc] at hD; exact hD
  refine pf_ (C := RX2) (T := TX2) (N := 8) (ci := ciM) (ty := .array .int) C in_M tyX2 tyX2_ok nmX2 hin2 hP hD hS rfl 6 (by decide) (by decide +kernel : Cond.fieldLink RX2 27 RX2 (TX2 6).2.1 (TX2 6).2.2.1 ∈ tT) rfl rfl rfl (by decide +kernel) rfl rfl (Nat.le_of_ble_eq_true rfl) dX2_init_55 (fun H locs hP hD hS => ?_)
  have hP : va_P D vwCl (ws ++ [(h0, .inr (ciM, [.ref q1, .ref q2, .int (nI 0), .ref q3, .ref q4, .ref q5, .ref q6, .null])), (q1, .inl (K 0, 300, .inr (.inl (fun _ => 0)))), (q2, .inl (K 0, 300, .inr (.inl (fun _ => 0)))), (q3, .inl (K 2, 200, .inl (fun _ => bI false))), (q4, .inl (K 2, 200, .inl (fun _ => bI false))), (q5, .inl (K 1, 200, .inl (fun _ => nI 0))), (q6, .inl (K 1, 3200, .inl (fun _ => nI 0)))]) H := hP
  have hD : va_D A (ws ++ [(h0, .inr (ciM, [.ref q1, .ref q2, .int (nI 0), .ref q3, .ref q4, .ref q5, .ref q6, .null])), (q1, .inl (K 0, 300, .inr (.inl (fun _ => 0)))), (q2, .inl (K 0, 300, .inr (.inl (fun _ => 0)))), (q3, .inl (K 2, 200, .inl (fun _ => bI false))), (q4, .inl (K 2, 200, .inl (fun _ => bI false))), (q5, .inl (K 1, 200, .inl (fun _ => nI 0))), (q6, .inl (K 1, 3200, .inl (fun _ => nI 0)))]) := hD
  refine lv_aload_n hx hb dX2_init_58 rfl (lv_at hl 0 rfl) ?_
  refine lv_sipush (v := nI 3200) hx hb dX2_init_59 (by decide) ?_
  refine nwJ C hP hD hS hA (by decide) (Nat.le_of_ble_eq_true rfl) (Nat.le_of_ble_eq_true rfl) dX2_init_62 (fun q7 H hP hD hS => ?_)
  have hP : va_P D vwCl (ws ++ [(h0, .inr (ciM, [.ref q1, .ref q2, .int (nI 0), .ref q3, .ref q4, .ref q5, .ref q6, .null])), (q1, .inl (K 0, 300, .inr (.inl (fun _ => 0)))), (q2, .inl (K 0, 300, .inr (.inl (fun _ => 0)))), (q3, .inl (K 2, 200, .inl (fun _ => bI false))), (q4, .inl (K 2, 200, .inl (fun _ => bI false))), (q5, .inl (K 1, 200, .inl (fun _ => nI 0))), (q6, .inl (K 1, 3200, .inl (fun _ => nI 0))), (q7, .inl (K 0, 3200, .inr (.inl (fun _ => 0))))]) H := by rw [List.append_assoc] at hP; exact hP
  have hD : va_D A (ws ++ [(h0, .inr (ciM, [.ref q1, .ref q2, .int (nI 0), .ref q3, .ref q4, .ref q5, .ref q6, .null])), (q1, .inl (K 0, 300, .inr (.inl (fun _ => 0)))), (q2, .inl (K 0, 300, .inr (.inl (fun _ => 0)))), (q3, .inl (K 2, 200, .inl (fun _ => bI false))), (q4, .inl (K 2, 200, .inl (fun _ => bI false))), (q5, .inl (K 1, 200, .inl (fun _ => nI 0))), (q6, .inl (K 1, 3200, .inl (fun _ => nI 0))), (q7, .inl (K 0, 3200, .inr (.inl (fun _ => 0))))]) := by rw [List.append_assoc] at hD; exact hD
  refine pf_ (C := RX2) (T := TX2) (N := 8) (ci := ciM) (ty := .array .long) C in_M tyX2 tyX2_ok nmX2 hin2 hP hD hS rfl 7 (by decide) (by decide +kernel : Cond.fieldLink RX2 30 RX2 (TX2 7).2.1 (TX2 7).2.2.1 ∈ tT) rfl rfl rfl (by decide +kernel) rfl rfl (Nat.le_of_ble_eq_true rfl) dX2_init_64 (fun H locs hP hD hS => ?_)
  have hP : va_P D vwCl (ws ++ [(h0, .inr (ciM, [.ref q1, .ref q2, .int (nI 0), .ref q3, .ref q4, .ref q5, .ref q6, .ref q7])), (q1, .inl (K 0, 300, .inr (.inl (fun _ => 0)))), (q2, .inl (K 0, 300, .inr (.inl (fun _ => 0)))), (q3, .inl (K 2, 200, .inl (fun _ => bI false))), (q4, .inl (K 2, 200, .inl (fun _ => bI false))), (q5, .inl (K 1, 200, .inl (fun _ => nI 0))), (q6, .inl (K 1, 3200, .inl (fun _ => nI 0))), (q7, .inl (K 0, 3200, .inr (.inl (fun _ => 0))))]) H := hP
  have hD : va_D A (ws ++ [(h0, .inr (ciM, [.ref q1, .ref q2, .int (nI 0), .ref q3, .ref q4, .ref q5, .ref q6, .ref q7])), (q1, .inl (K 0, 300, .inr (.inl (fun _ => 0)))), (q2, .inl (K 0, 300, .inr (.inl (fun _ => 0)))), (q3, .inl (K 2, 200, .inl (fun _ => bI false))), (q4, .inl (K 2, 200, .inl (fun _ => bI false))), (q5, .inl (K 1, 200, .inl (fun _ => nI 0))), (q6, .inl (K 1, 3200, .inl (fun _ => nI 0))), (q7, .inl (K 0, 3200, .inr (.inl (fun _ => 0))))]) := hD
  exact W.vret hx hb hr (fun t ht _ => ⟨⟨(q1, q2, q3, q4, q5, q6, q7), rfl, trivial, by rw [ht]; exact hP, hD⟩, hS.F ht⟩) hS.2.2 dX2_init_67
end CTOR
end
section
/-! GRIDDESK: item -/
section SRI
variable {p : Program} {l : Launch} {e : Env} {Rm : Room} {s : State} {m : MethodId} {args : Array Value} {below : List Frame} {meth : Method} {c : Code} {H : Heap} {locs : List Loc} {cells slots : Nat} {Q : State → Prop} {cc : ByteArray} {pc : Nat} {ls : Array Slot} {rest : List Value} {own : String} {D : va_G} {A : Nat → Prop} {H0 : Heap}
variable {R : va_W} {o : Nat → Nat} {K : Nat → ClassId} {ad : Nat → Nat × Nat × Nat} {va fl af : Nat → Int64} {bl : Nat → Bool} {n nc tc sc : Nat} {T S : Nat → Bool} {us : Nat → Nat} {ps : Nat → Nat → Nat} {am : Nat → Nat → Int64} {im : Nat → Option Nat}
theorem sR_items {v : Nat} (C : cx own D K p s m args c cc) (hn : n < 200) (hv : v = (ad n).1) (hP : va_P D vwCl (dR R o K va fl af bl im nc tc sc (it_w K ad T S us ps am (n + 1))) H) (hD : va_D A (dR R o K va fl af bl im nc tc sc (it_w K ad T S us ps am (n + 1)))) (hS : va_S A H0 H locs) (hdg : decode cc pc = .ok (.aastore, 1)) (kk : ∀ (H1 : Heap) (locs1 : List Loc), va_P D vwCl (dR R o K va fl af bl (va_up im n (some v)) nc tc sc (it_w K ad T S us ps am (n + 1))) H1 → va_D A (dR R o K va fl af bl (va_up im n (some v)) nc tc sc (it_w K ad T S us ps am (n + 1))) → va_S A H0 H1 locs1 → W p l e Rm s m args below meth c H1 locs1 cells slots Q (F0 m (pc + 1) ls rest)) : W p l e Rm s m args below meth c H locs cells slots Q (F0 m pc ls (.ref v :: .int (nI n) :: .ref (o 3) :: rest)) := by
  subst hv
  have he : (dR R o K va fl af bl im nc tc sc (it_w K ad T S us ps am (n + 1)))[6 + (R.length + 3 * n)]? = some (i_ob (ad n) (T n) (S n) (us n)) := by
    refine (dW_pos (3 * n) _ _ _ _ _ _ _).trans ?_
    rw [it_get (by omega), it_c0]
  refine va_astq (r := (RX0, TX0, 5)) C.1 C.2.1 C.2.2.2.2.1 hP hD hS 3 3 (6 + (R.length + 3 * n)) ciI rfl rfl he rfl (vp_in_nI hn (by decide)) hdg (fun H1 locs1 h1 h2 h3 => ?_)
  rw [nI_clamp (by omega)] at h1 h2
  exact kk H1 locs1 h1 h2 h3
end SRI
section DIT
variable {D : va_G} {K : Nat → ClassId} {H : Heap} {A : Nat → Prop} {R : va_W} {o : Nat → Nat} {ad : Nat → Nat × Nat × Nat} {va fl af : Nat → Int64} {bl : Nat → Bool} {n tc sc : Nat} {T S : Nat → Bool} {us : Nat → Nat} {ps : Nat → Nat → Nat} {am : Nat → Nat → Int64}
set_option maxHeartbeats 1000000 in
set_option maxRecDepth 100000 in
theorem cD_item_no (l : Launch) (hP : va_P D vwCl (dW R o K ad va fl af bl n tc sc T S us ps am) H) (h : 200 ≤ n) (h2 : n ≤ 200) : Met l yX1_item (tC yX1_item cX1_item 1 (some .int)) (rmK 0 0 0) (kP D K H [.ref (o 0)]) (k2_QcV (.int (-1))) 0 0 (fun _ => False) := by
  refine Met.ofW (cc := cX1_item) (maxL := 1) (ret := (some .int)) (by decide) rfl ?_
  intro p e s m args below meth c s₁ B hml hv
  obtain ⟨rfl, hH, hK, hN, hO⟩ := hv
  have hx := B.exec
  have hb := B.bytes
  have hr := B.returns
  have hts : ∀ w ∈ tT, w.before _ s = true := fun w h => atoms_spec (ws := tC yX1_item cX1_item 1 (some .int)) B.pre w (List.mem_cons_of_mem _ h)
  have hown : s.vm.findClass RX1 = some m.cls := findClass_of_methodNamed B.named
  have hlocks := B.notSynchronized
  have C : cx RX1 D K p s m _ c cX1_item := ⟨hx, hb, hown, hts, hK, hN, hO⟩
  have hR : rmOk (headSpec (tC yX1_item cX1_item 1 (some .int)) (rmK 0 0 0)).room 0 0 0 := ⟨Nat.le_refl _, Nat.le_refl _, Nat.le_refl _, Nat.le_refl _⟩
  subst hH
  have hl := lv_entry ([.ref (o 0)]) (n := 1) (Nat.le_of_ble_eq_true rfl)
  rw [lg_entry_eq]
  generalize (lg_sl ([.ref (o 0)]) ++ List.replicate (1 - (lg_sl ([.ref (o 0)])).length) Slot.unset).toArray = ls at hl ⊢
  have hl : lv_has ls 1 [(0, .ref (o 0))] := hl
  refine lv_aload_n hx hb dX1_item_0 rfl (lv_at hl 0 rfl) ?_
  refine gD_itemCount C hP dX1_item_1 ?_
  refine lv_sipush (v := nI 200) hx hb dX1_item_4 (by decide) ?_
  refine lv_icmp_lt (tgt := 12) hx hb dX1_item_7 (by decide) (fun c1 => ?_) (fun c1 => ?_)
  · have c1 : n < 200 := (nI_ltI (by omega) (by omega)).mp c1
    exact absurd c1 (by omega)
  · have c1 : ¬ n < 200 := fun z9 => c1 ((nI_ltI (by omega) (by omega)).mpr z9)
    refine lv_iconst (v := (-1)) hx hb dX1_item_10 (by decide) ?_
    exact W.iret (v := (-1)) hx hb hr (fun t ht _ => ⟨rfl, ht⟩) (fun q h => by cases h) dX1_item_11
set_option maxHeartbeats 1000000 in
set_option maxRecDepth 100000 in
theorem cD_item (l : Launch) (hP : va_P D vwCl (dW R o K ad va fl af bl n tc sc T S us ps am) H) (hD : va_D A (dW R o K ad va fl af bl n tc sc T S us ps am)) (hA : ∀ q, H.size ≤ q → A q) (h : n < 200) : Met l yX1_item (tC yX1_item cX1_item 1 (some .int)) (rmK 2 3 37) (kP D K H [.ref (o 0)]) (qI D A (fun (r : Int32) (u : (Nat × Nat × Nat)) => r = nI n) (fun u : (Nat × Nat × Nat) => dW R o K (va_up ad n u) va fl af bl (n + 1) (tc + 1) sc (va_up T n true) (va_up S n false) (va_up us n 0) (va_up ps n (fun _ => 0)) (va_up am n (fun _ => 0)))) 3 37 A := by
  refine Met.ofW (cc := cX1_item) (maxL := 1) (ret := (some .int)) (by decide) rfl ?_
  intro p e s m args below meth c s₁ B hml hv
  obtain ⟨rfl, hH, hK, hN, hO⟩ := hv
  have hx := B.exec
  have hb := B.bytes
  have hr := B.returns
  have hts : ∀ w ∈ tT, w.before _ s = true := fun w h => atoms_spec (ws := tC yX1_item cX1_item 1 (some .int)) B.pre w (List.mem_cons_of_mem _ h)
  have hown : s.vm.findClass RX1 = some m.cls := findClass_of_methodNamed B.named
  have hlocks := B.notSynchronized
  have C : cx RX1 D K p s m _ c cX1_item := ⟨hx, hb, hown, hts, hK, hN, hO⟩
  have hR : rmOk (headSpec (tC yX1_item cX1_item 1 (some .int)) (rmK 2 3 37)).room 2 3 37 := ⟨Nat.le_refl _, Nat.le_refl _, Nat.le_refl _, Nat.le_refl _⟩
  subst hH
  have hS : va_S A s.heap s.heap [] := va_S.rf
  have hl := lv_entry ([.ref (o 0)]) (n := 1) (Nat.le_of_ble_eq_true rfl)
  rw [lg_entry_eq]
  generalize (lg_sl ([.ref (o 0)]) ++ List.replicate (1 - (lg_sl ([.ref (o 0)])).length) Slot.unset).toArray = ls at hl ⊢
  have hl : lv_has ls 1 [(0, .ref (o 0))] := hl
  refine lv_aload_n hx hb dX1_item_0 rfl (lv_at hl 0 rfl) ?_
  refine gD_itemCount C hP dX1_item_1 ?_
  refine lv_sipush (v := nI 200) hx hb dX1_item_4 (by decide) ?_
  refine lv_icmp_lt (tgt := 12) hx hb dX1_item_7 (by decide) (fun c1 => ?_) (fun c1 => ?_)
  · have c1 : n < 200 := (nI_ltI (by omega) (by omega)).mp c1
    refine lv_aload_n hx hb dX1_item_12 rfl (lv_at hl 0 rfl) ?_
    refine gD_items C hP dX1_item_13 ?_
    refine lv_aload_n hx hb dX1_item_16 rfl (lv_at hl 0 rfl) ?_
    refine gD_itemCount C hP dX1_item_17 ?_
    refine va_new (ci := ciI) (fs := [.null, .null, .int (nI 0), .int (bI false), .int (bI false)]) (C := RX0) (T := TX0) (N := 5) hx hb hts in_I tyX0 tyX0_ok hown (hts _ (by decide +kernel : Cond.classLink RX1 16 RX0 ∈ tT)) (hts _ (by decide +kernel : Cond.instantiable RX0 5 ∈ tT)) (hts _ (by decide +kernel : Cond.initialized RX0 ∈ tT)) hK hP hD hS hA rfl (fun j hj => by rcases (show j = 0 ∨ j = 1 ∨ j = 2 ∨ j = 3 ∨ j = 4 by omega) with rfl | rfl | rfl | rfl | rfl <;> rfl) (Nat.le_of_ble_eq_true rfl) (Nat.le_of_ble_eq_true rfl) dX1_item_20 (fun q H hP hD hS => ?_)
    refine lv_dup hx hb dX1_item_23 rfl ?_
    refine wv (va_runIN (As := []) (rest := [.ref q, .int (nI n), .ref (o 3)]) ⟨hx, hb, hml, hown, hts⟩ (cI_init l hP hD (fun x h9 => hA x (Nat.le_trans hS.1 h9))) ⟨va_cnB 0 hts gD_41.1 rfl rfl rfl (C.2.2.2.2.2.1 _ gD_41.2.1) (hts _ gD_41.2.2.1) (by decide +kernel) (rmF hR (by decide) (by decide)), rfl, hts _ gD_41.2.2.2⟩ (kP_S C) rfl rfl hl.1 rfl (lv_room (Nat.le_of_ble_eq_true rfl)) dX1_item_24 ⟨Nat.le_of_ble_eq_true rfl, Nat.le_of_ble_eq_true rfl⟩) hS (fun u H locs hq hP hD hS => ?_)
    have e1 : dW R o K ad va fl af bl n tc sc T S us ps am ++ [i_ob (q, u.1, u.2) true false 0, i_pc K (q, u.1, u.2) (fun _ => 0), i_ac K (q, u.1, u.2) (fun _ => 0)] = dR R o K va fl af bl (itf n ad) n tc sc (it_w K (va_up ad n (q, u.1, u.2)) (va_up T n true) (va_up S n false) (va_up us n 0) (va_up ps n (fun _ => 0)) (va_up am n (fun _ => 0)) (n + 1)) := by
      rw [← it_push]
      unfold dW dR
      simp only [List.cons_append, List.append_assoc]
    rw [e1] at hP hD
    refine sR_items C h (by rw [va_up_self]) hP hD hS dX1_item_27 (fun H locs hP hD hS => ?_)
    refine lv_aload_n hx hb dX1_item_28 rfl (lv_at hl 0 rfl) ?_
    refine lv_dup hx hb dX1_item_29 rfl ?_
    refine gR_itemCount C hP dX1_item_30 ?_
    refine lv_iconst (v := nI 1) hx hb dX1_item_33 (by decide) ?_
    refine lv_iadd hx hb dX1_item_34 ?_
    refine tp_i (y := nI (n + 1)) (nI_add n 1) ?_
    refine pR_itemCount C hP hD hS dX1_item_35 (fun H locs hP hD hS => ?_)
    refine lv_aload_n hx hb dX1_item_38 rfl (lv_at hl 0 rfl) ?_
    refine lv_dup hx hb dX1_item_39 rfl ?_
    refine gR_thereCount C hP dX1_item_40 ?_
    refine lv_iconst (v := nI 1) hx hb dX1_item_43 (by decide) ?_
    refine lv_iadd hx hb dX1_item_44 ?_
    refine tp_i (y := nI (tc + 1)) (nI_add tc 1) ?_
    refine pR_thereCount C hP hD hS dX1_item_45 (fun H locs hP hD hS => ?_)
    refine lv_aload_n hx hb dX1_item_48 rfl (lv_at hl 0 rfl) ?_
    refine gR_itemCount C hP dX1_item_49 ?_
    refine lv_iconst (v := nI 1) hx hb dX1_item_52 (by decide) ?_
    refine lv_isub hx hb dX1_item_53 ?_
    refine tp_i (y := nI ((n + 1) - 1)) (pk_sub (by omega)) ?_
    refine tp_i (y := nI n) (congrArg nI (Nat.add_sub_cancel n 1)) ?_
    have e2 : dW R o K (va_up ad n (q, u.1, u.2)) va fl af bl (n + 1) (tc + 1) sc (va_up T n true) (va_up S n false) (va_up us n 0) (va_up ps n (fun _ => 0)) (va_up am n (fun _ => 0)) = dR R o K va fl af bl (va_up (itf n ad) n (some q)) (n + 1) (tc + 1) sc (it_w K (va_up ad n (q, u.1, u.2)) (va_up T n true) (va_up S n false) (va_up us n 0) (va_up ps n (fun _ => 0)) (va_up am n (fun _ => 0)) (n + 1)) := by
      unfold dW
      rw [← itf_push (a := (q, u.1, u.2))]
    rw [← e2] at hP hD
    exact W.iret (v := nI n) hx hb hr (fun t ht _ => ⟨⟨_, (q, u.1, u.2), rfl, rfl, by rw [ht]; exact hP, hD⟩, hS.F ht⟩) hS.2.2 dX1_item_54
  · have c1 : ¬ n < 200 := fun z9 => c1 ((nI_ltI (by omega) (by omega)).mpr z9)
    exact absurd h c1
end DIT
end
section
/-! THE LAW: its ten calls -/
def lw2 (a b : Int32) : Int64 := (a.toInt64 <<< ((nI 32).toInt64 &&& 63)) ||| (b.toInt64 &&& 4294967295)
section LW0
variable {D : va_G} {K : Nat → ClassId} {H : Heap} {A : Nat → Prop} {o o' : Nat → Nat} {ad : Nat → Nat × Nat × Nat} {va fl af : Nat → Int64} {bl : Nat → Bool} {n n' tc sc : Nat} {T S : Nat → Bool} {us : Nat → Nat} {ps : Nat → Nat → Nat} {am : Nat → Nat → Int64} {va' fl' : Nat → Int64} {th ch : Nat → Bool} {mn po : Nat → Nat} {an : Nat → Int64}
/-- the class's six cells alone -/
abbrev d6 (o : Nat → Nat) (K : Nat → ClassId) (ad : Nat → Nat × Nat × Nat) (va fl af : Nat → Int64) (bl : Nat → Bool) (n tc sc : Nat) : va_W := dR [] o K va fl af bl (itf n ad) n tc sc []
theorem dmP (h : va_P D vwCl (dW (mW [] o' K va' fl' n' th ch mn po an) o K ad va fl af bl n tc sc T S us ps am) H) : va_P D vwCl (mW (it_w K ad T S us ps am n ++ d6 o K ad va fl af bl n tc sc) o' K va' fl' n' th ch mn po an) H :=
  va_P.swap (a := []) (b := d6 o K ad va fl af bl n tc sc) (c := mW (it_w K ad T S us ps am n) o' K va' fl' n' th ch mn po an) h
theorem dmD (h : va_D A (dW (mW [] o' K va' fl' n' th ch mn po an) o K ad va fl af bl n tc sc T S us ps am)) : va_D A (mW (it_w K ad T S us ps am n ++ d6 o K ad va fl af bl n tc sc) o' K va' fl' n' th ch mn po an) :=
  va_D.swap (a := []) (b := d6 o K ad va fl af bl n tc sc) (c := mW (it_w K ad T S us ps am n) o' K va' fl' n' th ch mn po an) h
theorem mdP (h : va_P D vwCl (mW (it_w K ad T S us ps am n ++ d6 o K ad va fl af bl n tc sc) o' K va' fl' n' th ch mn po an) H) : va_P D vwCl (dW (mW [] o' K va' fl' n' th ch mn po an) o K ad va fl af bl n tc sc T S us ps am) H :=
  va_P.swap (a := []) (b := mW (it_w K ad T S us ps am n) o' K va' fl' n' th ch mn po an) (c := d6 o K ad va fl af bl n tc sc) h
theorem mdD (h : va_D A (mW (it_w K ad T S us ps am n ++ d6 o K ad va fl af bl n tc sc) o' K va' fl' n' th ch mn po an)) : va_D A (dW (mW [] o' K va' fl' n' th ch mn po an) o K ad va fl af bl n tc sc T S us ps am) :=
  va_D.swap (a := []) (b := mW (it_w K ad T S us ps am n) o' K va' fl' n' th ch mn po an) (c := d6 o K ad va fl af bl n tc sc) h
theorem nT_congr (h : ∀ i, i < n → T i = th i) {x : Int32} (hx : nT n T x) : nT n th x := by
  rcases hx with q | q | ⟨i, hi, e, hT⟩
  · exact Or.inl q
  · exact Or.inr (Or.inl q)
  · exact Or.inr (Or.inr ⟨i, hi, e, by rw [← h i hi]; exact hT⟩)
theorem ntq_out {ps : Nat → Nat} {u : Nat} {am : Nat → Int64} {y : Int32} (hp : ∀ k, k < u → ps k < 300) (hy : isP y = false) : ntq (qx ps y) u am = 0 := by
  have e : fs (qx ps y) u 0 = u := fs_no (fun j hj => decide_eq_false (fun z => by
    rw [← z, isP_nI (hp j hj)] at hy
    cases hy))
  unfold ntq
  rw [e, if_neg (Nat.lt_irrefl u)]
/-- what the reference's totals are, where the class's row after is the set done -/
theorem tot_eq (Lh : LI va fl n tc sc T S us ps am va' fl' th ch mn po an) (haf : ∀ q, q < 300 → (af q).toInt = (va q).toInt + sm (gd_T (nvS us ps am) S q) n) : ∀ q, q < 300 → m_tot mn po an va' ch q n = af q := by
  intro q hq
  rw [← Int64.toInt_inj, m_tot_v (LI_model Lh) ch hq n (Nat.le_refl n), haf q hq, LI_gT Lh q, (Lh.2.2.2.1 q hq).1]
theorem cn_200 (Lh : LI va fl n tc sc T S us ps am va' fl' th ch mn po an) : cn ch 200 = sc ∧ cn th 200 = tc := by
  obtain ⟨h1, h2, h3, -, h5, h6⟩ := Lh
  constructor
  · rw [cn_tail 200 h1.1 (fun k hk _ => (h6 k hk).2.1), h3]
    exact (cn_congr (fun k hk => (h5 k hk).2.1)).symm
  · rw [cn_tail 200 h1.1 (fun k hk _ => (h6 k hk).1), h2]
    exact (cn_congr (fun k hk => (h5 k hk).1)).symm
end LW0
section LAWC
variable {p : Program} {l : Launch} {e : Env} {s : State} {m : MethodId} {below : List Frame} {meth : Method} {c : Code} {b L t : Nat} {xs : Nat → Int32} {Q : State → Prop} {D : va_G} {K : Nat → ClassId} {H : Heap} {locs : List Loc} {ls : Array Slot} {cells slots : Nat} {o o' : Nat → Nat} {ad : Nat → Nat × Nat × Nat} {va fl af : Nat → Int64} {bl : Nat → Bool} {n tc sc : Nat} {T S : Nat → Bool} {us : Nat → Nat} {ps : Nat → Nat → Nat} {am : Nat → Nat → Int64} {va' fl' : Nat → Int64} {th ch : Nat → Bool} {mn po : Nat → Nat} {an : Nat → Int64}
/-- the script's places -/
theorem ldx {k pc : Nat} {rest : List Value} (hx : p.tables.exec = Jvm.exec) (hb : c.code = code) (hX : va_X b L xs s s.heap) (hbl : b < s.heap.size) (hS : va_S (fun q => s.heap.size ≤ q) s.heap H locs) (hk : k < L) (hL3 : L ≤ 3072) (hdg : decode code pc = .ok (.iaload, 1)) (kk : W p l e room_1 s m #[Value.ref b] below meth c H locs cells slots Q (F0 m (pc + 1) ls (.int (xs k) :: rest))) : W p l e room_1 s m #[Value.ref b] below meth c H locs cells slots Q (F0 m pc ls (.int (nI k) :: .ref b :: rest)) := by
  refine va_sld (A := fun q => s.heap.size ≤ q) hx hb hX hbl (Nat.not_le.mpr hbl) hS (vp_in_nI hk (by omega)) hdg ?_
  rw [nI_clamp (by omega)]
  exact kk
/-- what the law stands on -/
def lC (D : va_G) (K : Nat → ClassId) (p : Program) (s : State) (m : MethodId) (c : Code) (b L : Nat) (xs : Nat → Int32) : Prop := cx RL D K p s m #[Value.ref b] c code ∧ c.maxLocals = 4 ∧ va_X b L xs s s.heap ∧ b < s.heap.size ∧ L ≤ 3072
/-- behind a turn's calls -/
abbrev LK (p : Program) (l : Launch) (e : Env) (s : State) (m : MethodId) (below : List Frame) (meth : Method) (c : Code) (b t : Nat) (Q : State → Prop) (D : va_G) (K : Nat → ClassId) (o o' : Nat → Nat) (pc dc ds : Nat) : Prop :=
  ∀ {ad : Nat → Nat × Nat × Nat} {va fl af : Nat → Int64} {bl : Nat → Bool} {n tc sc : Nat} {T S : Nat → Bool} {us : Nat → Nat} {ps : Nat → Nat → Nat} {am : Nat → Nat → Int64} {va' fl' : Nat → Int64} {th ch : Nat → Bool} {mn po : Nat → Nat} {an : Nat → Int64} {H : Heap} {locs : List Loc} {ls : Array Slot} {cells slots : Nat},
    LI va fl n tc sc T S us ps am va' fl' th ch mn po an → va_P D vwCl (dW (mW [] o' K va' fl' n th ch mn po an) o K ad va fl af bl n tc sc T S us ps am) H → va_D (fun q => s.heap.size ≤ q) (dW (mW [] o' K va' fl' n th ch mn po an) o K ad va fl af bl n tc sc T S us ps am) → va_S (fun q => s.heap.size ≤ q) s.heap H locs → lv_has ls 4 [(0, .ref b), (1, .ref (o 0)), (2, .ref (o' 0)), (3, .int (nI (6 * t)))] → cells ≤ 20 + 3 * t + dc → slots ≤ 20000 + 37 * t + ds → W p l e room_1 s m #[Value.ref b] below meth c H locs cells slots Q (F0 m pc ls [])
set_option maxHeartbeats 1000000 in
set_option maxRecDepth 100000 in
theorem law_count (G : lC D K p s m c b L xs) (ht : 6 * t + 6 ≤ L) (Lh : LI va fl n tc sc T S us ps am va' fl' th ch mn po an) (hP : va_P D vwCl (dW (mW [] o' K va' fl' n th ch mn po an) o K ad va fl af bl n tc sc T S us ps am) H) (hD : va_D (fun q => s.heap.size ≤ q) (dW (mW [] o' K va' fl' n th ch mn po an) o K ad va fl af bl n tc sc T S us ps am)) (hS : va_S (fun q => s.heap.size ≤ q) s.heap H locs) (hl : lv_has ls 4 [(0, .ref b), (1, .ref (o 0)), (2, .ref (o' 0)), (3, .int (nI (6 * t)))]) (hc : cells ≤ 20 + 3 * t) (hs : slots ≤ 20000 + 37 * t) (kk : LK p l e s m below meth c b t Q D K o o' 430 3 37) : W p l e room_1 s m #[Value.ref b] below meth c H locs cells slots Q (F0 m 407 ls []) := by
  obtain ⟨C, hml, hX, hbl, hL3⟩ := G
  have hx := C.1
  have hb := C.2.1
  have hown := C.2.2.1
  have hts := C.2.2.2.1
  have hR : rmOk room_1 8 0 0 := ⟨by decide, by decide, Nat.zero_le _, Nat.zero_le _⟩
  have hn200 : n ≤ 200 := Lh.1.1
  have hTt : ∀ i, i < n → T i = th i := fun i hi => (Lh.2.2.2.2.1 i hi).1
  refine lv_aload_n hx hb dL_law_407 rfl (lv_at hl 1 rfl) ?_
  refine lv_aload_n hx hb dL_law_408 rfl (lv_at hl 0 rfl) ?_
  refine lv_iload_n hx hb dL_law_409 rfl (lv_at hl 3 rfl) ?_
  refine lv_iconst (v := nI 1) hx hb dL_law_410 (by decide) ?_
  refine lv_iadd hx hb dL_law_411 ?_
  refine tp_i (y := nI ((6 * t) + 1)) (nI_add (6 * t) 1) ?_
  refine ldx hx hb hX hbl hS (by omega) hL3 dL_law_412 ?_
  refine pv (va_runV (As := [.int (xs ((6 * t) + 1))]) (rest := []) ⟨hx, hb, hml, hown, hts⟩ (cD_count l hP (xs ((6 * t) + 1))) (cwV 1 hts gL_57 rfl rfl rfl (by decide +kernel) (rmF hR (by decide) (by decide))) (kP_V C (va_recv C.2.2.2.2.1 hP (ci := ciD) (q0 := 0) rfl rfl)) rfl rfl hl.1 rfl (lv_room (Nat.le_of_ble_eq_true rfl)) dL_law_413 ⟨by show _ ≤ 600000; omega, by show _ ≤ 7302249; omega⟩) ?_
  refine lv_aload_n hx hb dL_law_416 rfl (lv_at hl 2 rfl) ?_
  refine lv_aload_n hx hb dL_law_417 rfl (lv_at hl 0 rfl) ?_
  refine lv_iload_n hx hb dL_law_418 rfl (lv_at hl 3 rfl) ?_
  refine lv_iconst (v := nI 1) hx hb dL_law_419 (by decide) ?_
  refine lv_iadd hx hb dL_law_420 ?_
  refine tp_i (y := nI ((6 * t) + 1)) (nI_add (6 * t) 1) ?_
  refine ldx hx hb hX hbl hS (by omega) hL3 dL_law_421 ?_
  refine pv (va_runV (As := [.int (xs ((6 * t) + 1))]) (rest := [.int (cntS (xs ((6 * t) + 1)) n tc sc)]) ⟨hx, hb, hml, hown, hts⟩ (cM_count l (dmP hP) (xs ((6 * t) + 1))) (cwV 1 hts gL_61 rfl rfl rfl (by decide +kernel) (rmF hR (by decide) (by decide))) (kP_V C (va_recv C.2.2.2.2.1 (dmP hP) (ci := ciM) (q0 := 0) rfl rfl)) rfl rfl hl.1 rfl (lv_room (Nat.le_of_ble_eq_true rfl)) dL_law_422 ⟨by show _ ≤ 600000; omega, by show _ ≤ 7302249; omega⟩) ?_
  refine lv_icmp_eq (tgt := 430) hx hb dL_law_425 (by decide) (fun c9 => ?_) (fun c9 => ?_)
  · exact kk (Lh) hP hD hS (lv_sub hl [0, 1, 2, 3] rfl) (by omega) (by omega)
  · exact absurd (by rw [(cn_200 Lh).1, (cn_200 Lh).2]) c9
set_option maxHeartbeats 1000000 in
set_option maxRecDepth 100000 in
theorem law_value (G : lC D K p s m c b L xs) (ht : 6 * t + 6 ≤ L) (Lh : LI va fl n tc sc T S us ps am va' fl' th ch mn po an) (hP : va_P D vwCl (dW (mW [] o' K va' fl' n th ch mn po an) o K ad va fl af bl n tc sc T S us ps am) H) (hD : va_D (fun q => s.heap.size ≤ q) (dW (mW [] o' K va' fl' n th ch mn po an) o K ad va fl af bl n tc sc T S us ps am)) (hS : va_S (fun q => s.heap.size ≤ q) s.heap H locs) (hl : lv_has ls 4 [(0, .ref b), (1, .ref (o 0)), (2, .ref (o' 0)), (3, .int (nI (6 * t)))]) (hc : cells ≤ 20 + 3 * t) (hs : slots ≤ 20000 + 37 * t) (kk : LK p l e s m below meth c b t Q D K o o' 430 3 37) : W p l e room_1 s m #[Value.ref b] below meth c H locs cells slots Q (F0 m 349 ls []) := by
  obtain ⟨C, hml, hX, hbl, hL3⟩ := G
  have hx := C.1
  have hb := C.2.1
  have hown := C.2.2.1
  have hts := C.2.2.2.1
  have hR : rmOk room_1 8 0 0 := ⟨by decide, by decide, Nat.zero_le _, Nat.zero_le _⟩
  have hn200 : n ≤ 200 := Lh.1.1
  have hTt : ∀ i, i < n → T i = th i := fun i hi => (Lh.2.2.2.2.1 i hi).1
  cases hp : isP (xs (6 * t + 1)) with
  | false =>
    refine lv_aload_n hx hb dL_law_349 rfl (lv_at hl 1 rfl) ?_
    refine lv_aload_n hx hb dL_law_350 rfl (lv_at hl 0 rfl) ?_
    refine lv_iload_n hx hb dL_law_351 rfl (lv_at hl 3 rfl) ?_
    refine lv_iconst (v := nI 1) hx hb dL_law_352 (by decide) ?_
    refine lv_iadd hx hb dL_law_353 ?_
    refine tp_i (y := nI ((6 * t) + 1)) (nI_add (6 * t) 1) ?_
    refine ldx hx hb hX hbl hS (by omega) hL3 dL_law_354 ?_
    refine pv (va_runV (As := [.int (xs ((6 * t) + 1))]) (rest := []) ⟨hx, hb, hml, hown, hts⟩ (cD_value_no l hP (xs (6 * t + 1)) hp) (cwV 1 hts gL_47 rfl rfl rfl (by decide +kernel) (rmF hR (by decide) (by decide))) (kP_V C (va_recv C.2.2.2.2.1 hP (ci := ciD) (q0 := 0) rfl rfl)) rfl rfl hl.1 rfl (lv_room (Nat.le_of_ble_eq_true rfl)) dL_law_355 ⟨by show _ ≤ 600000; omega, by show _ ≤ 7302249; omega⟩) ?_
    refine lv_aload_n hx hb dL_law_358 rfl (lv_at hl 2 rfl) ?_
    refine lv_aload_n hx hb dL_law_359 rfl (lv_at hl 0 rfl) ?_
    refine lv_iload_n hx hb dL_law_360 rfl (lv_at hl 3 rfl) ?_
    refine lv_iconst (v := nI 1) hx hb dL_law_361 (by decide) ?_
    refine lv_iadd hx hb dL_law_362 ?_
    refine tp_i (y := nI ((6 * t) + 1)) (nI_add (6 * t) 1) ?_
    refine ldx hx hb hX hbl hS (by omega) hL3 dL_law_363 ?_
    refine pv (va_runV (As := [.int (xs ((6 * t) + 1))]) (rest := [.long ((0 : Int64))]) ⟨hx, hb, hml, hown, hts⟩ (cM_value_no l (dmP hP) (xs (6 * t + 1)) hp) (cwV 1 hts gL_51 rfl rfl rfl (by decide +kernel) (rmF hR (by decide) (by decide))) (kP_V C (va_recv C.2.2.2.2.1 (dmP hP) (ci := ciM) (q0 := 0) rfl rfl)) rfl rfl hl.1 rfl (lv_room (Nat.le_of_ble_eq_true rfl)) dL_law_364 ⟨by show _ ≤ 600000; omega, by show _ ≤ 7302249; omega⟩) ?_
    refine W.lcmp hx hb dL_law_367 ?_
    refine lv_if_eq (tgt := 430) hx hb dL_law_368 (by decide) (fun c9 => ?_) (fun c9 => ?_)
    · have c9 : ((0 : Int64)) = ((0 : Int64)) := (lg_cmp_eq ((0 : Int64)) ((0 : Int64))).mp c9
      exact kk (Lh) hP hD hS (lv_sub hl [0, 1, 2, 3] rfl) (by omega) (by omega)
    · have c9 : ¬ ((0 : Int64)) = ((0 : Int64)) := fun z9 => c9 ((lg_cmp_eq ((0 : Int64)) ((0 : Int64))).mpr z9)
      exact absurd (rfl) c9
  | true =>
    obtain ⟨g, hg, eg⟩ := isP_of hp
    refine lv_aload_n hx hb dL_law_349 rfl (lv_at hl 1 rfl) ?_
    refine lv_aload_n hx hb dL_law_350 rfl (lv_at hl 0 rfl) ?_
    refine lv_iload_n hx hb dL_law_351 rfl (lv_at hl 3 rfl) ?_
    refine lv_iconst (v := nI 1) hx hb dL_law_352 (by decide) ?_
    refine lv_iadd hx hb dL_law_353 ?_
    refine tp_i (y := nI ((6 * t) + 1)) (nI_add (6 * t) 1) ?_
    refine ldx hx hb hX hbl hS (by omega) hL3 dL_law_354 ?_
    refine tp_i (y := nI g) (eg) ?_
    refine pv (va_runV (As := [.int (nI g)]) (rest := []) ⟨hx, hb, hml, hown, hts⟩ (cD_value l hP hg) (cwV 1 hts gL_47 rfl rfl rfl (by decide +kernel) (rmF hR (by decide) (by decide))) (kP_V C (va_recv C.2.2.2.2.1 hP (ci := ciD) (q0 := 0) rfl rfl)) rfl rfl hl.1 rfl (lv_room (Nat.le_of_ble_eq_true rfl)) dL_law_355 ⟨by show _ ≤ 600000; omega, by show _ ≤ 7302249; omega⟩) ?_
    refine lv_aload_n hx hb dL_law_358 rfl (lv_at hl 2 rfl) ?_
    refine lv_aload_n hx hb dL_law_359 rfl (lv_at hl 0 rfl) ?_
    refine lv_iload_n hx hb dL_law_360 rfl (lv_at hl 3 rfl) ?_
    refine lv_iconst (v := nI 1) hx hb dL_law_361 (by decide) ?_
    refine lv_iadd hx hb dL_law_362 ?_
    refine tp_i (y := nI ((6 * t) + 1)) (nI_add (6 * t) 1) ?_
    refine ldx hx hb hX hbl hS (by omega) hL3 dL_law_363 ?_
    refine tp_i (y := nI g) (eg) ?_
    refine pv (va_runV (As := [.int (nI g)]) (rest := [.long (va g)]) ⟨hx, hb, hml, hown, hts⟩ (cM_value l (dmP hP) hg) (cwV 1 hts gL_51 rfl rfl rfl (by decide +kernel) (rmF hR (by decide) (by decide))) (kP_V C (va_recv C.2.2.2.2.1 (dmP hP) (ci := ciM) (q0 := 0) rfl rfl)) rfl rfl hl.1 rfl (lv_room (Nat.le_of_ble_eq_true rfl)) dL_law_364 ⟨by show _ ≤ 600000; omega, by show _ ≤ 7302249; omega⟩) ?_
    refine W.lcmp hx hb dL_law_367 ?_
    refine lv_if_eq (tgt := 430) hx hb dL_law_368 (by decide) (fun c9 => ?_) (fun c9 => ?_)
    · have c9 : (va g) = (va' g) := (lg_cmp_eq (va g) (va' g)).mp c9
      exact kk (Lh) hP hD hS (lv_sub hl [0, 1, 2, 3] rfl) (by omega) (by omega)
    · have c9 : ¬ (va g) = (va' g) := fun z9 => c9 ((lg_cmp_eq (va g) (va' g)).mpr z9)
      exact absurd ((Lh.2.2.2.1 g hg).1) c9
set_option maxHeartbeats 1000000 in
set_option maxRecDepth 100000 in
theorem law_in (G : lC D K p s m c b L xs) (ht : 6 * t + 6 ≤ L) (Lh : LI va fl n tc sc T S us ps am va' fl' th ch mn po an) (hP : va_P D vwCl (dW (mW [] o' K va' fl' n th ch mn po an) o K ad va fl af bl n tc sc T S us ps am) H) (hD : va_D (fun q => s.heap.size ≤ q) (dW (mW [] o' K va' fl' n th ch mn po an) o K ad va fl af bl n tc sc T S us ps am)) (hS : va_S (fun q => s.heap.size ≤ q) s.heap H locs) (hl : lv_has ls 4 [(0, .ref b), (1, .ref (o 0)), (2, .ref (o' 0)), (3, .int (nI (6 * t)))]) (hc : cells ≤ 20 + 3 * t) (hs : slots ≤ 20000 + 37 * t) (kk : LK p l e s m below meth c b t Q D K o o' 430 3 37) : W p l e room_1 s m #[Value.ref b] below meth c H locs cells slots Q (F0 m 313 ls []) := by
  obtain ⟨C, hml, hX, hbl, hL3⟩ := G
  have hx := C.1
  have hb := C.2.1
  have hown := C.2.2.1
  have hts := C.2.2.2.1
  have hR : rmOk room_1 8 0 0 := ⟨by decide, by decide, Nat.zero_le _, Nat.zero_le _⟩
  have hn200 : n ≤ 200 := Lh.1.1
  have hTt : ∀ i, i < n → T i = th i := fun i hi => (Lh.2.2.2.2.1 i hi).1
  rcases pk_ix (xs (6 * t + 1)) (n := n) (by omega) with h | h | ⟨i, hi, ei⟩
  · refine lv_aload_n hx hb dL_law_313 rfl (lv_at hl 1 rfl) ?_
    refine lv_aload_n hx hb dL_law_314 rfl (lv_at hl 0 rfl) ?_
    refine lv_iload_n hx hb dL_law_315 rfl (lv_at hl 3 rfl) ?_
    refine lv_iconst (v := nI 1) hx hb dL_law_316 (by decide) ?_
    refine lv_iadd hx hb dL_law_317 ?_
    refine tp_i (y := nI ((6 * t) + 1)) (nI_add (6 * t) 1) ?_
    refine ldx hx hb hX hbl hS (by omega) hL3 dL_law_318 ?_
    refine pv (va_runV (As := [.int (xs ((6 * t) + 1))]) (rest := []) ⟨hx, hb, hml, hown, hts⟩ (cD_in_no l hP (xs (6 * t + 1)) (Or.inl h)) (cwV 1 hts gL_39 rfl rfl rfl (by decide +kernel) (rmF hR (by decide) (by decide))) (kP_V C (va_recv C.2.2.2.2.1 hP (ci := ciD) (q0 := 0) rfl rfl)) rfl rfl hl.1 rfl (lv_room (Nat.le_of_ble_eq_true rfl)) dL_law_319 ⟨by show _ ≤ 600000; omega, by show _ ≤ 7302249; omega⟩) ?_
    refine lv_aload_n hx hb dL_law_322 rfl (lv_at hl 2 rfl) ?_
    refine lv_aload_n hx hb dL_law_323 rfl (lv_at hl 0 rfl) ?_
    refine lv_iload_n hx hb dL_law_324 rfl (lv_at hl 3 rfl) ?_
    refine lv_iconst (v := nI 1) hx hb dL_law_325 (by decide) ?_
    refine lv_iadd hx hb dL_law_326 ?_
    refine tp_i (y := nI ((6 * t) + 1)) (nI_add (6 * t) 1) ?_
    refine ldx hx hb hX hbl hS (by omega) hL3 dL_law_327 ?_
    refine pv (va_runV (As := [.int (xs ((6 * t) + 1))]) (rest := [.int (nI 0)]) ⟨hx, hb, hml, hown, hts⟩ (cM_in_no l (dmP hP) (xs (6 * t + 1)) (Or.inl h)) (cwV 1 hts gL_42 rfl rfl rfl (by decide +kernel) (rmF hR (by decide) (by decide))) (kP_V C (va_recv C.2.2.2.2.1 (dmP hP) (ci := ciM) (q0 := 0) rfl rfl)) rfl rfl hl.1 rfl (lv_room (Nat.le_of_ble_eq_true rfl)) dL_law_328 ⟨by show _ ≤ 600000; omega, by show _ ≤ 7302249; omega⟩) ?_
    refine lv_icmp_eq (tgt := 430) hx hb dL_law_331 (by decide) (fun c9 => ?_) (fun c9 => ?_)
    · exact kk (Lh) hP hD hS (lv_sub hl [0, 1, 2, 3] rfl) (by omega) (by omega)
    · exact absurd (rfl) c9
  · refine lv_aload_n hx hb dL_law_313 rfl (lv_at hl 1 rfl) ?_
    refine lv_aload_n hx hb dL_law_314 rfl (lv_at hl 0 rfl) ?_
    refine lv_iload_n hx hb dL_law_315 rfl (lv_at hl 3 rfl) ?_
    refine lv_iconst (v := nI 1) hx hb dL_law_316 (by decide) ?_
    refine lv_iadd hx hb dL_law_317 ?_
    refine tp_i (y := nI ((6 * t) + 1)) (nI_add (6 * t) 1) ?_
    refine ldx hx hb hX hbl hS (by omega) hL3 dL_law_318 ?_
    refine pv (va_runV (As := [.int (xs ((6 * t) + 1))]) (rest := []) ⟨hx, hb, hml, hown, hts⟩ (cD_in_no l hP (xs (6 * t + 1)) (Or.inr h)) (cwV 1 hts gL_39 rfl rfl rfl (by decide +kernel) (rmF hR (by decide) (by decide))) (kP_V C (va_recv C.2.2.2.2.1 hP (ci := ciD) (q0 := 0) rfl rfl)) rfl rfl hl.1 rfl (lv_room (Nat.le_of_ble_eq_true rfl)) dL_law_319 ⟨by show _ ≤ 600000; omega, by show _ ≤ 7302249; omega⟩) ?_
    refine lv_aload_n hx hb dL_law_322 rfl (lv_at hl 2 rfl) ?_
    refine lv_aload_n hx hb dL_law_323 rfl (lv_at hl 0 rfl) ?_
    refine lv_iload_n hx hb dL_law_324 rfl (lv_at hl 3 rfl) ?_
    refine lv_iconst (v := nI 1) hx hb dL_law_325 (by decide) ?_
    refine lv_iadd hx hb dL_law_326 ?_
    refine tp_i (y := nI ((6 * t) + 1)) (nI_add (6 * t) 1) ?_
    refine ldx hx hb hX hbl hS (by omega) hL3 dL_law_327 ?_
    rcases pk_ix (xs (6 * t + 1)) (n := 200) (by omega) with h2 | h2 | ⟨i, hi, ei⟩
    · refine pv (va_runV (As := [.int (xs ((6 * t) + 1))]) (rest := [.int (nI 0)]) ⟨hx, hb, hml, hown, hts⟩ (cM_in_no l (dmP hP) (xs (6 * t + 1)) (Or.inl h2)) (cwV 1 hts gL_42 rfl rfl rfl (by decide +kernel) (rmF hR (by decide) (by decide))) (kP_V C (va_recv C.2.2.2.2.1 (dmP hP) (ci := ciM) (q0 := 0) rfl rfl)) rfl rfl hl.1 rfl (lv_room (Nat.le_of_ble_eq_true rfl)) dL_law_328 ⟨by show _ ≤ 600000; omega, by show _ ≤ 7302249; omega⟩) ?_
      refine lv_icmp_eq (tgt := 430) hx hb dL_law_331 (by decide) (fun c9 => ?_) (fun c9 => ?_)
      · exact kk (Lh) hP hD hS (lv_sub hl [0, 1, 2, 3] rfl) (by omega) (by omega)
      · exact absurd (rfl) c9
    · refine pv (va_runV (As := [.int (xs ((6 * t) + 1))]) (rest := [.int (nI 0)]) ⟨hx, hb, hml, hown, hts⟩ (cM_in_no l (dmP hP) (xs (6 * t + 1)) (Or.inr h2)) (cwV 1 hts gL_42 rfl rfl rfl (by decide +kernel) (rmF hR (by decide) (by decide))) (kP_V C (va_recv C.2.2.2.2.1 (dmP hP) (ci := ciM) (q0 := 0) rfl rfl)) rfl rfl hl.1 rfl (lv_room (Nat.le_of_ble_eq_true rfl)) dL_law_328 ⟨by show _ ≤ 600000; omega, by show _ ≤ 7302249; omega⟩) ?_
      refine lv_icmp_eq (tgt := 430) hx hb dL_law_331 (by decide) (fun c9 => ?_) (fun c9 => ?_)
      · exact kk (Lh) hP hD hS (lv_sub hl [0, 1, 2, 3] rfl) (by omega) (by omega)
      · exact absurd (rfl) c9
    · have hni : n ≤ i := by
        rw [ei] at h
        exact (nI_leI (by omega) (by omega)).mp h
      refine tp_i (y := nI i) (ei) ?_
      refine pv (va_runV (As := [.int (nI i)]) (rest := [.int (nI 0)]) ⟨hx, hb, hml, hown, hts⟩ (cM_in l (dmP hP) hi) (cwV 1 hts gL_42 rfl rfl rfl (by decide +kernel) (rmF hR (by decide) (by decide))) (kP_V C (va_recv C.2.2.2.2.1 (dmP hP) (ci := ciM) (q0 := 0) rfl rfl)) rfl rfl hl.1 rfl (lv_room (Nat.le_of_ble_eq_true rfl)) dL_law_328 ⟨by show _ ≤ 600000; omega, by show _ ≤ 7302249; omega⟩) ?_
      refine lv_icmp_eq (tgt := 430) hx hb dL_law_331 (by decide) (fun c9 => ?_) (fun c9 => ?_)
      · exact kk (Lh) hP hD hS (lv_sub hl [0, 1, 2, 3] rfl) (by omega) (by omega)
      · exact absurd (b0 (Lh.2.2.2.2.2 i hni).2.1) c9
  · refine lv_aload_n hx hb dL_law_313 rfl (lv_at hl 1 rfl) ?_
    refine lv_aload_n hx hb dL_law_314 rfl (lv_at hl 0 rfl) ?_
    refine lv_iload_n hx hb dL_law_315 rfl (lv_at hl 3 rfl) ?_
    refine lv_iconst (v := nI 1) hx hb dL_law_316 (by decide) ?_
    refine lv_iadd hx hb dL_law_317 ?_
    refine tp_i (y := nI ((6 * t) + 1)) (nI_add (6 * t) 1) ?_
    refine ldx hx hb hX hbl hS (by omega) hL3 dL_law_318 ?_
    refine tp_i (y := nI i) (ei) ?_
    refine pv (va_runV (As := [.int (nI i)]) (rest := []) ⟨hx, hb, hml, hown, hts⟩ (cD_in l hP hn200 hi) (cwV 1 hts gL_39 rfl rfl rfl (by decide +kernel) (rmF hR (by decide) (by decide))) (kP_V C (va_recv C.2.2.2.2.1 hP (ci := ciD) (q0 := 0) rfl rfl)) rfl rfl hl.1 rfl (lv_room (Nat.le_of_ble_eq_true rfl)) dL_law_319 ⟨by show _ ≤ 600000; omega, by show _ ≤ 7302249; omega⟩) ?_
    refine lv_aload_n hx hb dL_law_322 rfl (lv_at hl 2 rfl) ?_
    refine lv_aload_n hx hb dL_law_323 rfl (lv_at hl 0 rfl) ?_
    refine lv_iload_n hx hb dL_law_324 rfl (lv_at hl 3 rfl) ?_
    refine lv_iconst (v := nI 1) hx hb dL_law_325 (by decide) ?_
    refine lv_iadd hx hb dL_law_326 ?_
    refine tp_i (y := nI ((6 * t) + 1)) (nI_add (6 * t) 1) ?_
    refine ldx hx hb hX hbl hS (by omega) hL3 dL_law_327 ?_
    refine tp_i (y := nI i) (ei) ?_
    refine pv (va_runV (As := [.int (nI i)]) (rest := [.int (bI (S i))]) ⟨hx, hb, hml, hown, hts⟩ (cM_in l (dmP hP) (show i < 200 by omega)) (cwV 1 hts gL_42 rfl rfl rfl (by decide +kernel) (rmF hR (by decide) (by decide))) (kP_V C (va_recv C.2.2.2.2.1 (dmP hP) (ci := ciM) (q0 := 0) rfl rfl)) rfl rfl hl.1 rfl (lv_room (Nat.le_of_ble_eq_true rfl)) dL_law_328 ⟨by show _ ≤ 600000; omega, by show _ ≤ 7302249; omega⟩) ?_
    refine lv_icmp_eq (tgt := 430) hx hb dL_law_331 (by decide) (fun c9 => ?_) (fun c9 => ?_)
    · exact kk (Lh) hP hD hS (lv_sub hl [0, 1, 2, 3] rfl) (by omega) (by omega)
    · exact absurd (congrArg bI (Lh.2.2.2.2.1 i hi).2.1) c9
set_option maxHeartbeats 1000000 in
set_option maxRecDepth 100000 in
theorem law_go (G : lC D K p s m c b L xs) (ht : 6 * t + 6 ≤ L) (Lh : LI va fl n tc sc T S us ps am va' fl' th ch mn po an) (hP : va_P D vwCl (dW (mW [] o' K va' fl' n th ch mn po an) o K ad va fl af bl n tc sc T S us ps am) H) (hD : va_D (fun q => s.heap.size ≤ q) (dW (mW [] o' K va' fl' n th ch mn po an) o K ad va fl af bl n tc sc T S us ps am)) (hS : va_S (fun q => s.heap.size ≤ q) s.heap H locs) (hl : lv_has ls 4 [(0, .ref b), (1, .ref (o 0)), (2, .ref (o' 0)), (3, .int (nI (6 * t)))]) (hc : cells ≤ 20 + 3 * t) (hs : slots ≤ 20000 + 37 * t) (kk : LK p l e s m below meth c b t Q D K o o' 430 3 37) : W p l e room_1 s m #[Value.ref b] below meth c H locs cells slots Q (F0 m 277 ls []) := by
  obtain ⟨C, hml, hX, hbl, hL3⟩ := G
  have hx := C.1
  have hb := C.2.1
  have hown := C.2.2.1
  have hts := C.2.2.2.1
  have hR : rmOk room_1 8 0 0 := ⟨by decide, by decide, Nat.zero_le _, Nat.zero_le _⟩
  have hn200 : n ≤ 200 := Lh.1.1
  have hTt : ∀ i, i < n → T i = th i := fun i hi => (Lh.2.2.2.2.1 i hi).1
  rcases nT_or n T hn200 (xs (6 * t + 1)) with h | ⟨i, hi, ei, hT⟩
  · refine lv_aload_n hx hb dL_law_277 rfl (lv_at hl 1 rfl) ?_
    refine lv_aload_n hx hb dL_law_278 rfl (lv_at hl 0 rfl) ?_
    refine lv_iload_n hx hb dL_law_279 rfl (lv_at hl 3 rfl) ?_
    refine lv_iconst (v := nI 1) hx hb dL_law_280 (by decide) ?_
    refine lv_iadd hx hb dL_law_281 ?_
    refine tp_i (y := nI ((6 * t) + 1)) (nI_add (6 * t) 1) ?_
    refine ldx hx hb hX hbl hS (by omega) hL3 dL_law_282 ?_
    refine pv (va_runV (As := [.int (xs ((6 * t) + 1))]) (rest := []) ⟨hx, hb, hml, hown, hts⟩ (cD_go_no l hP hn200 (xs (6 * t + 1)) h) (cwV 1 hts gL_30 rfl rfl rfl (by decide +kernel) (rmF hR (by decide) (by decide))) (kP_V C (va_recv C.2.2.2.2.1 hP (ci := ciD) (q0 := 0) rfl rfl)) rfl rfl hl.1 rfl (lv_room (Nat.le_of_ble_eq_true rfl)) dL_law_283 ⟨by show _ ≤ 600000; omega, by show _ ≤ 7302249; omega⟩) ?_
    refine lv_aload_n hx hb dL_law_286 rfl (lv_at hl 2 rfl) ?_
    refine lv_aload_n hx hb dL_law_287 rfl (lv_at hl 0 rfl) ?_
    refine lv_iload_n hx hb dL_law_288 rfl (lv_at hl 3 rfl) ?_
    refine lv_iconst (v := nI 1) hx hb dL_law_289 (by decide) ?_
    refine lv_iadd hx hb dL_law_290 ?_
    refine tp_i (y := nI ((6 * t) + 1)) (nI_add (6 * t) 1) ?_
    refine ldx hx hb hX hbl hS (by omega) hL3 dL_law_291 ?_
    refine pv (va_runV (As := [.int (xs ((6 * t) + 1))]) (rest := [.int (nI 0)]) ⟨hx, hb, hml, hown, hts⟩ (cM_go_no l (dmP hP) hn200 (xs (6 * t + 1)) (nT_congr hTt h)) (cwV 1 hts gL_34 rfl rfl rfl (by decide +kernel) (rmF hR (by decide) (by decide))) (kP_V C (va_recv C.2.2.2.2.1 (dmP hP) (ci := ciM) (q0 := 0) rfl rfl)) rfl rfl hl.1 rfl (lv_room (Nat.le_of_ble_eq_true rfl)) dL_law_292 ⟨by show _ ≤ 600000; omega, by show _ ≤ 7302249; omega⟩) ?_
    refine lv_icmp_eq (tgt := 430) hx hb dL_law_295 (by decide) (fun c9 => ?_) (fun c9 => ?_)
    · exact kk (Lh) hP hD hS (lv_sub hl [0, 1, 2, 3] rfl) (by omega) (by omega)
    · exact absurd (rfl) c9
  · have htc : 0 < tc := by
      rw [Lh.2.1]
      exact cn_pos hi hT
    refine lv_aload_n hx hb dL_law_277 rfl (lv_at hl 1 rfl) ?_
    refine lv_aload_n hx hb dL_law_278 rfl (lv_at hl 0 rfl) ?_
    refine lv_iload_n hx hb dL_law_279 rfl (lv_at hl 3 rfl) ?_
    refine lv_iconst (v := nI 1) hx hb dL_law_280 (by decide) ?_
    refine lv_iadd hx hb dL_law_281 ?_
    refine tp_i (y := nI ((6 * t) + 1)) (nI_add (6 * t) 1) ?_
    refine ldx hx hb hX hbl hS (by omega) hL3 dL_law_282 ?_
    refine tp_i (y := nI i) (ei) ?_
    refine wi (va_runV (As := [.int (nI i)]) (rest := []) ⟨hx, hb, hml, hown, hts⟩ (cD_go l hP hD hn200 hi hT htc) (cwV 1 hts gL_30 rfl rfl rfl (by decide +kernel) (rmF hR (by decide) (by decide))) (kP_V C (va_recv C.2.2.2.2.1 hP (ci := ciD) (q0 := 0) rfl rfl)) rfl rfl hl.1 rfl (lv_room (Nat.le_of_ble_eq_true rfl)) dL_law_283 ⟨by show _ ≤ 600000; omega, by show _ ≤ 7302249; omega⟩) hS (fun r _ H locs hq hP hD hS => ?_)
    subst hq
    refine lv_aload_n hx hb dL_law_286 rfl (lv_at hl 2 rfl) ?_
    refine lv_aload_n hx hb dL_law_287 rfl (lv_at hl 0 rfl) ?_
    refine lv_iload_n hx hb dL_law_288 rfl (lv_at hl 3 rfl) ?_
    refine lv_iconst (v := nI 1) hx hb dL_law_289 (by decide) ?_
    refine lv_iadd hx hb dL_law_290 ?_
    refine tp_i (y := nI ((6 * t) + 1)) (nI_add (6 * t) 1) ?_
    refine ldx hx hb hX hbl hS (by omega) hL3 dL_law_291 ?_
    refine tp_i (y := nI i) (ei) ?_
    refine wi (va_runV (As := [.int (nI i)]) (rest := [.int (nI 1)]) ⟨hx, hb, hml, hown, hts⟩ (cM_go l (dmP hP) (dmD hD) hn200 hi (by rw [← hTt i hi]; exact hT)) (cwV 1 hts gL_34 rfl rfl rfl (by decide +kernel) (rmF hR (by decide) (by decide))) (kP_V C (va_recv C.2.2.2.2.1 (dmP hP) (ci := ciM) (q0 := 0) rfl rfl)) rfl rfl hl.1 rfl (lv_room (Nat.le_of_ble_eq_true rfl)) dL_law_292 ⟨by show _ ≤ 600000; omega, by show _ ≤ 7302249; omega⟩) hS (fun r _ H locs hq hP hD hS => ?_)
    subst hq
    have hP := mdP hP
    have hD := mdD hD
    refine lv_icmp_eq (tgt := 430) hx hb dL_law_295 (by decide) (fun c9 => ?_) (fun c9 => ?_)
    · exact kk (LI_go Lh hi hT) hP hD hS (lv_sub hl [0, 1, 2, 3] rfl) (by omega) (by omega)
    · exact absurd (rfl) c9
set_option maxHeartbeats 1000000 in
set_option maxRecDepth 100000 in
theorem law_item (G : lC D K p s m c b L xs) (ht : 6 * t + 6 ≤ L) (Lh : LI va fl n tc sc T S us ps am va' fl' th ch mn po an) (hP : va_P D vwCl (dW (mW [] o' K va' fl' n th ch mn po an) o K ad va fl af bl n tc sc T S us ps am) H) (hD : va_D (fun q => s.heap.size ≤ q) (dW (mW [] o' K va' fl' n th ch mn po an) o K ad va fl af bl n tc sc T S us ps am)) (hS : va_S (fun q => s.heap.size ≤ q) s.heap H locs) (hl : lv_has ls 4 [(0, .ref b), (1, .ref (o 0)), (2, .ref (o' 0)), (3, .int (nI (6 * t)))]) (hc : cells ≤ 20 + 3 * t) (hs : slots ≤ 20000 + 37 * t) (kk : LK p l e s m below meth c b t Q D K o o' 430 3 37) : W p l e room_1 s m #[Value.ref b] below meth c H locs cells slots Q (F0 m 191 ls []) := by
  obtain ⟨C, hml, hX, hbl, hL3⟩ := G
  have hx := C.1
  have hb := C.2.1
  have hown := C.2.2.1
  have hts := C.2.2.2.1
  have hR : rmOk room_1 8 0 0 := ⟨by decide, by decide, Nat.zero_le _, Nat.zero_le _⟩
  have hn200 : n ≤ 200 := Lh.1.1
  have hTt : ∀ i, i < n → T i = th i := fun i hi => (Lh.2.2.2.2.1 i hi).1
  by_cases hn : n < 200
  · refine lv_aload_n hx hb dL_law_191 rfl (lv_at hl 1 rfl) ?_
    refine wi (va_runV (As := []) (rest := []) ⟨hx, hb, hml, hown, hts⟩ (cD_item l hP hD (fun q h9 => Nat.le_trans hS.1 h9) hn) (cwV 0 hts gL_20 rfl rfl rfl (by decide +kernel) (rmF hR (by decide) (by decide))) (kP_V C (va_recv C.2.2.2.2.1 hP (ci := ciD) (q0 := 0) rfl rfl)) rfl rfl hl.1 rfl (lv_room (Nat.le_of_ble_eq_true rfl)) dL_law_192 ⟨by show _ ≤ 600000; omega, by show _ ≤ 7302249; omega⟩) hS (fun r u H locs hq hP hD hS => ?_)
    subst hq
    refine lv_aload_n hx hb dL_law_195 rfl (lv_at hl 2 rfl) ?_
    refine wi (va_runV (As := []) (rest := [.int (nI n)]) ⟨hx, hb, hml, hown, hts⟩ (cM_item l (dmP hP) (dmD hD) hn) (cwV 0 hts gL_24 rfl rfl rfl (by decide +kernel) (rmF hR (by decide) (by decide))) (kP_V C (va_recv C.2.2.2.2.1 (dmP hP) (ci := ciM) (q0 := 0) rfl rfl)) rfl rfl hl.1 rfl (lv_room (Nat.le_of_ble_eq_true rfl)) dL_law_196 ⟨by show _ ≤ 600000; omega, by show _ ≤ 7302249; omega⟩) hS (fun r _ H locs hq hP hD hS => ?_)
    subst hq
    have hP := mdP hP
    have hD := mdD hD
    refine lv_icmp_eq (tgt := 430) hx hb dL_law_199 (by decide) (fun c9 => ?_) (fun c9 => ?_)
    · exact kk (LI_item Lh hn) hP hD hS (lv_sub hl [0, 1, 2, 3] rfl) (by omega) (by omega)
    · exact absurd (rfl) c9
  · refine lv_aload_n hx hb dL_law_191 rfl (lv_at hl 1 rfl) ?_
    refine pv (va_runV (As := []) (rest := []) ⟨hx, hb, hml, hown, hts⟩ (cD_item_no l hP (by omega) hn200) (cwV 0 hts gL_20 rfl rfl rfl (by decide +kernel) (rmF hR (by decide) (by decide))) (kP_V C (va_recv C.2.2.2.2.1 hP (ci := ciD) (q0 := 0) rfl rfl)) rfl rfl hl.1 rfl (lv_room (Nat.le_of_ble_eq_true rfl)) dL_law_192 ⟨by show _ ≤ 600000; omega, by show _ ≤ 7302249; omega⟩) ?_
    refine lv_aload_n hx hb dL_law_195 rfl (lv_at hl 2 rfl) ?_
    refine pv (va_runV (As := []) (rest := [.int (-1)]) ⟨hx, hb, hml, hown, hts⟩ (cM_item_no l (dmP hP) (by omega)) (cwV 0 hts gL_24 rfl rfl rfl (by decide +kernel) (rmF hR (by decide) (by decide))) (kP_V C (va_recv C.2.2.2.2.1 (dmP hP) (ci := ciM) (q0 := 0) rfl rfl)) rfl rfl hl.1 rfl (lv_room (Nat.le_of_ble_eq_true rfl)) dL_law_196 ⟨by show _ ≤ 600000; omega, by show _ ≤ 7302249; omega⟩) ?_
    refine lv_icmp_eq (tgt := 430) hx hb dL_law_199 (by decide) (fun c9 => ?_) (fun c9 => ?_)
    · exact kk (Lh) hP hD hS (lv_sub hl [0, 1, 2, 3] rfl) (by omega) (by omega)
    · exact absurd (rfl) c9
set_option maxHeartbeats 1000000 in
set_option maxRecDepth 100000 in
theorem law_netOf (G : lC D K p s m c b L xs) (ht : 6 * t + 6 ≤ L) (Lh : LI va fl n tc sc T S us ps am va' fl' th ch mn po an) (hP : va_P D vwCl (dW (mW [] o' K va' fl' n th ch mn po an) o K ad va fl af bl n tc sc T S us ps am) H) (hD : va_D (fun q => s.heap.size ≤ q) (dW (mW [] o' K va' fl' n th ch mn po an) o K ad va fl af bl n tc sc T S us ps am)) (hS : va_S (fun q => s.heap.size ≤ q) s.heap H locs) (hl : lv_has ls 4 [(0, .ref b), (1, .ref (o 0)), (2, .ref (o' 0)), (3, .int (nI (6 * t)))]) (hc : cells ≤ 20 + 3 * t) (hs : slots ≤ 20000 + 37 * t) (kk : LK p l e s m below meth c b t Q D K o o' 430 3 37) : W p l e room_1 s m #[Value.ref b] below meth c H locs cells slots Q (F0 m 373 ls []) := by
  obtain ⟨C, hml, hX, hbl, hL3⟩ := G
  have hx := C.1
  have hb := C.2.1
  have hown := C.2.2.1
  have hts := C.2.2.2.1
  have hR : rmOk room_1 8 0 0 := ⟨by decide, by decide, Nat.zero_le _, Nat.zero_le _⟩
  have hn200 : n ≤ 200 := Lh.1.1
  have hTt : ∀ i, i < n → T i = th i := fun i hi => (Lh.2.2.2.2.1 i hi).1
  rcases nT_or n T hn200 (xs (6 * t + 1)) with h | ⟨i, hi, ei, hT⟩
  · refine lv_aload_n hx hb dL_law_373 rfl (lv_at hl 1 rfl) ?_
    refine lv_aload_n hx hb dL_law_374 rfl (lv_at hl 0 rfl) ?_
    refine lv_iload_n hx hb dL_law_375 rfl (lv_at hl 3 rfl) ?_
    refine lv_iconst (v := nI 1) hx hb dL_law_376 (by decide) ?_
    refine lv_iadd hx hb dL_law_377 ?_
    refine tp_i (y := nI ((6 * t) + 1)) (nI_add (6 * t) 1) ?_
    refine ldx hx hb hX hbl hS (by omega) hL3 dL_law_378 ?_
    refine lv_aload_n hx hb dL_law_379 rfl (lv_at hl 0 rfl) ?_
    refine lv_iload_n hx hb dL_law_380 rfl (lv_at hl 3 rfl) ?_
    refine lv_iconst (v := nI 2) hx hb dL_law_381 (by decide) ?_
    refine lv_iadd hx hb dL_law_382 ?_
    refine tp_i (y := nI ((6 * t) + 2)) (nI_add (6 * t) 2) ?_
    refine ldx hx hb hX hbl hS (by omega) hL3 dL_law_383 ?_
    refine pv (va_runV (As := [.int (xs ((6 * t) + 1)), .int (xs ((6 * t) + 2))]) (rest := []) ⟨hx, hb, hml, hown, hts⟩ (cD_netOf_no l hP hn200 (xs (6 * t + 1)) (xs (6 * t + 2)) h) (cwV 2 hts gL_52 rfl rfl rfl (by decide +kernel) (rmF hR (by decide) (by decide))) (kP_V C (va_recv C.2.2.2.2.1 hP (ci := ciD) (q0 := 0) rfl rfl)) rfl rfl hl.1 rfl (lv_room (Nat.le_of_ble_eq_true rfl)) dL_law_384 ⟨by show _ ≤ 600000; omega, by show _ ≤ 7302249; omega⟩) ?_
    refine lv_aload_n hx hb dL_law_387 rfl (lv_at hl 2 rfl) ?_
    refine lv_aload_n hx hb dL_law_388 rfl (lv_at hl 0 rfl) ?_
    refine lv_iload_n hx hb dL_law_389 rfl (lv_at hl 3 rfl) ?_
    refine lv_iconst (v := nI 1) hx hb dL_law_390 (by decide) ?_
    refine lv_iadd hx hb dL_law_391 ?_
    refine tp_i (y := nI ((6 * t) + 1)) (nI_add (6 * t) 1) ?_
    refine ldx hx hb hX hbl hS (by omega) hL3 dL_law_392 ?_
    refine lv_aload_n hx hb dL_law_393 rfl (lv_at hl 0 rfl) ?_
    refine lv_iload_n hx hb dL_law_394 rfl (lv_at hl 3 rfl) ?_
    refine lv_iconst (v := nI 2) hx hb dL_law_395 (by decide) ?_
    refine lv_iadd hx hb dL_law_396 ?_
    refine tp_i (y := nI ((6 * t) + 2)) (nI_add (6 * t) 2) ?_
    refine ldx hx hb hX hbl hS (by omega) hL3 dL_law_397 ?_
    refine pv (va_runV (As := [.int (xs ((6 * t) + 1)), .int (xs ((6 * t) + 2))]) (rest := [.long ((0 : Int64))]) ⟨hx, hb, hml, hown, hts⟩ (cM_netOf_no l (dmP hP) hn200 (xs (6 * t + 1)) (xs (6 * t + 2)) (nT_congr hTt h)) (cwV 2 hts gL_56 rfl rfl rfl (by decide +kernel) (rmF hR (by decide) (by decide))) (kP_V C (va_recv C.2.2.2.2.1 (dmP hP) (ci := ciM) (q0 := 0) rfl rfl)) rfl rfl hl.1 rfl (lv_room (Nat.le_of_ble_eq_true rfl)) dL_law_398 ⟨by show _ ≤ 600000; omega, by show _ ≤ 7302249; omega⟩) ?_
    refine W.lcmp hx hb dL_law_401 ?_
    refine lv_if_eq (tgt := 430) hx hb dL_law_402 (by decide) (fun c9 => ?_) (fun c9 => ?_)
    · have c9 : ((0 : Int64)) = ((0 : Int64)) := (lg_cmp_eq ((0 : Int64)) ((0 : Int64))).mp c9
      exact kk (Lh) hP hD hS (lv_sub hl [0, 1, 2, 3] rfl) (by omega) (by omega)
    · have c9 : ¬ ((0 : Int64)) = ((0 : Int64)) := fun z9 => c9 ((lg_cmp_eq ((0 : Int64)) ((0 : Int64))).mpr z9)
      exact absurd (rfl) c9
  · have hth : th i = true := by
      rw [← hTt i hi]
      exact hT
    have hok := Lh.1.2.1 i hi
    have hag := (Lh.2.2.2.2.1 i hi).2.2
    have hok2 := ag_ok hag hok
    refine lv_aload_n hx hb dL_law_373 rfl (lv_at hl 1 rfl) ?_
    refine lv_aload_n hx hb dL_law_374 rfl (lv_at hl 0 rfl) ?_
    refine lv_iload_n hx hb dL_law_375 rfl (lv_at hl 3 rfl) ?_
    refine lv_iconst (v := nI 1) hx hb dL_law_376 (by decide) ?_
    refine lv_iadd hx hb dL_law_377 ?_
    refine tp_i (y := nI ((6 * t) + 1)) (nI_add (6 * t) 1) ?_
    refine ldx hx hb hX hbl hS (by omega) hL3 dL_law_378 ?_
    refine tp_i (y := nI i) (ei) ?_
    refine lv_aload_n hx hb dL_law_379 rfl (lv_at hl 0 rfl) ?_
    refine lv_iload_n hx hb dL_law_380 rfl (lv_at hl 3 rfl) ?_
    refine lv_iconst (v := nI 2) hx hb dL_law_381 (by decide) ?_
    refine lv_iadd hx hb dL_law_382 ?_
    refine tp_i (y := nI ((6 * t) + 2)) (nI_add (6 * t) 2) ?_
    refine ldx hx hb hX hbl hS (by omega) hL3 dL_law_383 ?_
    cases hp : isP (xs (6 * t + 2)) with
    | false =>
      refine pv (va_runV (As := [.int (nI i), .int (xs ((6 * t) + 2))]) (rest := []) ⟨hx, hb, hml, hown, hts⟩ (cD_netOf l hP hn200 hi hT hok.1 (xs (6 * t + 2))) (cwV 2 hts gL_52 rfl rfl rfl (by decide +kernel) (rmF hR (by decide) (by decide))) (kP_V C (va_recv C.2.2.2.2.1 hP (ci := ciD) (q0 := 0) rfl rfl)) rfl rfl hl.1 rfl (lv_room (Nat.le_of_ble_eq_true rfl)) dL_law_384 ⟨by show _ ≤ 600000; omega, by show _ ≤ 7302249; omega⟩) ?_
      refine lv_aload_n hx hb dL_law_387 rfl (lv_at hl 2 rfl) ?_
      refine lv_aload_n hx hb dL_law_388 rfl (lv_at hl 0 rfl) ?_
      refine lv_iload_n hx hb dL_law_389 rfl (lv_at hl 3 rfl) ?_
      refine lv_iconst (v := nI 1) hx hb dL_law_390 (by decide) ?_
      refine lv_iadd hx hb dL_law_391 ?_
      refine tp_i (y := nI ((6 * t) + 1)) (nI_add (6 * t) 1) ?_
      refine ldx hx hb hX hbl hS (by omega) hL3 dL_law_392 ?_
      refine tp_i (y := nI i) (ei) ?_
      refine lv_aload_n hx hb dL_law_393 rfl (lv_at hl 0 rfl) ?_
      refine lv_iload_n hx hb dL_law_394 rfl (lv_at hl 3 rfl) ?_
      refine lv_iconst (v := nI 2) hx hb dL_law_395 (by decide) ?_
      refine lv_iadd hx hb dL_law_396 ?_
      refine tp_i (y := nI ((6 * t) + 2)) (nI_add (6 * t) 2) ?_
      refine ldx hx hb hX hbl hS (by omega) hL3 dL_law_397 ?_
      refine pv (va_runV (As := [.int (nI i), .int (xs ((6 * t) + 2))]) (rest := [.long (ntq (qx (ps i) (xs (6 * t + 2))) (us i) (am i))]) ⟨hx, hb, hml, hown, hts⟩ (cM_netOf_no2 l (dmP hP) hn200 hi hth (xs (6 * t + 2)) hp) (cwV 2 hts gL_56 rfl rfl rfl (by decide +kernel) (rmF hR (by decide) (by decide))) (kP_V C (va_recv C.2.2.2.2.1 (dmP hP) (ci := ciM) (q0 := 0) rfl rfl)) rfl rfl hl.1 rfl (lv_room (Nat.le_of_ble_eq_true rfl)) dL_law_398 ⟨by show _ ≤ 600000; omega, by show _ ≤ 7302249; omega⟩) ?_
      refine W.lcmp hx hb dL_law_401 ?_
      refine lv_if_eq (tgt := 430) hx hb dL_law_402 (by decide) (fun c9 => ?_) (fun c9 => ?_)
      · have c9 : (ntq (qx (ps i) (xs (6 * t + 2))) (us i) (am i)) = ((0 : Int64)) := (lg_cmp_eq (ntq (qx (ps i) (xs (6 * t + 2))) (us i) (am i)) ((0 : Int64))).mp c9
        exact kk (Lh) hP hD hS (lv_sub hl [0, 1, 2, 3] rfl) (by omega) (by omega)
      · have c9 : ¬ (ntq (qx (ps i) (xs (6 * t + 2))) (us i) (am i)) = ((0 : Int64)) := fun z9 => c9 ((lg_cmp_eq (ntq (qx (ps i) (xs (6 * t + 2))) (us i) (am i)) ((0 : Int64))).mpr z9)
        exact absurd (ntq_out hok.2.1 hp) c9
    | true =>
      obtain ⟨g, hg, eg⟩ := isP_of hp
      refine tp_i (y := nI g) (eg) ?_
      refine pv (va_runV (As := [.int (nI i), .int (nI g)]) (rest := []) ⟨hx, hb, hml, hown, hts⟩ (cD_netOf l hP hn200 hi hT hok.1 (nI g)) (cwV 2 hts gL_52 rfl rfl rfl (by decide +kernel) (rmF hR (by decide) (by decide))) (kP_V C (va_recv C.2.2.2.2.1 hP (ci := ciD) (q0 := 0) rfl rfl)) rfl rfl hl.1 rfl (lv_room (Nat.le_of_ble_eq_true rfl)) dL_law_384 ⟨by show _ ≤ 600000; omega, by show _ ≤ 7302249; omega⟩) ?_
      refine lv_aload_n hx hb dL_law_387 rfl (lv_at hl 2 rfl) ?_
      refine lv_aload_n hx hb dL_law_388 rfl (lv_at hl 0 rfl) ?_
      refine lv_iload_n hx hb dL_law_389 rfl (lv_at hl 3 rfl) ?_
      refine lv_iconst (v := nI 1) hx hb dL_law_390 (by decide) ?_
      refine lv_iadd hx hb dL_law_391 ?_
      refine tp_i (y := nI ((6 * t) + 1)) (nI_add (6 * t) 1) ?_
      refine ldx hx hb hX hbl hS (by omega) hL3 dL_law_392 ?_
      refine tp_i (y := nI i) (ei) ?_
      refine lv_aload_n hx hb dL_law_393 rfl (lv_at hl 0 rfl) ?_
      refine lv_iload_n hx hb dL_law_394 rfl (lv_at hl 3 rfl) ?_
      refine lv_iconst (v := nI 2) hx hb dL_law_395 (by decide) ?_
      refine lv_iadd hx hb dL_law_396 ?_
      refine tp_i (y := nI ((6 * t) + 2)) (nI_add (6 * t) 2) ?_
      refine ldx hx hb hX hbl hS (by omega) hL3 dL_law_397 ?_
      refine tp_i (y := nI g) (eg) ?_
      refine pv (va_runV (As := [.int (nI i), .int (nI g)]) (rest := [.long (ntq (qx (ps i) (nI g)) (us i) (am i))]) ⟨hx, hb, hml, hown, hts⟩ (cM_netOf l (dmP hP) hn200 hi hth hok2.1 hok2.2.1 hg) (cwV 2 hts gL_56 rfl rfl rfl (by decide +kernel) (rmF hR (by decide) (by decide))) (kP_V C (va_recv C.2.2.2.2.1 (dmP hP) (ci := ciM) (q0 := 0) rfl rfl)) rfl rfl hl.1 rfl (lv_room (Nat.le_of_ble_eq_true rfl)) dL_law_398 ⟨by show _ ≤ 600000; omega, by show _ ≤ 7302249; omega⟩) ?_
      refine W.lcmp hx hb dL_law_401 ?_
      refine lv_if_eq (tgt := 430) hx hb dL_law_402 (by decide) (fun c9 => ?_) (fun c9 => ?_)
      · have c9 : (ntq (qx (ps i) (nI g)) (us i) (am i)) = (netA mn po an i g) := (lg_cmp_eq (ntq (qx (ps i) (nI g)) (us i) (am i)) (netA mn po an i g)).mp c9
        exact kk (Lh) hP hD hS (lv_sub hl [0, 1, 2, 3] rfl) (by omega) (by omega)
      · have c9 : ¬ (ntq (qx (ps i) (nI g)) (us i) (am i)) = (netA mn po an i g) := fun z9 => c9 ((lg_cmp_eq (ntq (qx (ps i) (nI g)) (us i) (am i)) (netA mn po an i g)).mpr z9)
        exact absurd ((net_nt hag hok.2.1 hg).symm) c9
set_option maxHeartbeats 1000000 in
set_option maxRecDepth 100000 in
theorem law_net (G : lC D K p s m c b L xs) (ht : 6 * t + 6 ≤ L) (Lh : LI va fl n tc sc T S us ps am va' fl' th ch mn po an) (hP : va_P D vwCl (dW (mW [] o' K va' fl' n th ch mn po an) o K ad va fl af bl n tc sc T S us ps am) H) (hD : va_D (fun q => s.heap.size ≤ q) (dW (mW [] o' K va' fl' n th ch mn po an) o K ad va fl af bl n tc sc T S us ps am)) (hS : va_S (fun q => s.heap.size ≤ q) s.heap H locs) (hl : lv_has ls 4 [(0, .ref b), (1, .ref (o 0)), (2, .ref (o' 0)), (3, .int (nI (6 * t)))]) (hc : cells ≤ 20 + 3 * t) (hs : slots ≤ 20000 + 37 * t) (kk : LK p l e s m below meth c b t Q D K o o' 430 3 37) : W p l e room_1 s m #[Value.ref b] below meth c H locs cells slots Q (F0 m 204 ls []) := by
  obtain ⟨C, hml, hX, hbl, hL3⟩ := G
  have hx := C.1
  have hb := C.2.1
  have hown := C.2.2.1
  have hts := C.2.2.2.1
  have hR : rmOk room_1 8 0 0 := ⟨by decide, by decide, Nat.zero_le _, Nat.zero_le _⟩
  have hn200 : n ≤ 200 := Lh.1.1
  have hTt : ∀ i, i < n → T i = th i := fun i hi => (Lh.2.2.2.2.1 i hi).1
  rcases nT_or n T hn200 (xs (6 * t + 1)) with h | ⟨i, hi, ei, hT⟩
  · refine lv_aload_n hx hb dL_law_204 rfl (lv_at hl 1 rfl) ?_
    refine lv_aload_n hx hb dL_law_205 rfl (lv_at hl 0 rfl) ?_
    refine lv_iload_n hx hb dL_law_206 rfl (lv_at hl 3 rfl) ?_
    refine lv_iconst (v := nI 1) hx hb dL_law_207 (by decide) ?_
    refine lv_iadd hx hb dL_law_208 ?_
    refine tp_i (y := nI ((6 * t) + 1)) (nI_add (6 * t) 1) ?_
    refine ldx hx hb hX hbl hS (by omega) hL3 dL_law_209 ?_
    refine lv_aload_n hx hb dL_law_210 rfl (lv_at hl 0 rfl) ?_
    refine lv_iload_n hx hb dL_law_211 rfl (lv_at hl 3 rfl) ?_
    refine lv_iconst (v := nI 2) hx hb dL_law_212 (by decide) ?_
    refine lv_iadd hx hb dL_law_213 ?_
    refine tp_i (y := nI ((6 * t) + 2)) (nI_add (6 * t) 2) ?_
    refine ldx hx hb hX hbl hS (by omega) hL3 dL_law_214 ?_
    refine lv_aload_n hx hb dL_law_215 rfl (lv_at hl 0 rfl) ?_
    refine lv_iload_n hx hb dL_law_216 rfl (lv_at hl 3 rfl) ?_
    refine lv_iconst (v := nI 3) hx hb dL_law_217 (by decide) ?_
    refine lv_iadd hx hb dL_law_218 ?_
    refine tp_i (y := nI ((6 * t) + 3)) (nI_add (6 * t) 3) ?_
    refine ldx hx hb hX hbl hS (by omega) hL3 dL_law_219 ?_
    refine lv_i2l hx hb dL_law_220 rfl ?_
    refine lv_bipush (v := nI 32) hx hb dL_law_221 (by decide) ?_
    refine lv_lshl hx hb dL_law_223 rfl ?_
    refine lv_aload_n hx hb dL_law_224 rfl (lv_at hl 0 rfl) ?_
    refine lv_iload_n hx hb dL_law_225 rfl (lv_at hl 3 rfl) ?_
    refine lv_iconst (v := nI 4) hx hb dL_law_226 (by decide) ?_
    refine lv_iadd hx hb dL_law_227 ?_
    refine tp_i (y := nI ((6 * t) + 4)) (nI_add (6 * t) 4) ?_
    refine ldx hx hb hX hbl hS (by omega) hL3 dL_law_228 ?_
    refine lv_i2l hx hb dL_law_229 rfl ?_
    refine lv_ldc2 (v := 4294967295) hx hb hown (hts _ (by decide +kernel : Cond.constantLong RL 13 4294967295 ∈ tT)) dL_law_230 ?_
    refine lv_land hx hb dL_law_233 ?_
    refine lv_lor hx hb dL_law_234 ?_
    refine tp_l (y := lw2 (xs (6 * t + 3)) (xs (6 * t + 4))) (rfl) ?_
    refine pv (va_runV (As := [.int (xs ((6 * t) + 1)), .int (xs ((6 * t) + 2)), .long (lw2 (xs (6 * t + 3)) (xs (6 * t + 4)))]) (rest := []) ⟨hx, hb, hml, hown, hts⟩ (cD_net_no l hP hn200 (xs (6 * t + 1)) (xs (6 * t + 2)) (lw2 (xs (6 * t + 3)) (xs (6 * t + 4))) h) (cwV 3 hts gL_25 rfl rfl rfl (by decide +kernel) (rmF hR (by decide) (by decide))) (kP_V C (va_recv C.2.2.2.2.1 hP (ci := ciD) (q0 := 0) rfl rfl)) rfl rfl hl.1 rfl (lv_room (Nat.le_of_ble_eq_true rfl)) dL_law_235 ⟨by show _ ≤ 600000; omega, by show _ ≤ 7302249; omega⟩) ?_
    refine lv_aload_n hx hb dL_law_238 rfl (lv_at hl 2 rfl) ?_
    refine lv_aload_n hx hb dL_law_239 rfl (lv_at hl 0 rfl) ?_
    refine lv_iload_n hx hb dL_law_240 rfl (lv_at hl 3 rfl) ?_
    refine lv_iconst (v := nI 1) hx hb dL_law_241 (by decide) ?_
    refine lv_iadd hx hb dL_law_242 ?_
    refine tp_i (y := nI ((6 * t) + 1)) (nI_add (6 * t) 1) ?_
    refine ldx hx hb hX hbl hS (by omega) hL3 dL_law_243 ?_
    refine lv_aload_n hx hb dL_law_244 rfl (lv_at hl 0 rfl) ?_
    refine lv_iload_n hx hb dL_law_245 rfl (lv_at hl 3 rfl) ?_
    refine lv_iconst (v := nI 2) hx hb dL_law_246 (by decide) ?_
    refine lv_iadd hx hb dL_law_247 ?_
    refine tp_i (y := nI ((6 * t) + 2)) (nI_add (6 * t) 2) ?_
    refine ldx hx hb hX hbl hS (by omega) hL3 dL_law_248 ?_
    refine lv_aload_n hx hb dL_law_249 rfl (lv_at hl 0 rfl) ?_
    refine lv_iload_n hx hb dL_law_250 rfl (lv_at hl 3 rfl) ?_
    refine lv_iconst (v := nI 3) hx hb dL_law_251 (by decide) ?_
    refine lv_iadd hx hb dL_law_252 ?_
    refine tp_i (y := nI ((6 * t) + 3)) (nI_add (6 * t) 3) ?_
    refine ldx hx hb hX hbl hS (by omega) hL3 dL_law_253 ?_
    refine lv_i2l hx hb dL_law_254 rfl ?_
    refine lv_bipush (v := nI 32) hx hb dL_law_255 (by decide) ?_
    refine lv_lshl hx hb dL_law_257 rfl ?_
    refine lv_aload_n hx hb dL_law_258 rfl (lv_at hl 0 rfl) ?_
    refine lv_iload_n hx hb dL_law_259 rfl (lv_at hl 3 rfl) ?_
    refine lv_iconst (v := nI 4) hx hb dL_law_260 (by decide) ?_
    refine lv_iadd hx hb dL_law_261 ?_
    refine tp_i (y := nI ((6 * t) + 4)) (nI_add (6 * t) 4) ?_
    refine ldx hx hb hX hbl hS (by omega) hL3 dL_law_262 ?_
    refine lv_i2l hx hb dL_law_263 rfl ?_
    refine lv_ldc2 (v := 4294967295) hx hb hown (hts _ (by decide +kernel : Cond.constantLong RL 13 4294967295 ∈ tT)) dL_law_264 ?_
    refine lv_land hx hb dL_law_267 ?_
    refine lv_lor hx hb dL_law_268 ?_
    refine tp_l (y := lw2 (xs (6 * t + 3)) (xs (6 * t + 4))) (rfl) ?_
    refine pv (va_runV (As := [.int (xs ((6 * t) + 1)), .int (xs ((6 * t) + 2)), .long (lw2 (xs (6 * t + 3)) (xs (6 * t + 4)))]) (rest := [.int (nI 0)]) ⟨hx, hb, hml, hown, hts⟩ (cM_net_no l (dmP hP) hn200 (xs (6 * t + 1)) (xs (6 * t + 2)) (lw2 (xs (6 * t + 3)) (xs (6 * t + 4))) (nT_congr hTt h)) (cwV 3 hts gL_29 rfl rfl rfl (by decide +kernel) (rmF hR (by decide) (by decide))) (kP_V C (va_recv C.2.2.2.2.1 (dmP hP) (ci := ciM) (q0 := 0) rfl rfl)) rfl rfl hl.1 rfl (lv_room (Nat.le_of_ble_eq_true rfl)) dL_law_269 ⟨by show _ ≤ 600000; omega, by show _ ≤ 7302249; omega⟩) ?_
    refine lv_icmp_eq (tgt := 430) hx hb dL_law_272 (by decide) (fun c9 => ?_) (fun c9 => ?_)
    · exact kk (Lh) hP hD hS (lv_sub hl [0, 1, 2, 3] rfl) (by omega) (by omega)
    · exact absurd (rfl) c9
  · have hth : th i = true := by
      rw [← hTt i hi]
      exact hT
    have hok := Lh.1.2.1 i hi
    have hag := (Lh.2.2.2.2.1 i hi).2.2
    have hok2 := ag_ok hag hok
    refine lv_aload_n hx hb dL_law_204 rfl (lv_at hl 1 rfl) ?_
    refine lv_aload_n hx hb dL_law_205 rfl (lv_at hl 0 rfl) ?_
    refine lv_iload_n hx hb dL_law_206 rfl (lv_at hl 3 rfl) ?_
    refine lv_iconst (v := nI 1) hx hb dL_law_207 (by decide) ?_
    refine lv_iadd hx hb dL_law_208 ?_
    refine tp_i (y := nI ((6 * t) + 1)) (nI_add (6 * t) 1) ?_
    refine ldx hx hb hX hbl hS (by omega) hL3 dL_law_209 ?_
    refine tp_i (y := nI i) (ei) ?_
    cases hp : isP (xs (6 * t + 2)) with
    | false =>
      refine lv_aload_n hx hb dL_law_210 rfl (lv_at hl 0 rfl) ?_
      refine lv_iload_n hx hb dL_law_211 rfl (lv_at hl 3 rfl) ?_
      refine lv_iconst (v := nI 2) hx hb dL_law_212 (by decide) ?_
      refine lv_iadd hx hb dL_law_213 ?_
      refine tp_i (y := nI ((6 * t) + 2)) (nI_add (6 * t) 2) ?_
      refine ldx hx hb hX hbl hS (by omega) hL3 dL_law_214 ?_
      refine lv_aload_n hx hb dL_law_215 rfl (lv_at hl 0 rfl) ?_
      refine lv_iload_n hx hb dL_law_216 rfl (lv_at hl 3 rfl) ?_
      refine lv_iconst (v := nI 3) hx hb dL_law_217 (by decide) ?_
      refine lv_iadd hx hb dL_law_218 ?_
      refine tp_i (y := nI ((6 * t) + 3)) (nI_add (6 * t) 3) ?_
      refine ldx hx hb hX hbl hS (by omega) hL3 dL_law_219 ?_
      refine lv_i2l hx hb dL_law_220 rfl ?_
      refine lv_bipush (v := nI 32) hx hb dL_law_221 (by decide) ?_
      refine lv_lshl hx hb dL_law_223 rfl ?_
      refine lv_aload_n hx hb dL_law_224 rfl (lv_at hl 0 rfl) ?_
      refine lv_iload_n hx hb dL_law_225 rfl (lv_at hl 3 rfl) ?_
      refine lv_iconst (v := nI 4) hx hb dL_law_226 (by decide) ?_
      refine lv_iadd hx hb dL_law_227 ?_
      refine tp_i (y := nI ((6 * t) + 4)) (nI_add (6 * t) 4) ?_
      refine ldx hx hb hX hbl hS (by omega) hL3 dL_law_228 ?_
      refine lv_i2l hx hb dL_law_229 rfl ?_
      refine lv_ldc2 (v := 4294967295) hx hb hown (hts _ (by decide +kernel : Cond.constantLong RL 13 4294967295 ∈ tT)) dL_law_230 ?_
      refine lv_land hx hb dL_law_233 ?_
      refine lv_lor hx hb dL_law_234 ?_
      refine tp_l (y := lw2 (xs (6 * t + 3)) (xs (6 * t + 4))) (rfl) ?_
      refine pv (va_runV (As := [.int (nI i), .int (xs ((6 * t) + 2)), .long (lw2 (xs (6 * t + 3)) (xs (6 * t + 4)))]) (rest := []) ⟨hx, hb, hml, hown, hts⟩ (cD_net_no2 l hP hn200 hi hT (xs (6 * t + 2)) (lw2 (xs (6 * t + 3)) (xs (6 * t + 4))) hp) (cwV 3 hts gL_25 rfl rfl rfl (by decide +kernel) (rmF hR (by decide) (by decide))) (kP_V C (va_recv C.2.2.2.2.1 hP (ci := ciD) (q0 := 0) rfl rfl)) rfl rfl hl.1 rfl (lv_room (Nat.le_of_ble_eq_true rfl)) dL_law_235 ⟨by show _ ≤ 600000; omega, by show _ ≤ 7302249; omega⟩) ?_
      refine lv_aload_n hx hb dL_law_238 rfl (lv_at hl 2 rfl) ?_
      refine lv_aload_n hx hb dL_law_239 rfl (lv_at hl 0 rfl) ?_
      refine lv_iload_n hx hb dL_law_240 rfl (lv_at hl 3 rfl) ?_
      refine lv_iconst (v := nI 1) hx hb dL_law_241 (by decide) ?_
      refine lv_iadd hx hb dL_law_242 ?_
      refine tp_i (y := nI ((6 * t) + 1)) (nI_add (6 * t) 1) ?_
      refine ldx hx hb hX hbl hS (by omega) hL3 dL_law_243 ?_
      refine tp_i (y := nI i) (ei) ?_
      refine lv_aload_n hx hb dL_law_244 rfl (lv_at hl 0 rfl) ?_
      refine lv_iload_n hx hb dL_law_245 rfl (lv_at hl 3 rfl) ?_
      refine lv_iconst (v := nI 2) hx hb dL_law_246 (by decide) ?_
      refine lv_iadd hx hb dL_law_247 ?_
      refine tp_i (y := nI ((6 * t) + 2)) (nI_add (6 * t) 2) ?_
      refine ldx hx hb hX hbl hS (by omega) hL3 dL_law_248 ?_
      refine lv_aload_n hx hb dL_law_249 rfl (lv_at hl 0 rfl) ?_
      refine lv_iload_n hx hb dL_law_250 rfl (lv_at hl 3 rfl) ?_
      refine lv_iconst (v := nI 3) hx hb dL_law_251 (by decide) ?_
      refine lv_iadd hx hb dL_law_252 ?_
      refine tp_i (y := nI ((6 * t) + 3)) (nI_add (6 * t) 3) ?_
      refine ldx hx hb hX hbl hS (by omega) hL3 dL_law_253 ?_
      refine lv_i2l hx hb dL_law_254 rfl ?_
      refine lv_bipush (v := nI 32) hx hb dL_law_255 (by decide) ?_
      refine lv_lshl hx hb dL_law_257 rfl ?_
      refine lv_aload_n hx hb dL_law_258 rfl (lv_at hl 0 rfl) ?_
      refine lv_iload_n hx hb dL_law_259 rfl (lv_at hl 3 rfl) ?_
      refine lv_iconst (v := nI 4) hx hb dL_law_260 (by decide) ?_
      refine lv_iadd hx hb dL_law_261 ?_
      refine tp_i (y := nI ((6 * t) + 4)) (nI_add (6 * t) 4) ?_
      refine ldx hx hb hX hbl hS (by omega) hL3 dL_law_262 ?_
      refine lv_i2l hx hb dL_law_263 rfl ?_
      refine lv_ldc2 (v := 4294967295) hx hb hown (hts _ (by decide +kernel : Cond.constantLong RL 13 4294967295 ∈ tT)) dL_law_264 ?_
      refine lv_land hx hb dL_law_267 ?_
      refine lv_lor hx hb dL_law_268 ?_
      refine tp_l (y := lw2 (xs (6 * t + 3)) (xs (6 * t + 4))) (rfl) ?_
      refine pv (va_runV (As := [.int (nI i), .int (xs ((6 * t) + 2)), .long (lw2 (xs (6 * t + 3)) (xs (6 * t + 4)))]) (rest := [.int (nI 0)]) ⟨hx, hb, hml, hown, hts⟩ (cM_net_no2 l (dmP hP) hn200 hi hth (xs (6 * t + 2)) (lw2 (xs (6 * t + 3)) (xs (6 * t + 4))) hp) (cwV 3 hts gL_29 rfl rfl rfl (by decide +kernel) (rmF hR (by decide) (by decide))) (kP_V C (va_recv C.2.2.2.2.1 (dmP hP) (ci := ciM) (q0 := 0) rfl rfl)) rfl rfl hl.1 rfl (lv_room (Nat.le_of_ble_eq_true rfl)) dL_law_269 ⟨by show _ ≤ 600000; omega, by show _ ≤ 7302249; omega⟩) ?_
      refine lv_icmp_eq (tgt := 430) hx hb dL_law_272 (by decide) (fun c9 => ?_) (fun c9 => ?_)
      · exact kk (Lh) hP hD hS (lv_sub hl [0, 1, 2, 3] rfl) (by omega) (by omega)
      · exact absurd (rfl) c9
    | true =>
      obtain ⟨g, hg, eg⟩ := isP_of hp
      obtain ⟨h1, h2⟩ := LI_net Lh (a := lw2 (xs (6 * t + 3)) (xs (6 * t + 4))) hi hg
      refine lv_aload_n hx hb dL_law_210 rfl (lv_at hl 0 rfl) ?_
      refine lv_iload_n hx hb dL_law_211 rfl (lv_at hl 3 rfl) ?_
      refine lv_iconst (v := nI 2) hx hb dL_law_212 (by decide) ?_
      refine lv_iadd hx hb dL_law_213 ?_
      refine tp_i (y := nI ((6 * t) + 2)) (nI_add (6 * t) 2) ?_
      refine ldx hx hb hX hbl hS (by omega) hL3 dL_law_214 ?_
      refine tp_i (y := nI g) (eg) ?_
      refine lv_aload_n hx hb dL_law_215 rfl (lv_at hl 0 rfl) ?_
      refine lv_iload_n hx hb dL_law_216 rfl (lv_at hl 3 rfl) ?_
      refine lv_iconst (v := nI 3) hx hb dL_law_217 (by decide) ?_
      refine lv_iadd hx hb dL_law_218 ?_
      refine tp_i (y := nI ((6 * t) + 3)) (nI_add (6 * t) 3) ?_
      refine ldx hx hb hX hbl hS (by omega) hL3 dL_law_219 ?_
      refine lv_i2l hx hb dL_law_220 rfl ?_
      refine lv_bipush (v := nI 32) hx hb dL_law_221 (by decide) ?_
      refine lv_lshl hx hb dL_law_223 rfl ?_
      refine lv_aload_n hx hb dL_law_224 rfl (lv_at hl 0 rfl) ?_
      refine lv_iload_n hx hb dL_law_225 rfl (lv_at hl 3 rfl) ?_
      refine lv_iconst (v := nI 4) hx hb dL_law_226 (by decide) ?_
      refine lv_iadd hx hb dL_law_227 ?_
      refine tp_i (y := nI ((6 * t) + 4)) (nI_add (6 * t) 4) ?_
      refine ldx hx hb hX hbl hS (by omega) hL3 dL_law_228 ?_
      refine lv_i2l hx hb dL_law_229 rfl ?_
      refine lv_ldc2 (v := 4294967295) hx hb hown (hts _ (by decide +kernel : Cond.constantLong RL 13 4294967295 ∈ tT)) dL_law_230 ?_
      refine lv_land hx hb dL_law_233 ?_
      refine lv_lor hx hb dL_law_234 ?_
      refine tp_l (y := lw2 (xs (6 * t + 3)) (xs (6 * t + 4))) (rfl) ?_
      refine wi (va_runV (As := [.int (nI i), .int (nI g), .long (lw2 (xs (6 * t + 3)) (xs (6 * t + 4)))]) (rest := []) ⟨hx, hb, hml, hown, hts⟩ (cD_net l hP hD hn200 hi hT hok.1 hg (lw2 (xs (6 * t + 3)) (xs (6 * t + 4)))) (cwV 3 hts gL_25 rfl rfl rfl (by decide +kernel) (rmF hR (by decide) (by decide))) (kP_V C (va_recv C.2.2.2.2.1 hP (ci := ciD) (q0 := 0) rfl rfl)) rfl rfl hl.1 rfl (lv_room (Nat.le_of_ble_eq_true rfl)) dL_law_235 ⟨by show _ ≤ 600000; omega, by show _ ≤ 7302249; omega⟩) hS (fun r _ H locs hq hP hD hS => ?_)
      subst hq
      refine lv_aload_n hx hb dL_law_238 rfl (lv_at hl 2 rfl) ?_
      refine lv_aload_n hx hb dL_law_239 rfl (lv_at hl 0 rfl) ?_
      refine lv_iload_n hx hb dL_law_240 rfl (lv_at hl 3 rfl) ?_
      refine lv_iconst (v := nI 1) hx hb dL_law_241 (by decide) ?_
      refine lv_iadd hx hb dL_law_242 ?_
      refine tp_i (y := nI ((6 * t) + 1)) (nI_add (6 * t) 1) ?_
      refine ldx hx hb hX hbl hS (by omega) hL3 dL_law_243 ?_
      refine tp_i (y := nI i) (ei) ?_
      refine lv_aload_n hx hb dL_law_244 rfl (lv_at hl 0 rfl) ?_
      refine lv_iload_n hx hb dL_law_245 rfl (lv_at hl 3 rfl) ?_
      refine lv_iconst (v := nI 2) hx hb dL_law_246 (by decide) ?_
      refine lv_iadd hx hb dL_law_247 ?_
      refine tp_i (y := nI ((6 * t) + 2)) (nI_add (6 * t) 2) ?_
      refine ldx hx hb hX hbl hS (by omega) hL3 dL_law_248 ?_
      refine tp_i (y := nI g) (eg) ?_
      refine lv_aload_n hx hb dL_law_249 rfl (lv_at hl 0 rfl) ?_
      refine lv_iload_n hx hb dL_law_250 rfl (lv_at hl 3 rfl) ?_
      refine lv_iconst (v := nI 3) hx hb dL_law_251 (by decide) ?_
      refine lv_iadd hx hb dL_law_252 ?_
      refine tp_i (y := nI ((6 * t) + 3)) (nI_add (6 * t) 3) ?_
      refine ldx hx hb hX hbl hS (by omega) hL3 dL_law_253 ?_
      refine lv_i2l hx hb dL_law_254 rfl ?_
      refine lv_bipush (v := nI 32) hx hb dL_law_255 (by decide) ?_
      refine lv_lshl hx hb dL_law_257 rfl ?_
      refine lv_aload_n hx hb dL_law_258 rfl (lv_at hl 0 rfl) ?_
      refine lv_iload_n hx hb dL_law_259 rfl (lv_at hl 3 rfl) ?_
      refine lv_iconst (v := nI 4) hx hb dL_law_260 (by decide) ?_
      refine lv_iadd hx hb dL_law_261 ?_
      refine tp_i (y := nI ((6 * t) + 4)) (nI_add (6 * t) 4) ?_
      refine ldx hx hb hX hbl hS (by omega) hL3 dL_law_262 ?_
      refine lv_i2l hx hb dL_law_263 rfl ?_
      refine lv_ldc2 (v := 4294967295) hx hb hown (hts _ (by decide +kernel : Cond.constantLong RL 13 4294967295 ∈ tT)) dL_law_264 ?_
      refine lv_land hx hb dL_law_267 ?_
      refine lv_lor hx hb dL_law_268 ?_
      refine tp_l (y := lw2 (xs (6 * t + 3)) (xs (6 * t + 4))) (rfl) ?_
      refine wi (va_runV (As := [.int (nI i), .int (nI g), .long (lw2 (xs (6 * t + 3)) (xs (6 * t + 4)))]) (rest := [.int (bI (chC g (lw2 (xs (6 * t + 3)) (xs (6 * t + 4))) (us i) (ps i) (am i)).1)]) ⟨hx, hb, hml, hown, hts⟩ (cM_net l (dmP hP) (dmD hD) hn200 hi hth hok2.1 hok2.2.1 hg (lw2 (xs (6 * t + 3)) (xs (6 * t + 4)))) (cwV 3 hts gL_29 rfl rfl rfl (by decide +kernel) (rmF hR (by decide) (by decide))) (kP_V C (va_recv C.2.2.2.2.1 (dmP hP) (ci := ciM) (q0 := 0) rfl rfl)) rfl rfl hl.1 rfl (lv_room (Nat.le_of_ble_eq_true rfl)) dL_law_269 ⟨by show _ ≤ 600000; omega, by show _ ≤ 7302249; omega⟩) hS (fun r _ H locs hq hP hD hS => ?_)
      subst hq
      have hP := mdP hP
      have hD := mdD hD
      refine lv_icmp_eq (tgt := 430) hx hb dL_law_272 (by decide) (fun c9 => ?_) (fun c9 => ?_)
      · exact kk (h2) hP hD hS (lv_sub hl [0, 1, 2, 3] rfl) (by omega) (by omega)
      · exact absurd (congrArg bI h1) c9
set_option maxHeartbeats 1000000 in
set_option maxRecDepth 100000 in
theorem law_place (G : lC D K p s m c b L xs) (ht : 6 * t + 6 ≤ L) (Lh : LI va fl n tc sc T S us ps am va' fl' th ch mn po an) (hP : va_P D vwCl (dW (mW [] o' K va' fl' n th ch mn po an) o K ad va fl af bl n tc sc T S us ps am) H) (hD : va_D (fun q => s.heap.size ≤ q) (dW (mW [] o' K va' fl' n th ch mn po an) o K ad va fl af bl n tc sc T S us ps am)) (hS : va_S (fun q => s.heap.size ≤ q) s.heap H locs) (hl : lv_has ls 4 [(0, .ref b), (1, .ref (o 0)), (2, .ref (o' 0)), (3, .int (nI (6 * t)))]) (hc : cells ≤ 20 + 3 * t) (hs : slots ≤ 20000 + 37 * t) (kk : LK p l e s m below meth c b t Q D K o o' 430 3 37) : W p l e room_1 s m #[Value.ref b] below meth c H locs cells slots Q (F0 m 88 ls []) := by
  obtain ⟨C, hml, hX, hbl, hL3⟩ := G
  have hx := C.1
  have hb := C.2.1
  have hown := C.2.2.1
  have hts := C.2.2.2.1
  have hR : rmOk room_1 8 0 0 := ⟨by decide, by decide, Nat.zero_le _, Nat.zero_le _⟩
  have hn200 : n ≤ 200 := Lh.1.1
  have hTt : ∀ i, i < n → T i = th i := fun i hi => (Lh.2.2.2.2.1 i hi).1
  by_cases h : isP (xs (6 * t + 1)) = true ∧ isV (lw2 (xs (6 * t + 2)) (xs (6 * t + 3))) = true ∧ isV (lw2 (xs (6 * t + 4)) (xs (6 * t + 5))) = true ∧ lw2 (xs (6 * t + 4)) (xs (6 * t + 5)) ≤ lw2 (xs (6 * t + 2)) (xs (6 * t + 3))
  · obtain ⟨hp, h2, h3, h4⟩ := h
    obtain ⟨g, hg, eg⟩ := isP_of hp
    refine lv_aload_n hx hb dL_law_88 rfl (lv_at hl 1 rfl) ?_
    refine lv_aload_n hx hb dL_law_89 rfl (lv_at hl 0 rfl) ?_
    refine lv_iload_n hx hb dL_law_90 rfl (lv_at hl 3 rfl) ?_
    refine lv_iconst (v := nI 1) hx hb dL_law_91 (by decide) ?_
    refine lv_iadd hx hb dL_law_92 ?_
    refine tp_i (y := nI ((6 * t) + 1)) (nI_add (6 * t) 1) ?_
    refine ldx hx hb hX hbl hS (by omega) hL3 dL_law_93 ?_
    refine tp_i (y := nI g) (eg) ?_
    refine lv_aload_n hx hb dL_law_94 rfl (lv_at hl 0 rfl) ?_
    refine lv_iload_n hx hb dL_law_95 rfl (lv_at hl 3 rfl) ?_
    refine lv_iconst (v := nI 2) hx hb dL_law_96 (by decide) ?_
    refine lv_iadd hx hb dL_law_97 ?_
    refine tp_i (y := nI ((6 * t) + 2)) (nI_add (6 * t) 2) ?_
    refine ldx hx hb hX hbl hS (by omega) hL3 dL_law_98 ?_
    refine lv_i2l hx hb dL_law_99 rfl ?_
    refine lv_bipush (v := nI 32) hx hb dL_law_100 (by decide) ?_
    refine lv_lshl hx hb dL_law_102 rfl ?_
    refine lv_aload_n hx hb dL_law_103 rfl (lv_at hl 0 rfl) ?_
    refine lv_iload_n hx hb dL_law_104 rfl (lv_at hl 3 rfl) ?_
    refine lv_iconst (v := nI 3) hx hb dL_law_105 (by decide) ?_
    refine lv_iadd hx hb dL_law_106 ?_
    refine tp_i (y := nI ((6 * t) + 3)) (nI_add (6 * t) 3) ?_
    refine ldx hx hb hX hbl hS (by omega) hL3 dL_law_107 ?_
    refine lv_i2l hx hb dL_law_108 rfl ?_
    refine lv_ldc2 (v := 4294967295) hx hb hown (hts _ (by decide +kernel : Cond.constantLong RL 13 4294967295 ∈ tT)) dL_law_109 ?_
    refine lv_land hx hb dL_law_112 ?_
    refine lv_lor hx hb dL_law_113 ?_
    refine tp_l (y := lw2 (xs (6 * t + 2)) (xs (6 * t + 3))) (rfl) ?_
    refine lv_aload_n hx hb dL_law_114 rfl (lv_at hl 0 rfl) ?_
    refine lv_iload_n hx hb dL_law_115 rfl (lv_at hl 3 rfl) ?_
    refine lv_iconst (v := nI 4) hx hb dL_law_116 (by decide) ?_
    refine lv_iadd hx hb dL_law_117 ?_
    refine tp_i (y := nI ((6 * t) + 4)) (nI_add (6 * t) 4) ?_
    refine ldx hx hb hX hbl hS (by omega) hL3 dL_law_118 ?_
    refine lv_i2l hx hb dL_law_119 rfl ?_
    refine lv_bipush (v := nI 32) hx hb dL_law_120 (by decide) ?_
    refine lv_lshl hx hb dL_law_122 rfl ?_
    refine lv_aload_n hx hb dL_law_123 rfl (lv_at hl 0 rfl) ?_
    refine lv_iload_n hx hb dL_law_124 rfl (lv_at hl 3 rfl) ?_
    refine lv_iconst (v := nI 5) hx hb dL_law_125 (by decide) ?_
    refine lv_iadd hx hb dL_law_126 ?_
    refine tp_i (y := nI ((6 * t) + 5)) (nI_add (6 * t) 5) ?_
    refine ldx hx hb hX hbl hS (by omega) hL3 dL_law_127 ?_
    refine lv_i2l hx hb dL_law_128 rfl ?_
    refine lv_ldc2 (v := 4294967295) hx hb hown (hts _ (by decide +kernel : Cond.constantLong RL 13 4294967295 ∈ tT)) dL_law_129 ?_
    refine lv_land hx hb dL_law_132 ?_
    refine lv_lor hx hb dL_law_133 ?_
    refine tp_l (y := lw2 (xs (6 * t + 4)) (xs (6 * t + 5))) (rfl) ?_
    refine wi (va_runV (As := [.int (nI g), .long (lw2 (xs (6 * t + 2)) (xs (6 * t + 3))), .long (lw2 (xs (6 * t + 4)) (xs (6 * t + 5)))]) (rest := []) ⟨hx, hb, hml, hown, hts⟩ (cD_place l hP hD hg (lw2 (xs (6 * t + 2)) (xs (6 * t + 3))) (lw2 (xs (6 * t + 4)) (xs (6 * t + 5))) h2 h3 h4) (cwV 3 hts gL_15 rfl rfl rfl (by decide +kernel) (rmF hR (by decide) (by decide))) (kP_V C (va_recv C.2.2.2.2.1 hP (ci := ciD) (q0 := 0) rfl rfl)) rfl rfl hl.1 rfl (lv_room (Nat.le_of_ble_eq_true rfl)) dL_law_134 ⟨by show _ ≤ 600000; omega, by show _ ≤ 7302249; omega⟩) hS (fun r _ H locs hq hP hD hS => ?_)
    subst hq
    refine lv_aload_n hx hb dL_law_137 rfl (lv_at hl 2 rfl) ?_
    refine lv_aload_n hx hb dL_law_138 rfl (lv_at hl 0 rfl) ?_
    refine lv_iload_n hx hb dL_law_139 rfl (lv_at hl 3 rfl) ?_
    refine lv_iconst (v := nI 1) hx hb dL_law_140 (by decide) ?_
    refine lv_iadd hx hb dL_law_141 ?_
    refine tp_i (y := nI ((6 * t) + 1)) (nI_add (6 * t) 1) ?_
    refine ldx hx hb hX hbl hS (by omega) hL3 dL_law_142 ?_
    refine tp_i (y := nI g) (eg) ?_
    refine lv_aload_n hx hb dL_law_143 rfl (lv_at hl 0 rfl) ?_
    refine lv_iload_n hx hb dL_law_144 rfl (lv_at hl 3 rfl) ?_
    refine lv_iconst (v := nI 2) hx hb dL_law_145 (by decide) ?_
    refine lv_iadd hx hb dL_law_146 ?_
    refine tp_i (y := nI ((6 * t) + 2)) (nI_add (6 * t) 2) ?_
    refine ldx hx hb hX hbl hS (by omega) hL3 dL_law_147 ?_
    refine lv_i2l hx hb dL_law_148 rfl ?_
    refine lv_bipush (v := nI 32) hx hb dL_law_149 (by decide) ?_
    refine lv_lshl hx hb dL_law_151 rfl ?_
    refine lv_aload_n hx hb dL_law_152 rfl (lv_at hl 0 rfl) ?_
    refine lv_iload_n hx hb dL_law_153 rfl (lv_at hl 3 rfl) ?_
    refine lv_iconst (v := nI 3) hx hb dL_law_154 (by decide) ?_
    refine lv_iadd hx hb dL_law_155 ?_
    refine tp_i (y := nI ((6 * t) + 3)) (nI_add (6 * t) 3) ?_
    refine ldx hx hb hX hbl hS (by omega) hL3 dL_law_156 ?_
    refine lv_i2l hx hb dL_law_157 rfl ?_
    refine lv_ldc2 (v := 4294967295) hx hb hown (hts _ (by decide +kernel : Cond.constantLong RL 13 4294967295 ∈ tT)) dL_law_158 ?_
    refine lv_land hx hb dL_law_161 ?_
    refine lv_lor hx hb dL_law_162 ?_
    refine tp_l (y := lw2 (xs (6 * t + 2)) (xs (6 * t + 3))) (rfl) ?_
    refine lv_aload_n hx hb dL_law_163 rfl (lv_at hl 0 rfl) ?_
    refine lv_iload_n hx hb dL_law_164 rfl (lv_at hl 3 rfl) ?_
    refine lv_iconst (v := nI 4) hx hb dL_law_165 (by decide) ?_
    refine lv_iadd hx hb dL_law_166 ?_
    refine tp_i (y := nI ((6 * t) + 4)) (nI_add (6 * t) 4) ?_
    refine ldx hx hb hX hbl hS (by omega) hL3 dL_law_167 ?_
    refine lv_i2l hx hb dL_law_168 rfl ?_
    refine lv_bipush (v := nI 32) hx hb dL_law_169 (by decide) ?_
    refine lv_lshl hx hb dL_law_171 rfl ?_
    refine lv_aload_n hx hb dL_law_172 rfl (lv_at hl 0 rfl) ?_
    refine lv_iload_n hx hb dL_law_173 rfl (lv_at hl 3 rfl) ?_
    refine lv_iconst (v := nI 5) hx hb dL_law_174 (by decide) ?_
    refine lv_iadd hx hb dL_law_175 ?_
    refine tp_i (y := nI ((6 * t) + 5)) (nI_add (6 * t) 5) ?_
    refine ldx hx hb hX hbl hS (by omega) hL3 dL_law_176 ?_
    refine lv_i2l hx hb dL_law_177 rfl ?_
    refine lv_ldc2 (v := 4294967295) hx hb hown (hts _ (by decide +kernel : Cond.constantLong RL 13 4294967295 ∈ tT)) dL_law_178 ?_
    refine lv_land hx hb dL_law_181 ?_
    refine lv_lor hx hb dL_law_182 ?_
    refine tp_l (y := lw2 (xs (6 * t + 4)) (xs (6 * t + 5))) (rfl) ?_
    refine wi (va_runV (As := [.int (nI g), .long (lw2 (xs (6 * t + 2)) (xs (6 * t + 3))), .long (lw2 (xs (6 * t + 4)) (xs (6 * t + 5)))]) (rest := [.int (nI 1)]) ⟨hx, hb, hml, hown, hts⟩ (cM_place l (dmP hP) (dmD hD) hg (lw2 (xs (6 * t + 2)) (xs (6 * t + 3))) (lw2 (xs (6 * t + 4)) (xs (6 * t + 5))) h2 h3 h4) (cwV 3 hts gL_19 rfl rfl rfl (by decide +kernel) (rmF hR (by decide) (by decide))) (kP_V C (va_recv C.2.2.2.2.1 (dmP hP) (ci := ciM) (q0 := 0) rfl rfl)) rfl rfl hl.1 rfl (lv_room (Nat.le_of_ble_eq_true rfl)) dL_law_183 ⟨by show _ ≤ 600000; omega, by show _ ≤ 7302249; omega⟩) hS (fun r _ H locs hq hP hD hS => ?_)
    subst hq
    have hP := mdP hP
    have hD := mdD hD
    refine lv_icmp_eq (tgt := 430) hx hb dL_law_186 (by decide) (fun c9 => ?_) (fun c9 => ?_)
    · exact kk (LI_place Lh (isV_of h3).1 (i64_le.mp h4) (isV_of h2).2) hP hD hS (lv_sub hl [0, 1, 2, 3] rfl) (by omega) (by omega)
    · exact absurd (rfl) c9
  · refine lv_aload_n hx hb dL_law_88 rfl (lv_at hl 1 rfl) ?_
    refine lv_aload_n hx hb dL_law_89 rfl (lv_at hl 0 rfl) ?_
    refine lv_iload_n hx hb dL_law_90 rfl (lv_at hl 3 rfl) ?_
    refine lv_iconst (v := nI 1) hx hb dL_law_91 (by decide) ?_
    refine lv_iadd hx hb dL_law_92 ?_
    refine tp_i (y := nI ((6 * t) + 1)) (nI_add (6 * t) 1) ?_
    refine ldx hx hb hX hbl hS (by omega) hL3 dL_law_93 ?_
    refine lv_aload_n hx hb dL_law_94 rfl (lv_at hl 0 rfl) ?_
    refine lv_iload_n hx hb dL_law_95 rfl (lv_at hl 3 rfl) ?_
    refine lv_iconst (v := nI 2) hx hb dL_law_96 (by decide) ?_
    refine lv_iadd hx hb dL_law_97 ?_
    refine tp_i (y := nI ((6 * t) + 2)) (nI_add (6 * t) 2) ?_
    refine ldx hx hb hX hbl hS (by omega) hL3 dL_law_98 ?_
    refine lv_i2l hx hb dL_law_99 rfl ?_
    refine lv_bipush (v := nI 32) hx hb dL_law_100 (by decide) ?_
    refine lv_lshl hx hb dL_law_102 rfl ?_
    refine lv_aload_n hx hb dL_law_103 rfl (lv_at hl 0 rfl) ?_
    refine lv_iload_n hx hb dL_law_104 rfl (lv_at hl 3 rfl) ?_
    refine lv_iconst (v := nI 3) hx hb dL_law_105 (by decide) ?_
    refine lv_iadd hx hb dL_law_106 ?_
    refine tp_i (y := nI ((6 * t) + 3)) (nI_add (6 * t) 3) ?_
    refine ldx hx hb hX hbl hS (by omega) hL3 dL_law_107 ?_
    refine lv_i2l hx hb dL_law_108 rfl ?_
    refine lv_ldc2 (v := 4294967295) hx hb hown (hts _ (by decide +kernel : Cond.constantLong RL 13 4294967295 ∈ tT)) dL_law_109 ?_
    refine lv_land hx hb dL_law_112 ?_
    refine lv_lor hx hb dL_law_113 ?_
    refine tp_l (y := lw2 (xs (6 * t + 2)) (xs (6 * t + 3))) (rfl) ?_
    refine lv_aload_n hx hb dL_law_114 rfl (lv_at hl 0 rfl) ?_
    refine lv_iload_n hx hb dL_law_115 rfl (lv_at hl 3 rfl) ?_
    refine lv_iconst (v := nI 4) hx hb dL_law_116 (by decide) ?_
    refine lv_iadd hx hb dL_law_117 ?_
    refine tp_i (y := nI ((6 * t) + 4)) (nI_add (6 * t) 4) ?_
    refine ldx hx hb hX hbl hS (by omega) hL3 dL_law_118 ?_
    refine lv_i2l hx hb dL_law_119 rfl ?_
    refine lv_bipush (v := nI 32) hx hb dL_law_120 (by decide) ?_
    refine lv_lshl hx hb dL_law_122 rfl ?_
    refine lv_aload_n hx hb dL_law_123 rfl (lv_at hl 0 rfl) ?_
    refine lv_iload_n hx hb dL_law_124 rfl (lv_at hl 3 rfl) ?_
    refine lv_iconst (v := nI 5) hx hb dL_law_125 (by decide) ?_
    refine lv_iadd hx hb dL_law_126 ?_
    refine tp_i (y := nI ((6 * t) + 5)) (nI_add (6 * t) 5) ?_
    refine ldx hx hb hX hbl hS (by omega) hL3 dL_law_127 ?_
    refine lv_i2l hx hb dL_law_128 rfl ?_
    refine lv_ldc2 (v := 4294967295) hx hb hown (hts _ (by decide +kernel : Cond.constantLong RL 13 4294967295 ∈ tT)) dL_law_129 ?_
    refine lv_land hx hb dL_law_132 ?_
    refine lv_lor hx hb dL_law_133 ?_
    refine tp_l (y := lw2 (xs (6 * t + 4)) (xs (6 * t + 5))) (rfl) ?_
    refine pv (va_runV (As := [.int (xs ((6 * t) + 1)), .long (lw2 (xs (6 * t + 2)) (xs (6 * t + 3))), .long (lw2 (xs (6 * t + 4)) (xs (6 * t + 5)))]) (rest := []) ⟨hx, hb, hml, hown, hts⟩ (cD_place_no l hP (xs (6 * t + 1)) (lw2 (xs (6 * t + 2)) (xs (6 * t + 3))) (lw2 (xs (6 * t + 4)) (xs (6 * t + 5))) h) (cwV 3 hts gL_15 rfl rfl rfl (by decide +kernel) (rmF hR (by decide) (by decide))) (kP_V C (va_recv C.2.2.2.2.1 hP (ci := ciD) (q0 := 0) rfl rfl)) rfl rfl hl.1 rfl (lv_room (Nat.le_of_ble_eq_true rfl)) dL_law_134 ⟨by show _ ≤ 600000; omega, by show _ ≤ 7302249; omega⟩) ?_
    refine lv_aload_n hx hb dL_law_137 rfl (lv_at hl 2 rfl) ?_
    refine lv_aload_n hx hb dL_law_138 rfl (lv_at hl 0 rfl) ?_
    refine lv_iload_n hx hb dL_law_139 rfl (lv_at hl 3 rfl) ?_
    refine lv_iconst (v := nI 1) hx hb dL_law_140 (by decide) ?_
    refine lv_iadd hx hb dL_law_141 ?_
    refine tp_i (y := nI ((6 * t) + 1)) (nI_add (6 * t) 1) ?_
    refine ldx hx hb hX hbl hS (by omega) hL3 dL_law_142 ?_
    refine lv_aload_n hx hb dL_law_143 rfl (lv_at hl 0 rfl) ?_
    refine lv_iload_n hx hb dL_law_144 rfl (lv_at hl 3 rfl) ?_
    refine lv_iconst (v := nI 2) hx hb dL_law_145 (by decide) ?_
    refine lv_iadd hx hb dL_law_146 ?_
    refine tp_i (y := nI ((6 * t) + 2)) (nI_add (6 * t) 2) ?_
    refine ldx hx hb hX hbl hS (by omega) hL3 dL_law_147 ?_
    refine lv_i2l hx hb dL_law_148 rfl ?_
    refine lv_bipush (v := nI 32) hx hb dL_law_149 (by decide) ?_
    refine lv_lshl hx hb dL_law_151 rfl ?_
    refine lv_aload_n hx hb dL_law_152 rfl (lv_at hl 0 rfl) ?_
    refine lv_iload_n hx hb dL_law_153 rfl (lv_at hl 3 rfl) ?_
    refine lv_iconst (v := nI 3) hx hb dL_law_154 (by decide) ?_
    refine lv_iadd hx hb dL_law_155 ?_
    refine tp_i (y := nI ((6 * t) + 3)) (nI_add (6 * t) 3) ?_
    refine ldx hx hb hX hbl hS (by omega) hL3 dL_law_156 ?_
    refine lv_i2l hx hb dL_law_157 rfl ?_
    refine lv_ldc2 (v := 4294967295) hx hb hown (hts _ (by decide +kernel : Cond.constantLong RL 13 4294967295 ∈ tT)) dL_law_158 ?_
    refine lv_land hx hb dL_law_161 ?_
    refine lv_lor hx hb dL_law_162 ?_
    refine tp_l (y := lw2 (xs (6 * t + 2)) (xs (6 * t + 3))) (rfl) ?_
    refine lv_aload_n hx hb dL_law_163 rfl (lv_at hl 0 rfl) ?_
    refine lv_iload_n hx hb dL_law_164 rfl (lv_at hl 3 rfl) ?_
    refine lv_iconst (v := nI 4) hx hb dL_law_165 (by decide) ?_
    refine lv_iadd hx hb dL_law_166 ?_
    refine tp_i (y := nI ((6 * t) + 4)) (nI_add (6 * t) 4) ?_
    refine ldx hx hb hX hbl hS (by omega) hL3 dL_law_167 ?_
    refine lv_i2l hx hb dL_law_168 rfl ?_
    refine lv_bipush (v := nI 32) hx hb dL_law_169 (by decide) ?_
    refine lv_lshl hx hb dL_law_171 rfl ?_
    refine lv_aload_n hx hb dL_law_172 rfl (lv_at hl 0 rfl) ?_
    refine lv_iload_n hx hb dL_law_173 rfl (lv_at hl 3 rfl) ?_
    refine lv_iconst (v := nI 5) hx hb dL_law_174 (by decide) ?_
    refine lv_iadd hx hb dL_law_175 ?_
    refine tp_i (y := nI ((6 * t) + 5)) (nI_add (6 * t) 5) ?_
    refine ldx hx hb hX hbl hS (by omega) hL3 dL_law_176 ?_
    refine lv_i2l hx hb dL_law_177 rfl ?_
    refine lv_ldc2 (v := 4294967295) hx hb hown (hts _ (by decide +kernel : Cond.constantLong RL 13 4294967295 ∈ tT)) dL_law_178 ?_
    refine lv_land hx hb dL_law_181 ?_
    refine lv_lor hx hb dL_law_182 ?_
    refine tp_l (y := lw2 (xs (6 * t + 4)) (xs (6 * t + 5))) (rfl) ?_
    refine pv (va_runV (As := [.int (xs ((6 * t) + 1)), .long (lw2 (xs (6 * t + 2)) (xs (6 * t + 3))), .long (lw2 (xs (6 * t + 4)) (xs (6 * t + 5)))]) (rest := [.int (nI 0)]) ⟨hx, hb, hml, hown, hts⟩ (cM_place_no l (dmP hP) (xs (6 * t + 1)) (lw2 (xs (6 * t + 2)) (xs (6 * t + 3))) (lw2 (xs (6 * t + 4)) (xs (6 * t + 5))) h) (cwV 3 hts gL_19 rfl rfl rfl (by decide +kernel) (rmF hR (by decide) (by decide))) (kP_V C (va_recv C.2.2.2.2.1 (dmP hP) (ci := ciM) (q0 := 0) rfl rfl)) rfl rfl hl.1 rfl (lv_room (Nat.le_of_ble_eq_true rfl)) dL_law_183 ⟨by show _ ≤ 600000; omega, by show _ ≤ 7302249; omega⟩) ?_
    refine lv_icmp_eq (tgt := 430) hx hb dL_law_186 (by decide) (fun c9 => ?_) (fun c9 => ?_)
    · exact kk (Lh) hP hD hS (lv_sub hl [0, 1, 2, 3] rfl) (by omega) (by omega)
    · exact absurd (rfl) c9
set_option maxHeartbeats 1000000 in
set_option maxRecDepth 100000 in
theorem law_solve (G : lC D K p s m c b L xs) (ht : 6 * t + 6 ≤ L) (Lh : LI va fl n tc sc T S us ps am va' fl' th ch mn po an) (hP : va_P D vwCl (dW (mW [] o' K va' fl' n th ch mn po an) o K ad va fl af bl n tc sc T S us ps am) H) (hD : va_D (fun q => s.heap.size ≤ q) (dW (mW [] o' K va' fl' n th ch mn po an) o K ad va fl af bl n tc sc T S us ps am)) (hS : va_S (fun q => s.heap.size ≤ q) s.heap H locs) (hl : lv_has ls 4 [(0, .ref b), (1, .ref (o 0)), (2, .ref (o' 0)), (3, .int (nI (6 * t)))]) (hc : cells ≤ 20 + 3 * t) (hs : slots ≤ 20000 + 37 * t) (kk : LK p l e s m below meth c b t Q D K o o' 430 3 37) : W p l e room_1 s m #[Value.ref b] below meth c H locs cells slots Q (F0 m 300 ls []) := by
  obtain ⟨C, hml, hX, hbl, hL3⟩ := G
  have hx := C.1
  have hb := C.2.1
  have hown := C.2.2.1
  have hts := C.2.2.2.1
  have hR : rmOk room_1 8 0 0 := ⟨by decide, by decide, Nat.zero_le _, Nat.zero_le _⟩
  have hn200 : n ≤ 200 := Lh.1.1
  have hTt : ∀ i, i < n → T i = th i := fun i hi => (Lh.2.2.2.2.1 i hi).1
  have hE := fgE Lh.1 Lh.2.1 S af bl
  have hth : ∀ i, n ≤ i → th i = false := fun i hi => (Lh.2.2.2.2.2 i hi).1
  have hch : ∀ i, n ≤ i → ch i = false := fun i hi => (Lh.2.2.2.2.2 i hi).2.1
  refine lv_aload_n hx hb dL_law_300 rfl (lv_at hl 1 rfl) ?_
  refine wi (va_runV (As := []) (rest := []) ⟨hx, hb, hml, hown, hts⟩ (cD_solve l hP hD Lh.1 Lh.2.1) (cwV 0 hts gL_35 rfl rfl rfl (by decide +kernel) (rmF hR (by decide) (by decide))) (kP_V C (va_recv C.2.2.2.2.1 hP (ci := ciD) (q0 := 0) rfl rfl)) rfl rfl hl.1 rfl (lv_room (Nat.le_of_ble_eq_true rfl)) dL_law_301 ⟨by show _ ≤ 600000; omega, by show _ ≤ 7302249; omega⟩) hS (fun r _ H locs hq hP hD hS => ?_)
  subst hq
  refine lv_aload_n hx hb dL_law_304 rfl (lv_at hl 2 rfl) ?_
  refine wi (va_runV (As := []) (rest := [.int (nI (fg us ps am T va fl n 201 (st_s T S n, af, bl, tc)).2.2.2)]) ⟨hx, hb, hml, hown, hts⟩ (cM_solve l (dmP hP) (dmD hD) (LI_model Lh) hth hch) (cwV 0 hts gL_38 rfl rfl rfl (by decide +kernel) (rmF hR (by decide) (by decide))) (kP_V C (va_recv C.2.2.2.2.1 (dmP hP) (ci := ciM) (q0 := 0) rfl rfl)) rfl rfl hl.1 rfl (lv_room (Nat.le_of_ble_eq_true rfl)) dL_law_305 ⟨by show _ ≤ 600000; omega, by show _ ≤ 7302249; omega⟩) hS (fun r u H locs hq hP hD hS => ?_)
  obtain ⟨rfl, hms, hgd⟩ := hq
  have hP := mdP hP
  have hD := mdD hD
  have Lh2 := LI_solve Lh hE hms hgd
  refine lv_icmp_eq (tgt := 430) hx hb dL_law_308 (by decide) (fun c9 => ?_) (fun c9 => ?_)
  · exact kk (Lh2) hP hD hS (lv_sub hl [0, 1, 2, 3] rfl) (by omega) (by omega)
  · exact absurd (congrArg nI (cn_200 Lh2).1.symm) c9
set_option maxHeartbeats 1000000 in
set_option maxRecDepth 100000 in
theorem law_perform (G : lC D K p s m c b L xs) (ht : 6 * t + 6 ≤ L) (Lh : LI va fl n tc sc T S us ps am va' fl' th ch mn po an) (hP : va_P D vwCl (dW (mW [] o' K va' fl' n th ch mn po an) o K ad va fl af bl n tc sc T S us ps am) H) (hD : va_D (fun q => s.heap.size ≤ q) (dW (mW [] o' K va' fl' n th ch mn po an) o K ad va fl af bl n tc sc T S us ps am)) (hS : va_S (fun q => s.heap.size ≤ q) s.heap H locs) (hl : lv_has ls 4 [(0, .ref b), (1, .ref (o 0)), (2, .ref (o' 0)), (3, .int (nI (6 * t)))]) (hc : cells ≤ 20 + 3 * t) (hs : slots ≤ 20000 + 37 * t) (kk : LK p l e s m below meth c b t Q D K o o' 430 3 37) : W p l e room_1 s m #[Value.ref b] below meth c H locs cells slots Q (F0 m 336 ls []) := by
  obtain ⟨C, hml, hX, hbl, hL3⟩ := G
  have hx := C.1
  have hb := C.2.1
  have hown := C.2.2.1
  have hts := C.2.2.2.1
  have hR : rmOk room_1 8 0 0 := ⟨by decide, by decide, Nat.zero_le _, Nat.zero_le _⟩
  have hn200 : n ≤ 200 := Lh.1.1
  have hTt : ∀ i, i < n → T i = th i := fun i hi => (Lh.2.2.2.2.1 i hi).1
  have hE := fgE Lh.1 Lh.2.1 S af bl
  have hth : ∀ i, n ≤ i → th i = false := fun i hi => (Lh.2.2.2.2.2 i hi).1
  have hch : ∀ i, n ≤ i → ch i = false := fun i hi => (Lh.2.2.2.2.2 i hi).2.1
  cases hv : vfB (fg us ps am T va fl n 201 (st_s T S n, af, bl, tc)).2.1 with
  | false =>
    refine lv_aload_n hx hb dL_law_336 rfl (lv_at hl 1 rfl) ?_
    refine wi (va_runV (As := []) (rest := []) ⟨hx, hb, hml, hown, hts⟩ (cD_perform_no l hP hD Lh.1 Lh.2.1 hv) (cwV 0 hts gL_43 rfl rfl rfl (by decide +kernel) (rmF hR (by decide) (by decide))) (kP_V C (va_recv C.2.2.2.2.1 hP (ci := ciD) (q0 := 0) rfl rfl)) rfl rfl hl.1 rfl (lv_room (Nat.le_of_ble_eq_true rfl)) dL_law_337 ⟨by show _ ≤ 600000; omega, by show _ ≤ 7302249; omega⟩) hS (fun r _ H locs hq hP hD hS => ?_)
    subst hq
    refine lv_aload_n hx hb dL_law_340 rfl (lv_at hl 2 rfl) ?_
    refine wi (va_runV (As := []) (rest := [.int (-1)]) ⟨hx, hb, hml, hown, hts⟩ (cM_perform l (dmP hP) (dmD hD) (LI_model Lh) hth hch) (cwV 0 hts gL_46 rfl rfl rfl (by decide +kernel) (rmF hR (by decide) (by decide))) (kP_V C (va_recv C.2.2.2.2.1 (dmP hP) (ci := ciM) (q0 := 0) rfl rfl)) rfl rfl hl.1 rfl (lv_room (Nat.le_of_ble_eq_true rfl)) dL_law_341 ⟨by show _ ≤ 600000; omega, by show _ ≤ 7302249; omega⟩) hS (fun r u H locs hq hP hD hS => ?_)
    obtain ⟨hms, hgd, hor⟩ := hq
    have Lh2 := LI_solve Lh hE hms hgd
    have hte := tot_eq Lh2 hE.2.2.2
    rcases hor with ⟨-, rfl, e1, e2⟩ | ⟨hall, -, -, -⟩
    · rw [e1, e2] at hP hD
      have hP := mdP hP
      have hD := mdD hD
      refine lv_icmp_eq (tgt := 430) hx hb dL_law_344 (by decide) (fun c9 => ?_) (fun c9 => ?_)
      · exact kk (Lh2) hP hD hS (lv_sub hl [0, 1, 2, 3] rfl) (by omega) (by omega)
      · exact absurd (rfl) c9
    · exfalso
      have hv := of_decide_eq_false hv
      exact hv (fun q hq => decide_eq_false (by rw [← hte q hq]; exact hall q hq))
  | true =>
    refine lv_aload_n hx hb dL_law_336 rfl (lv_at hl 1 rfl) ?_
    refine wi (va_runV (As := []) (rest := []) ⟨hx, hb, hml, hown, hts⟩ (cD_perform l hP hD Lh.1 Lh.2.1 hv) (cwV 0 hts gL_43 rfl rfl rfl (by decide +kernel) (rmF hR (by decide) (by decide))) (kP_V C (va_recv C.2.2.2.2.1 hP (ci := ciD) (q0 := 0) rfl rfl)) rfl rfl hl.1 rfl (lv_room (Nat.le_of_ble_eq_true rfl)) dL_law_337 ⟨by show _ ≤ 600000; omega, by show _ ≤ 7302249; omega⟩) hS (fun r _ H locs hq hP hD hS => ?_)
    subst hq
    refine lv_aload_n hx hb dL_law_340 rfl (lv_at hl 2 rfl) ?_
    refine wi (va_runV (As := []) (rest := [.int (nI (fg us ps am T va fl n 201 (st_s T S n, af, bl, tc)).2.2.2)]) ⟨hx, hb, hml, hown, hts⟩ (cM_perform l (dmP hP) (dmD hD) (LI_model Lh) hth hch) (cwV 0 hts gL_46 rfl rfl rfl (by decide +kernel) (rmF hR (by decide) (by decide))) (kP_V C (va_recv C.2.2.2.2.1 (dmP hP) (ci := ciM) (q0 := 0) rfl rfl)) rfl rfl hl.1 rfl (lv_room (Nat.le_of_ble_eq_true rfl)) dL_law_341 ⟨by show _ ≤ 600000; omega, by show _ ≤ 7302249; omega⟩) hS (fun r u H locs hq hP hD hS => ?_)
    obtain ⟨hms, hgd, hor⟩ := hq
    have Lh2 := LI_solve Lh hE hms hgd
    have hte := tot_eq Lh2 hE.2.2.2
    have hv := of_decide_eq_true hv
    rcases hor with ⟨⟨g, hg, hgt⟩, -, -, -⟩ | ⟨hall, rfl, e1, e2⟩
    · exfalso
      rw [hte g hg] at hgt
      exact of_decide_eq_false (hv g hg) hgt
    · rw [e1, e2] at hP hD
      have hP := mdP hP
      have hD := mdD hD
      have Lh3 := LI_perform Lh2 (af := (fg us ps am T va fl n 201 (st_s T S n, af, bl, tc)).2.1) (va2 := va_cpy (fg us ps am T va fl n 201 (st_s T S n, af, bl, tc)).2.1 va 0 0 300) (va2' := m_pv mn po an u.1 n va' 300) (T2 := d_en (fg us ps am T va fl n 201 (st_s T S n, af, bl, tc)).1 T n) (th2 := m_nt u.1 th n) hE.1 hE.2.2.2
        (fun q hq => by have z := of_decide_eq_false (hv q hq); rw [i64_lt, show (1000000000000000000 : Int64).toInt = 1000000000000000000 by decide] at z; omega)
        (fun q hq => by rw [pk_cpy_in (Nat.zero_le q) (by omega), Nat.zero_add, Nat.sub_zero])
        (fun q hq => by rw [(m_pv_at 300 q).1 hq]; exact m_tot_v (LI_model Lh2) u.1 hq n (Nat.le_refl n))
        (fun i hi => (d_en_at n i).1 hi) (fun i hi => (m_nt_at n i).1 hi) (fun i hi => by rw [(m_nt_at n i).2 hi]; exact hth i hi)
      refine lv_icmp_eq (tgt := 430) hx hb dL_law_344 (by decide) (fun c9 => ?_) (fun c9 => ?_)
      · exact kk (Lh3) hP hD hS (lv_sub hl [0, 1, 2, 3] rfl) (by omega) (by omega)
      · exact absurd (congrArg nI (cn_200 Lh2).1.symm) c9
end LAWC
end
section
/-! THE LAW: its loop and its start -/
section LAWE
variable {p : Program} {l : Launch} {e : Env} {s : State} {m : MethodId} {below : List Frame} {meth : Method} {c : Code} {b L : Nat} {xs : Nat → Int32} {Q : State → Prop} {D : va_G} {K : Nat → ClassId} {o o' : Nat → Nat}
set_option maxHeartbeats 1000000 in
set_option maxRecDepth 100000 in
theorem law_loop (G : lC D K p s m c b L xs) (kx : ∀ (H : Heap) (locs : List Loc) (ls : Array Slot) (cells slots : Nat), va_S (fun q => s.heap.size ≤ q) s.heap H locs → cells ≤ 2000 → slots ≤ 40000 → W p l e room_1 s m #[Value.ref b] below meth c H locs cells slots Q (F0 m 436 ls [])) : ∀ (f t : Nat), t ≤ 512 → L + 6 ≤ 6 * (t + f) → LK p l e s m below meth c b t Q D K o o' 18 0 0 := by
  intro f
  induction f with
  | zero =>
    intro t h1 h2 ad va fl af bl n tc sc T S us ps am va' fl' th ch mn po an H locs ls cells slots Lh hP hD hS hl hc hs
    obtain ⟨C, hml, hX, hbl, hL3⟩ := id G
    have hx := C.1
    have hb := C.2.1
    refine lv_iload_n hx hb dL_law_18 rfl (lv_at hl 3 rfl) ?_
    refine lv_aload_n hx hb dL_law_19 rfl (lv_at hl 0 rfl) ?_
    refine va_slen (A := fun q => s.heap.size ≤ q) hx hb hX hbl (Nat.not_le.mpr hbl) hS dL_law_20 ?_
    refine lv_bipush (v := nI 6) hx hb dL_law_21 (by decide) ?_
    refine lv_isub hx hb dL_law_23 ?_
    have e6 : (Int32.ofNat L - nI 6).toInt = (L : Int) - 6 := pk_sub_toInt (by omega) (by omega)
    have e7 : (nI (6 * t)).toInt = ((6 * t : Nat) : Int) := nI_toInt (by omega)
    refine lv_icmp_gt (tgt := 436) hx hb dL_law_24 (by decide) (fun c1 => ?_) (fun c1 => ?_)
    · exact kx H locs ls cells slots hS (by omega) (by omega)
    · have hlt : 6 * t + 6 ≤ L := by
        rw [Int32.lt_iff_toInt_lt, e6, e7] at c1
        omega
      exact absurd hlt (by omega)
  | succ f ih =>
    intro t h1 h2 ad va fl af bl n tc sc T S us ps am va' fl' th ch mn po an H locs ls cells slots Lh hP hD hS hl hc hs
    obtain ⟨C, hml, hX, hbl, hL3⟩ := id G
    have hx := C.1
    have hb := C.2.1
    refine lv_iload_n hx hb dL_law_18 rfl (lv_at hl 3 rfl) ?_
    refine lv_aload_n hx hb dL_law_19 rfl (lv_at hl 0 rfl) ?_
    refine va_slen (A := fun q => s.heap.size ≤ q) hx hb hX hbl (Nat.not_le.mpr hbl) hS dL_law_20 ?_
    refine lv_bipush (v := nI 6) hx hb dL_law_21 (by decide) ?_
    refine lv_isub hx hb dL_law_23 ?_
    have e6 : (Int32.ofNat L - nI 6).toInt = (L : Int) - 6 := pk_sub_toInt (by omega) (by omega)
    have e7 : (nI (6 * t)).toInt = ((6 * t : Nat) : Int) := nI_toInt (by omega)
    refine lv_icmp_gt (tgt := 436) hx hb dL_law_24 (by decide) (fun c1 => ?_) (fun c1 => ?_)
    · exact kx H locs ls cells slots hS (by omega) (by omega)
    · have hlt : 6 * t + 6 ≤ L := by
        rw [Int32.lt_iff_toInt_lt, e6, e7] at c1
        omega
      refine lv_aload_n hx hb dL_law_27 rfl (lv_at hl 0 rfl) ?_
      refine lv_iload_n hx hb dL_law_28 rfl (lv_at hl 3 rfl) ?_
      refine ldx hx hb hX hbl hS (by omega) hL3 dL_law_29 ?_
      refine lv_bipush (v := nI 15) hx hb dL_law_30 (by decide) ?_
      refine lv_iand hx hb dL_law_32 ?_
      obtain ⟨j, hj, ej⟩ := pk_andE (xs (6 * t)) (m := nI 15) 4 (by decide)
      refine tp_i (y := nI j) (ej) ?_
      have kk : LK p l e s m below meth c b t Q D K o o' 430 3 37 := by
        intro ad va fl af bl n tc sc T S us ps am va' fl' th ch mn po an H locs ls cells slots Lh hP hD hS hl hc hs
        refine lv_iinc (v := nI (6 * (t + 1))) (lv' := [(3, .int (nI (6 * (t + 1)))), (0, .ref b), (1, .ref (o 0)), (2, .ref (o' 0))]) hx hb dL_law_430 hl (k := 3) rfl (by show nI (6 * t) + nI 6 = _; rw [nI_add]; rfl) (by decide) rfl (fun ls hl => ?_)
        refine lv_goto (tgt := 18) hx hb dL_law_433 (by decide) ?_
        exact ih (t + 1) (by omega) (by omega) Lh hP hD hS (lv_sub hl [1, 2, 3, 0] rfl) (by omega) (by omega)
      by_cases h0 : j = 0
      · subst h0
        refine lv_tableIn (off := 55) (tgt := 88) hx hb dL_law_33 (by decide) (by decide) (by decide) (by decide) ?_
        exact law_place G hlt Lh hP hD hS hl hc hs kk
      by_cases h1 : j = 1
      · subst h1
        refine lv_tableIn (off := 158) (tgt := 191) hx hb dL_law_33 (by decide) (by decide) (by decide) (by decide) ?_
        exact law_item G hlt Lh hP hD hS hl hc hs kk
      by_cases h2 : j = 2
      · subst h2
        refine lv_tableIn (off := 171) (tgt := 204) hx hb dL_law_33 (by decide) (by decide) (by decide) (by decide) ?_
        exact law_net G hlt Lh hP hD hS hl hc hs kk
      by_cases h3 : j = 3
      · subst h3
        refine lv_tableIn (off := 244) (tgt := 277) hx hb dL_law_33 (by decide) (by decide) (by decide) (by decide) ?_
        exact law_go G hlt Lh hP hD hS hl hc hs kk
      by_cases h4 : j = 4
      · subst h4
        refine lv_tableIn (off := 267) (tgt := 300) hx hb dL_law_33 (by decide) (by decide) (by decide) (by decide) ?_
        exact law_solve G hlt Lh hP hD hS hl hc hs kk
      by_cases h5 : j = 5
      · subst h5
        refine lv_tableIn (off := 280) (tgt := 313) hx hb dL_law_33 (by decide) (by decide) (by decide) (by decide) ?_
        exact law_in G hlt Lh hP hD hS hl hc hs kk
      by_cases h6 : j = 6
      · subst h6
        refine lv_tableIn (off := 303) (tgt := 336) hx hb dL_law_33 (by decide) (by decide) (by decide) (by decide) ?_
        exact law_perform G hlt Lh hP hD hS hl hc hs kk
      by_cases h7 : j = 7
      · subst h7
        refine lv_tableIn (off := 316) (tgt := 349) hx hb dL_law_33 (by decide) (by decide) (by decide) (by decide) ?_
        exact law_value G hlt Lh hP hD hS hl hc hs kk
      by_cases h8 : j = 8
      · subst h8
        refine lv_tableIn (off := 340) (tgt := 373) hx hb dL_law_33 (by decide) (by decide) (by decide) (by decide) ?_
        exact law_netOf G hlt Lh hP hD hS hl hc hs kk
      by_cases h9 : j = 9
      · subst h9
        refine lv_tableIn (off := 374) (tgt := 407) hx hb dL_law_33 (by decide) (by decide) (by decide) (by decide) ?_
        exact law_count G hlt Lh hP hD hS hl hc hs kk
      have ej2 : (nI j).toInt = (j : Int) := nI_toInt (by omega)
      refine lv_tableOut (tgt := 430) hx hb dL_law_33 (by rw [ej2]; omega) (by decide) ?_
      exact kk Lh hP hD hS hl (by omega) (by omega)
end LAWE
end
section
/-! THE CLAIM OUT OF ONE WALK OF THE LAW'S BODY. Your part is whole_start (and what it stands on); all else here is the same for every law, but numbers. -/
def R_law : String := "GridDeskLaw"
def lw_P (b : Addr) (xs : List Int32) (args : Array Value) (s : State) : Prop := args = #[.ref b] ∧ s.IntsAt b xs ∧ xs.length ≤ 3072 ∧ (Jvm.Cond.and given_1 narrow_1).before args s = true
def lw_Q (_ : Array Value) (s : State) (o : Outcome) (t : State) : Prop := o = .returned (some (.int 1)) ∧ Framed s o t [] 600000 7302249
def lw_Z (below : List Frame) (a : Array Value) (s : State) : State → Prop := fun t => ∃ o, t.status = .running ∧ Ended t below o ∧ lw_Q a s o t
/-- the law's own end, with 1 on the stack, nothing written that was there before, its room as the claim has it -/
theorem lw_ret {p : Program} {l : Launch} {e : Env} {s : State} {m : MethodId} {below : List Frame} {meth : Method} {c : Code} {b : Nat} (hx : p.tables.exec = Jvm.exec) (hb : c.code = code) (hr : meth.sig.returnType = ret) (hlocks : meth.locks = false) {pc : Nat} {H : Heap} {ls : Array Slot} (hdg : decode code pc = .ok (.ireturn, 1)) : W p l e room_1 s m #[Value.ref b] below meth c H [] 600000 7302249 (lw_Z below #[Value.ref b] s) (F0 m pc ls [.int 1]) := by
  intro T hT X
  obtain ⟨fs, hret, hrun, hended, hW, hframe⟩ := X.leave (v := some (.int 1)) (hlocks := hlocks) (fun h => by rw [hr] at h; cases h)
  have hmeth' : T.vm.method? m = some meth := X.method'
  refine ⟨T.setFrames fs, ?_, .returned (some (.int 1)), hrun, hended, rfl, ⟨_, rfl⟩, hW, hframe⟩
  jvm_step X.here [X.here.top, hx, hb, hdg, hmeth', hr, ret, narrow_b1]
  (try refine ⟨rfl, ?_⟩); (try refine ⟨rfl, ?_⟩)
  first | (intro acts; rw [hret _ acts rfl rfl rfl]) | rw [hret _ _ rfl rfl rfl]
  exact Steps.refl _
/-- what holds at the law's entry: the machine, the code, the tables' words (any of lw_tbl by 'hts w (by decide +kernel)'), the script of L ints xs at the cell b, what the Statement gives of the start (any of its parts by flat_of_before) -/
def lw_At (p : Program) (s : State) (m : MethodId) (meth : Method) (c : Code) (b L : Nat) (xs : Nat → Int32) : Prop :=
  p.tables.exec = Jvm.exec ∧ c.code = code ∧ meth.sig.returnType = ret ∧ c.maxLocals = 4 ∧ s.vm.findClass R_law = some m.cls ∧ (∀ w ∈ lw_tbl, w.before #[Value.ref b] s = true) ∧ va_X b L xs s s.heap ∧ b < s.heap.size ∧ meth.locks = false ∧ (Jvm.Cond.and given_1 narrow_1).before #[Value.ref b] s = true
set_option maxHeartbeats 4000000 in
set_option maxRecDepth 100000 in
/-- THE LAW, from its entry -/
theorem whole_start {p : Program} {e : Env} {s : State} {m : MethodId} {below : List Frame} {meth : Method} {c : Code} (l : Launch) {b L : Nat} {xs : Nat → Int32} (hL : L ≤ 3072) (C0 : lw_At p s m meth c b L xs) : W p l e room_1 s m #[Value.ref b] below meth c s.heap [] 0 0 (lw_Z below #[Value.ref b] s) (entryFrame m ([Value.ref b] : List Value).toArray 4) := by
  obtain ⟨hx, hb, hr, hml, hown, hts0, hX, hbl, hlocks, hgv⟩ := id C0
  have hts := tT_of hts0
  have hA : ∀ q : Nat, s.heap.size ≤ q → (fun q : Nat => s.heap.size ≤ q) q := fun _ h => h
  obtain ⟨c0, iS0, hKn0⟩ := u_known (C := RX0) (T := TX0) (N := 5) (n := 5) hts in_I (hts (.instantiable RX0 5) (by decide +kernel))
  obtain ⟨c1, iS1, hKn1⟩ := u_known (C := RX1) (T := TX1) (N := 8) (n := 8) hts in_D (hts (.instantiable RX1 8) (by decide +kernel))
  obtain ⟨c2, iS2, hKn2⟩ := u_known (C := RX2) (T := TX2) (N := 8) (n := 8) hts in_M (hts (.instantiable RX2 8) (by decide +kernel))
  obtain ⟨D, hKc⟩ : ∃ D : va_G, ∀ (k : Nat) (q : vw_C), vwCl[k]? = some q → u_Kn s q.1 q.2.1 q.2.2 (D.1 k) (D.2 k) := by
    refine ⟨(fun k => if k = 0 then c0 else if k = 1 then c1 else c2, fun k => if k = 0 then iS0 else if k = 1 then iS1 else iS2), ?_⟩
    intro k q hq
    match k, hq with
    | 0, hq => cases hq; exact hKn0
    | 1, hq => cases hq; exact hKn1
    | 2, hq => cases hq; exact hKn2
    | k + 3, hq => simp [vwCl] at hq
  have hO : va_AO RIt s := va_AO.of (hts0 (.arrayOver (.object RIt)) (by decide +kernel))
  obtain ⟨K, hK⟩ := mkK hKc hts hO
  have hN : ∀ w ∈ nW, va_Nw w s := by
    intro w hw
    have h1 := List.mem_filter.mp hw
    have h2 := hts0 w h1.1
    have h3 := h1.2
    cases w with
    | fieldLinkNest a i b n d k => exact va_Nw.of rfl h2
    | methodLinkNest a i x k => exact va_Nw.of rfl h2
    | _ => cases h3
  have C : cx RL D K p s m #[Value.ref b] c code := ⟨hx, hb, hown, hts, hK, hN, hO⟩
  have hR : rmOk room_1 8 0 0 := ⟨by decide, by decide, Nat.zero_le _, Nat.zero_le _⟩
  have hS : va_S (fun q : Nat => s.heap.size ≤ q) s.heap s.heap [] := va_S.rf
  have hP : va_P D vwCl [] s.heap := fun k q h => by simp at h
  have hD : va_D (fun q : Nat => s.heap.size ≤ q) [] := ⟨fun i j p q h => by simp at h, fun k q h => by simp at h⟩
  have hl := lv_entry ([.ref b]) (n := 4) (Nat.le_of_ble_eq_true rfl)
  rw [lg_entry_eq]
  generalize (lg_sl ([.ref b]) ++ List.replicate (4 - (lg_sl ([.ref b])).length) Slot.unset).toArray = ls at hl ⊢
  have hl : lv_has ls 4 [(0, .ref b)] := hl
  refine va_new (ci := ciD) (fs := [.null, .null, .null, .int (nI 0), .int (nI 0), .int (nI 0), .null, .null]) (C := RX1) (T := TX1) (N := 8) hx hb hts in_D tyX1 tyX1_ok hown (hts _ (by decide +kernel : Cond.classLink RL 7 RX1 ∈ tT)) (hts _ (by decide +kernel : Cond.instantiable RX1 8 ∈ tT)) (hts _ (by decide +kernel : Cond.initialized RX1 ∈ tT)) hK hP hD hS hA rfl (fun j hj => by rcases (show j = 0 ∨ j = 1 ∨ j = 2 ∨ j = 3 ∨ j = 4 ∨ j = 5 ∨ j = 6 ∨ j = 7 by omega) with rfl | rfl | rfl | rfl | rfl | rfl | rfl | rfl <;> rfl) (Nat.le_of_ble_eq_true rfl) (Nat.le_of_ble_eq_true rfl) dL_law_0 (fun x0 H hP hD hS => ?_)
  refine lv_dup hx hb dL_law_3 rfl ?_
  refine wv (va_runI (As := []) (rest := [.ref x0]) ⟨hx, hb, hml, hown, hts⟩ (cD_init l (ws := []) hP hD (fun q h9 => Nat.le_trans hS.1 h9)) (cwI 0 hts gL_9.1 rfl rfl rfl (hts _ gL_9.2.1) (hts _ gL_9.2.2.1) (hts _ gL_9.2.2.2) rfl (by decide +kernel) (rmF hR (by decide) (by decide))) (kP_S C) rfl rfl hl.1 rfl (lv_room (Nat.le_of_ble_eq_true rfl)) dL_law_4 ⟨Nat.le_of_ble_eq_true rfl, Nat.le_of_ble_eq_true rfl⟩) hS (fun u H locs hq hP hD hS => ?_)
  refine lv_astore_n (lv' := [(1, .ref x0), (0, .ref b)]) hx hb dL_law_7 rfl hl (by decide) rfl (fun ls hl => ?_)
  refine va_new (ci := ciM) (fs := [.null, .null, .int (nI 0), .null, .null, .null, .null, .null]) (C := RX2) (T := TX2) (N := 8) hx hb hts in_M tyX2 tyX2_ok hown (hts _ (by decide +kernel : Cond.classLink RL 10 RX2 ∈ tT)) (hts _ (by decide +kernel : Cond.instantiable RX2 8 ∈ tT)) (hts _ (by decide +kernel : Cond.initialized RX2 ∈ tT)) hK hP hD hS hA rfl (fun j hj => by rcases (show j = 0 ∨ j = 1 ∨ j = 2 ∨ j = 3 ∨ j = 4 ∨ j = 5 ∨ j = 6 ∨ j = 7 by omega) with rfl | rfl | rfl | rfl | rfl | rfl | rfl | rfl <;> rfl) (Nat.le_of_ble_eq_true rfl) (Nat.le_of_ble_eq_true rfl) dL_law_8 (fun y0 H hP hD hS => ?_)
  refine lv_dup hx hb dL_law_11 rfl ?_
  refine wv (va_runI (As := []) (rest := [.ref y0]) ⟨hx, hb, hml, hown, hts⟩ (cM_init l hP hD (fun q h9 => Nat.le_trans hS.1 h9)) (cwI 0 hts gL_12.1 rfl rfl rfl (hts _ gL_12.2.1) (hts _ gL_12.2.2.1) (hts _ gL_12.2.2.2) rfl (by decide +kernel) (rmF hR (by decide) (by decide))) (kP_S C) rfl rfl hl.1 rfl (lv_room (Nat.le_of_ble_eq_true rfl)) dL_law_12 ⟨Nat.le_of_ble_eq_true rfl, Nat.le_of_ble_eq_true rfl⟩) hS (fun v H locs hq hP hD hS => ?_)
  refine lv_astore_n (lv' := [(2, .ref y0), (1, .ref x0), (0, .ref b)]) hx hb dL_law_15 rfl hl (by decide) rfl (fun ls hl => ?_)
  refine lv_iconst (v := nI 0) hx hb dL_law_16 (by decide) ?_
  refine lv_istore_n (lv' := [(3, .int (nI 0)), (2, .ref y0), (1, .ref x0), (0, .ref b)]) hx hb dL_law_17 rfl hl (by decide) rfl (fun ls hl => ?_)
  obtain ⟨o, eo⟩ : ∃ o : Nat → Nat, o = fun k => if k = 0 then x0 else if k = 1 then u.1 else if k = 2 then u.2.1 else if k = 3 then u.2.2.1 else if k = 4 then u.2.2.2.1 else u.2.2.2.2 := ⟨_, rfl⟩
  obtain ⟨o', eo'⟩ : ∃ o' : Nat → Nat, o' = fun k => if k = 0 then y0 else if k = 1 then v.1 else if k = 2 then v.2.1 else if k = 3 then v.2.2.1 else if k = 4 then v.2.2.2.1 else if k = 5 then v.2.2.2.2.1 else if k = 6 then v.2.2.2.2.2.1 else v.2.2.2.2.2.2 := ⟨_, rfl⟩
  have hl : lv_has ls 4 [(0, .ref b), (1, .ref (o 0)), (2, .ref (o' 0)), (3, .int (nI (6 * 0)))] := by
    rw [eo, eo']
    exact lv_sub hl [3, 2, 1, 0] rfl
  have hP : va_P D vwCl (dW (mW [] o' K (fun _ => 0) (fun _ => 0) 0 (fun _ => false) (fun _ => false) (fun _ => 0) (fun _ => 0) (fun _ => 0)) o K (fun _ => (0, 0, 0)) (fun _ => 0) (fun _ => 0) (fun _ => 0) (fun _ => false) 0 0 0 (fun _ => false) (fun _ => false) (fun _ => 0) (fun _ _ => 0) (fun _ _ => 0)) H := by
    rw [eo, eo']
    exact hP
  have hD : va_D (fun q => s.heap.size ≤ q) (dW (mW [] o' K (fun _ => 0) (fun _ => 0) 0 (fun _ => false) (fun _ => false) (fun _ => 0) (fun _ => 0) (fun _ => 0)) o K (fun _ => (0, 0, 0)) (fun _ => 0) (fun _ => 0) (fun _ => 0) (fun _ => false) 0 0 0 (fun _ => false) (fun _ => false) (fun _ => 0) (fun _ _ => 0) (fun _ _ => 0)) := by
    rw [eo, eo']
    exact hD
  refine law_loop (G := ⟨C, hml, hX, hbl, hL⟩) (fun H locs ls cells slots hS hc hs => ?_) 513 0 (by omega) (by omega) LI_0 hP hD hS hl (by decide) (by decide)
  refine lv_iconst (v := 1) hx hb dL_law_436 (by decide) ?_
  refine va_forget (fun q hq => hS.2.2 q hq) ?_
  refine W.widen (k := 600000) (n := 7302249) (by omega) (by omega) ?_
  exact lw_ret hx hb hr hlocks dL_law_437
-- ===== YOUR PART ENDS =====
set_option maxHeartbeats 4000000 in
theorem lw_walk (l : Launch) (b : Addr) (xs : List Int32) : MetFree l x (headSpec (Jvm.Cond.code x code maxLocals ret :: tables_1) room_1) (lw_P b xs) (fun _ _ _ _ _ => True) lw_Q := by
  refine MetFree.of_bodyS (code := code) (maxLocals := maxLocals) (ret := ret) (by decide) ?_ ?_
  · intro args s m h hn
    obtain ⟨meth, c, h1, h2, h3, h4, h5, h6, -, -⟩ := Cond.code_spec hn (atoms_spec (ws := Jvm.Cond.code x code maxLocals ret :: tables_1) h _ List.mem_cons_self)
    exact ⟨meth, c, h1, h2, h3, h4, h5, h6⟩
  · intro p e s m args below meth c s₁ B hml0 hP _
    obtain ⟨rfl, hx, hbd, hgv⟩ := hP
    obtain ⟨scr, harrAt, hlist, hof, hsmall⟩ := hx
    obtain ⟨hcb, hkn, -, -⟩ := State.arrayAt?_spec harrAt
    have hown : s.vm.findClass R_law = some m.cls := findClass_of_methodNamed B.named
    have hts0 : ∀ c ∈ (Jvm.Cond.code x code maxLocals ret :: tables_1), c.before #[Value.ref b] s = true := atoms_spec (ws := Jvm.Cond.code x code maxLocals ret :: tables_1) B.pre
    have hts : ∀ w ∈ lw_tbl, w.before #[Value.ref b] s = true := k2_hts_sels lw_privs (fun w hw => hts0 w (List.mem_cons_of_mem _ hw)) lw_privs_ok
    have hml : c.maxLocals = 4 := B.maxLocals_eq (hts0 _ List.mem_cons_self)
    have X₀ : Stand p l e room_1 s m #[Value.ref b] below meth c s₁ [] 0 0 := Stand.of_body B
    have hh0 : s₁.heap = s.heap := by rw [B.state]; rfl
    have hsz : scr.slots.size = xs.length := by rw [← Array.length_toList, hlist, List.length_map]
    have hval : ∀ j : Nat, j < xs.length → scr.slots[j]? = some (.int (xs.getD j 0)) := fun j hj => by
      rw [← Array.getElem?_toList, hlist]
      simp [hj]
    have hbl : b < s.heap.size := (Array.getElem?_eq_some_iff.mp hcb).1
    have hX : va_X b xs.length (fun j => xs.getD j 0) s s.heap := ⟨scr, hcb, hof, hkn, hsz, hval⟩
    have K : W p l e room_1 s m #[Value.ref b] below meth c s₁.heap [] 0 0 (lw_Z below #[Value.ref b] s) (entryFrame m ([Value.ref b] : List Value).toArray 4) := by
      rw [hh0]
      exact whole_start l hbd ⟨B.exec, B.bytes, B.returns, hml, hown, hts, hX, hbl, B.notSynchronized, hgv⟩
    obtain ⟨t, a1, o, b1, b2, b3⟩ := K s₁ rfl X₀
    exact ⟨t, o, a1, b1, b2, b3⟩
theorem lw_pre_spec {args : Array Value} {s : State} (h : (Jvm.Cond.and given_1 narrow_1).before args s = true) (hr : rest_1_c.before args s = true) : ∃ (b : Addr) (xs : List Int32), lw_P b xs args s := by
  have hs := flat_of_before _ h
  have hq := flat_of_before _ hr
  have hc : (Cond.count 1).before args s = true := hs _ (by decide +kernel)
  have harr : (Cond.arrayOf (.arg 0) .int).before args s = true := hs _ (by decide +kernel)
  have hle : (Cond.le (.length (.arg 0)) (.int 3072)).before args s = true := hs _ (by decide +kernel)
  have hlen : (Cond.isInt (.length (.arg 0))).before args s = true := hq _ (by decide +kernel)
  have hall : (Cond.all (.arg 0) (.isInt (.elem (.arg 0) (.index 0)))).before args s = true := hq _ (by decide +kernel)
  obtain ⟨b, xs, hb, hx⟩ := State.ints_of_pre rfl harr hlen hall
  have hsm : xs.length < 2 ^ 31 := hx.choose_spec.2.2.2
  have hev : (Term.length (.arg 0)).eval args s none [] s = some (.int xs.length.toInt32) := hx.length_eval hb
  have hv := Cond.le_ints hev (show (Term.int 3072).eval args s none [] s = some (.int 3072) from rfl)
  have hd : xs.length.toInt32 ≤ 3072 := by
    simpa [Cond.before, Cond.holds, hv] using hle
  have hN : xs.length ≤ 3072 := (Int32.ofNat_le_ofNat hsm (by decide)).mp (show Int32.ofNat xs.length ≤ Int32.ofNat 3072 from hd)
  exact ⟨b, xs, Cond.one_arg hc (show args[0]? = some (.ref b) from hb), hx, hN, h⟩
theorem lw_comes (l : Launch) : Comes l x (Jvm.Cond.code x code maxLocals ret :: tables_1) room_1 (fun tb e args s => Calls_1 tb e args s ∧ rest_1 tb e args s ∧ Pre_1 tb e args s)
    (fun _ _ args s o t => lw_Q args s o t) := by
  intro p e ha hc hk s m args below hf hfit hheap happ hpre
  obtain ⟨b, xs, hP⟩ := lw_pre_spec hpre.2.2 hpre.2.1
  obtain ⟨k, o, h1, h2, h3, hQ⟩ := lw_walk l b xs p e ha hc hk s m args below hf ((Spec.applies_iff_loose hf).mp happ).1 hP trivial
  exact ⟨k, o, h1, h2, h3, hQ⟩
theorem lw_frame {s t : State} {o : Outcome} {args : Array Value} (h : Framed s o t [] 600000 7302249) :
    Framed s o t (fieldLocs frame_1_writes args s ++ arrayLocs frame_1_arrays args s ++ staticLocs frame_1_statics s) 600000 7302249 := h
theorem lw_limb (L : Cond) (hL : ∀ (args : Array Value) (s t : State), L.after args s (.returned (some (.int 1))) t = true) :
    ArmFor flags0 classFile x code maxLocals ret World_1 tables_1 room_1 Calls_1 rest_1 Pre_1
      (fun tb e a s o t => postC L tb e a s o t ∧ Framed s o t (fieldLocs frame_1_writes a s ++ arrayLocs frame_1_arrays a s ++ staticLocs frame_1_statics s) 600000 7302249) := by
  intro l _ _ _ p e ha hc hk s m args below hf hfit hheap happ hpre
  obtain ⟨k, o, h1, h2, h3, rfl, hF⟩ := lw_comes l p e ha hc hk s m args below hf hfit hheap happ hpre
  exact ⟨k, _, h1, h2, h3, hL args s _, lw_frame hF⟩
theorem i_vc : Claimed_1_1 ∧ Claimed_1_2 := ⟨lw_limb limb_1_1 (fun args s t => by simp [limb_1_1, Cond.after, Cond.holds, Cond.value]), lw_limb limb_1_2 (fun args s t => Cond.after_iff.mpr (by
  first | (rw [show limb_1_2 = Cond.eq .result (.int 1) from rfl, Cond.eq_ints (x := 1) (y := 1) rfl rfl]; simp; done) | (simp [limb_1_2, Cond.value, Term.eval]; done)))⟩
end
