section
-- ===== PART A: goes FIRST, ahead of the names: the tables' words, and 'selects' of the private methods out of them =====
/-- a private method of a class that the tables say can be made, by its rows of tables_1 -/
def lw_okq (q : MethodName × Nat) : Prop := (q.1.cls ≠ "java/lang/invoke/MethodHandle" ∧ q.1.cls ≠ "java/lang/invoke/VarHandle") ∧ Cond.instantiable q.1.cls q.2 ∈ tables_1 ∧ Cond.privateMethod q.1 ∈ tables_1 ∧ Cond.instanceMethod q.1 ∈ tables_1
theorem lw_p0 : lw_okq (⟨"GridDesk", "itemThere", "(I)LGridDesk$Item;"⟩, 8) := ⟨⟨by decide +kernel, by decide +kernel⟩, List.mem_of_getElem? (i := 6) (by decide +kernel), List.mem_of_getElem? (i := 89) (by decide +kernel), List.mem_of_getElem? (i := 90) (by decide +kernel)⟩
theorem lw_p1 : lw_okq (⟨"GridDesk", "itemEver", "(I)LGridDesk$Item;"⟩, 8) := ⟨⟨by decide +kernel, by decide +kernel⟩, List.mem_of_getElem? (i := 6) (by decide +kernel), List.mem_of_getElem? (i := 93) (by decide +kernel), List.mem_of_getElem? (i := 94) (by decide +kernel)⟩
theorem lw_p2 : lw_okq (⟨"GridDesk$Item", "change", "(IJ)Z"⟩, 5) := ⟨⟨by decide +kernel, by decide +kernel⟩, List.mem_of_getElem? (i := 58) (by decide +kernel), List.mem_of_getElem? (i := 97) (by decide +kernel), List.mem_of_getElem? (i := 98) (by decide +kernel)⟩
theorem lw_p3 : lw_okq (⟨"GridDesk$Item", "amountFor", "(I)J"⟩, 5) := ⟨⟨by decide +kernel, by decide +kernel⟩, List.mem_of_getElem? (i := 58) (by decide +kernel), List.mem_of_getElem? (i := 103) (by decide +kernel), List.mem_of_getElem? (i := 104) (by decide +kernel)⟩
theorem lw_p4 : lw_okq (⟨"GridDesk$Item", "slotOf", "(I)I"⟩, 5) := ⟨⟨by decide +kernel, by decide +kernel⟩, List.mem_of_getElem? (i := 58) (by decide +kernel), List.mem_of_getElem? (i := 107) (by decide +kernel), List.mem_of_getElem? (i := 108) (by decide +kernel)⟩
theorem lw_p5 : lw_okq (⟨"GridDesk$Item", "addSlot", "(IJ)Z"⟩, 5) := ⟨⟨by decide +kernel, by decide +kernel⟩, List.mem_of_getElem? (i := 58) (by decide +kernel), List.mem_of_getElem? (i := 113) (by decide +kernel), List.mem_of_getElem? (i := 114) (by decide +kernel)⟩
theorem lw_p6 : lw_okq (⟨"GridDesk$Item", "freeSlot", "(I)V"⟩, 5) := ⟨⟨by decide +kernel, by decide +kernel⟩, List.mem_of_getElem? (i := 58) (by decide +kernel), List.mem_of_getElem? (i := 117) (by decide +kernel), List.mem_of_getElem? (i := 118) (by decide +kernel)⟩
theorem lw_p7 : lw_okq (⟨"GridDesk", "findGreatest", "()V"⟩, 8) := ⟨⟨by decide +kernel, by decide +kernel⟩, List.mem_of_getElem? (i := 6) (by decide +kernel), List.mem_of_getElem? (i := 129) (by decide +kernel), List.mem_of_getElem? (i := 130) (by decide +kernel)⟩
theorem lw_p8 : lw_okq (⟨"GridDesk", "startWithAllThere", "()V"⟩, 8) := ⟨⟨by decide +kernel, by decide +kernel⟩, List.mem_of_getElem? (i := 6) (by decide +kernel), List.mem_of_getElem? (i := 133) (by decide +kernel), List.mem_of_getElem? (i := 134) (by decide +kernel)⟩
theorem lw_p9 : lw_okq (⟨"GridDesk", "dropHopeless", "()Z"⟩, 8) := ⟨⟨by decide +kernel, by decide +kernel⟩, List.mem_of_getElem? (i := 6) (by decide +kernel), List.mem_of_getElem? (i := 137) (by decide +kernel), List.mem_of_getElem? (i := 138) (by decide +kernel)⟩
theorem lw_p10 : lw_okq (⟨"GridDesk", "startRows", "()V"⟩, 8) := ⟨⟨by decide +kernel, by decide +kernel⟩, List.mem_of_getElem? (i := 6) (by decide +kernel), List.mem_of_getElem? (i := 141) (by decide +kernel), List.mem_of_getElem? (i := 142) (by decide +kernel)⟩
theorem lw_p11 : lw_okq (⟨"GridDesk", "giveAll", "()V"⟩, 8) := ⟨⟨by decide +kernel, by decide +kernel⟩, List.mem_of_getElem? (i := 6) (by decide +kernel), List.mem_of_getElem? (i := 145) (by decide +kernel), List.mem_of_getElem? (i := 146) (by decide +kernel)⟩
theorem lw_p12 : lw_okq (⟨"GridDesk", "canTake", "(LGridDesk$Item;)Z"⟩, 8) := ⟨⟨by decide +kernel, by decide +kernel⟩, List.mem_of_getElem? (i := 6) (by decide +kernel), List.mem_of_getElem? (i := 149) (by decide +kernel), List.mem_of_getElem? (i := 150) (by decide +kernel)⟩
theorem lw_p13 : lw_okq (⟨"GridDesk", "take", "(LGridDesk$Item;)V"⟩, 8) := ⟨⟨by decide +kernel, by decide +kernel⟩, List.mem_of_getElem? (i := 6) (by decide +kernel), List.mem_of_getElem? (i := 153) (by decide +kernel), List.mem_of_getElem? (i := 154) (by decide +kernel)⟩
theorem lw_p14 : lw_okq (⟨"GridDesk", "drop", "(LGridDesk$Item;)V"⟩, 8) := ⟨⟨by decide +kernel, by decide +kernel⟩, List.mem_of_getElem? (i := 6) (by decide +kernel), List.mem_of_getElem? (i := 157) (by decide +kernel), List.mem_of_getElem? (i := 158) (by decide +kernel)⟩
theorem lw_p15 : lw_okq (⟨"GridDesk", "valuesFit", "()Z"⟩, 8) := ⟨⟨by decide +kernel, by decide +kernel⟩, List.mem_of_getElem? (i := 6) (by decide +kernel), List.mem_of_getElem? (i := 169) (by decide +kernel), List.mem_of_getElem? (i := 170) (by decide +kernel)⟩
def lw_privs_1 : List (MethodName × Nat) := [(⟨"GridDesk", "itemThere", "(I)LGridDesk$Item;"⟩, 8), (⟨"GridDesk", "itemEver", "(I)LGridDesk$Item;"⟩, 8), (⟨"GridDesk$Item", "change", "(IJ)Z"⟩, 5), (⟨"GridDesk$Item", "amountFor", "(I)J"⟩, 5), (⟨"GridDesk$Item", "slotOf", "(I)I"⟩, 5), (⟨"GridDesk$Item", "addSlot", "(IJ)Z"⟩, 5), (⟨"GridDesk$Item", "freeSlot", "(I)V"⟩, 5), (⟨"GridDesk", "findGreatest", "()V"⟩, 8), (⟨"GridDesk", "startWithAllThere", "()V"⟩, 8), (⟨"GridDesk", "dropHopeless", "()Z"⟩, 8), (⟨"GridDesk", "startRows", "()V"⟩, 8), (⟨"GridDesk", "giveAll", "()V"⟩, 8), (⟨"GridDesk", "canTake", "(LGridDesk$Item;)Z"⟩, 8), (⟨"GridDesk", "take", "(LGridDesk$Item;)V"⟩, 8), (⟨"GridDesk", "drop", "(LGridDesk$Item;)V"⟩, 8), (⟨"GridDesk", "valuesFit", "()Z"⟩, 8)]
theorem lw_r1 : ∀ q ∈ lw_privs_1, lw_okq q := List.forall_mem_cons.mpr ⟨lw_p0, List.forall_mem_cons.mpr ⟨lw_p1, List.forall_mem_cons.mpr ⟨lw_p2, List.forall_mem_cons.mpr ⟨lw_p3, List.forall_mem_cons.mpr ⟨lw_p4, List.forall_mem_cons.mpr ⟨lw_p5, List.forall_mem_cons.mpr ⟨lw_p6, List.forall_mem_cons.mpr ⟨lw_p7, List.forall_mem_cons.mpr ⟨lw_p8, List.forall_mem_cons.mpr ⟨lw_p9, List.forall_mem_cons.mpr ⟨lw_p10, List.forall_mem_cons.mpr ⟨lw_p11, List.forall_mem_cons.mpr ⟨lw_p12, List.forall_mem_cons.mpr ⟨lw_p13, List.forall_mem_cons.mpr ⟨lw_p14, List.forall_mem_cons.mpr ⟨lw_p15, fun _ h => absurd h List.not_mem_nil⟩⟩⟩⟩⟩⟩⟩⟩⟩⟩⟩⟩⟩⟩⟩⟩
theorem lw_p16 : lw_okq (⟨"GridDesk", "endItemsOfSet", "()V"⟩, 8) := ⟨⟨by decide +kernel, by decide +kernel⟩, List.mem_of_getElem? (i := 6) (by decide +kernel), List.mem_of_getElem? (i := 176) (by decide +kernel), List.mem_of_getElem? (i := 177) (by decide +kernel)⟩
theorem lw_p17 : lw_okq (⟨"GridDeskModel", "isThere", "(I)Z"⟩, 8) := ⟨⟨by decide +kernel, by decide +kernel⟩, List.mem_of_getElem? (i := 193) (by decide +kernel), List.mem_of_getElem? (i := 244) (by decide +kernel), List.mem_of_getElem? (i := 245) (by decide +kernel)⟩
theorem lw_p18 : lw_okq (⟨"GridDeskModel", "netAt", "(II)J"⟩, 8) := ⟨⟨by decide +kernel, by decide +kernel⟩, List.mem_of_getElem? (i := 193) (by decide +kernel), List.mem_of_getElem? (i := 250) (by decide +kernel), List.mem_of_getElem? (i := 251) (by decide +kernel)⟩
theorem lw_p19 : lw_okq (⟨"GridDeskModel", "find", "(II)I"⟩, 8) := ⟨⟨by decide +kernel, by decide +kernel⟩, List.mem_of_getElem? (i := 193) (by decide +kernel), List.mem_of_getElem? (i := 254) (by decide +kernel), List.mem_of_getElem? (i := 255) (by decide +kernel)⟩
theorem lw_p20 : lw_okq (⟨"GridDeskModel", "total", "(I)J"⟩, 8) := ⟨⟨by decide +kernel, by decide +kernel⟩, List.mem_of_getElem? (i := 193) (by decide +kernel), List.mem_of_getElem? (i := 268) (by decide +kernel), List.mem_of_getElem? (i := 269) (by decide +kernel)⟩
theorem lw_p21 : lw_okq (⟨"GridDeskModel", "lastTaker", "(I)I"⟩, 8) := ⟨⟨by decide +kernel, by decide +kernel⟩, List.mem_of_getElem? (i := 193) (by decide +kernel), List.mem_of_getElem? (i := 272) (by decide +kernel), List.mem_of_getElem? (i := 273) (by decide +kernel)⟩
theorem lw_p22 : lw_okq (⟨"GridDeskModel", "lacks", "(I)Z"⟩, 8) := ⟨⟨by decide +kernel, by decide +kernel⟩, List.mem_of_getElem? (i := 193) (by decide +kernel), List.mem_of_getElem? (i := 276) (by decide +kernel), List.mem_of_getElem? (i := 277) (by decide +kernel)⟩
theorem lw_p23 : lw_okq (⟨"GridDeskModel", "meet", "(II)Z"⟩, 8) := ⟨⟨by decide +kernel, by decide +kernel⟩, List.mem_of_getElem? (i := 193) (by decide +kernel), List.mem_of_getElem? (i := 280) (by decide +kernel), List.mem_of_getElem? (i := 281) (by decide +kernel)⟩
def lw_privs_2 : List (MethodName × Nat) := [(⟨"GridDesk", "endItemsOfSet", "()V"⟩, 8), (⟨"GridDeskModel", "isThere", "(I)Z"⟩, 8), (⟨"GridDeskModel", "netAt", "(II)J"⟩, 8), (⟨"GridDeskModel", "find", "(II)I"⟩, 8), (⟨"GridDeskModel", "total", "(I)J"⟩, 8), (⟨"GridDeskModel", "lastTaker", "(I)I"⟩, 8), (⟨"GridDeskModel", "lacks", "(I)Z"⟩, 8), (⟨"GridDeskModel", "meet", "(II)Z"⟩, 8)]
theorem lw_r2 : ∀ q ∈ lw_privs_2, lw_okq q := List.forall_mem_cons.mpr ⟨lw_p16, List.forall_mem_cons.mpr ⟨lw_p17, List.forall_mem_cons.mpr ⟨lw_p18, List.forall_mem_cons.mpr ⟨lw_p19, List.forall_mem_cons.mpr ⟨lw_p20, List.forall_mem_cons.mpr ⟨lw_p21, List.forall_mem_cons.mpr ⟨lw_p22, List.forall_mem_cons.mpr ⟨lw_p23, fun _ h => absurd h List.not_mem_nil⟩⟩⟩⟩⟩⟩⟩⟩
def lw_privs : List (MethodName × Nat) := lw_privs_1 ++ (lw_privs_2)
def lw_tbl : List Cond := k2_sels lw_privs ++ tables_1
theorem lw_privs_ok : ∀ q ∈ lw_privs, lw_okq q := by
  show ∀ q ∈ lw_privs_1 ++ (lw_privs_2), lw_okq q
  exact List.forall_mem_append.mpr ⟨lw_r1, lw_r2⟩
end
section
/-! NAMES: classes, fields, methods; printed by wip/whole/tools/names.py out of the task -/
def RX0 : String := "GridDesk$Item"
def TX0 : u_T := fun k => match k with
  | 0 => ("GridDesk$Item", "positions", "[I", true)
  | 1 => ("GridDesk$Item", "amounts", "[J", true)
  | 2 => ("GridDesk$Item", "used", "I", false)
  | 3 => ("GridDesk$Item", "there", "Z", false)
  | _ => ("GridDesk$Item", "inSet", "Z", false)
def tyX0 : Nat → FieldType := fun k => match k with
  | 0 => .array .int
  | 1 => .array .long
  | 2 => .int
  | 3 => .boolean
  | _ => .boolean
abbrev wsX00 : List Cond := u_ws RX0 TX0 5
theorem nmX0 : ∀ a, a < 5 → ∀ b, b < 5 → a ≠ b → (TX0 a).2.1 ≠ (TX0 b).2.1 := by decide +kernel
theorem tyX0_ok : ∀ k, k < 5 → parseFieldDescriptor (TX0 k).2.2.1 = some (tyX0 k) := by decide +kernel
def RX1 : String := "GridDesk"
def TX1 : u_T := fun k => match k with
  | 0 => ("GridDesk", "values", "[J", true)
  | 1 => ("GridDesk", "floors", "[J", true)
  | 2 => ("GridDesk", "items", "[LGridDesk$Item;", true)
  | 3 => ("GridDesk", "itemCount", "I", false)
  | 4 => ("GridDesk", "thereCount", "I", false)
  | 5 => ("GridDesk", "setCount", "I", false)
  | 6 => ("GridDesk", "after", "[J", true)
  | _ => ("GridDesk", "blocked", "[Z", true)
def tyX1 : Nat → FieldType := fun k => match k with
  | 0 => .array .long
  | 1 => .array .long
  | 2 => .array (.object "GridDesk$Item")
  | 3 => .int
  | 4 => .int
  | 5 => .int
  | 6 => .array .long
  | _ => .array .boolean
abbrev wsX10 : List Cond := u_ws RX1 TX1 8
theorem nmX1 : ∀ a, a < 8 → ∀ b, b < 8 → a ≠ b → (TX1 a).2.1 ≠ (TX1 b).2.1 := by decide +kernel
theorem tyX1_ok : ∀ k, k < 8 → parseFieldDescriptor (TX1 k).2.2.1 = some (tyX1 k) := by decide +kernel
def RX2 : String := "GridDeskModel"
def TX2 : u_T := fun k => match k with
  | 0 => ("GridDeskModel", "values", "[J", true)
  | 1 => ("GridDeskModel", "floors", "[J", true)
  | 2 => ("GridDeskModel", "items", "I", false)
  | 3 => ("GridDeskModel", "there", "[Z", true)
  | 4 => ("GridDeskModel", "chosen", "[Z", true)
  | 5 => ("GridDeskModel", "many", "[I", true)
  | 6 => ("GridDeskModel", "positions", "[I", true)
  | _ => ("GridDeskModel", "amounts", "[J", true)
def tyX2 : Nat → FieldType := fun k => match k with
  | 0 => .array .long
  | 1 => .array .long
  | 2 => .int
  | 3 => .array .boolean
  | 4 => .array .boolean
  | 5 => .array .int
  | 6 => .array .int
  | _ => .array .long
abbrev wsX20 : List Cond := u_ws RX2 TX2 8
theorem nmX2 : ∀ a, a < 8 → ∀ b, b < 8 → a ≠ b → (TX2 a).2.1 ≠ (TX2 b).2.1 := by decide +kernel
theorem tyX2_ok : ∀ k, k < 8 → parseFieldDescriptor (TX2 k).2.2.1 = some (tyX2 k) := by decide +kernel
def RL : String := "GridDeskLaw"
abbrev cX1_init : ByteArray := prog_1_method_1_code
def yX1_init : MethodName := ⟨RX1, "<init>", "()V"⟩
abbrev cX1_place : ByteArray := prog_1_method_2_code
def yX1_place : MethodName := ⟨RX1, "place", "(IJJ)Z"⟩
abbrev cX1_item : ByteArray := prog_1_method_3_code
def yX1_item : MethodName := ⟨RX1, "item", "()I"⟩
abbrev cX1_net : ByteArray := prog_1_method_4_code
def yX1_net : MethodName := ⟨RX1, "net", "(IIJ)Z"⟩
abbrev cX1_go : ByteArray := prog_1_method_5_code
def yX1_go : MethodName := ⟨RX1, "go", "(I)Z"⟩
abbrev cX1_solve : ByteArray := prog_1_method_6_code
def yX1_solve : MethodName := ⟨RX1, "solve", "()I"⟩
abbrev cX1_in : ByteArray := prog_1_method_7_code
def yX1_in : MethodName := ⟨RX1, "in", "(I)Z"⟩
abbrev cX1_perform : ByteArray := prog_1_method_8_code
def yX1_perform : MethodName := ⟨RX1, "perform", "()I"⟩
abbrev cX1_value : ByteArray := prog_1_method_9_code
def yX1_value : MethodName := ⟨RX1, "value", "(I)J"⟩
abbrev cX1_netOf : ByteArray := prog_1_method_10_code
def yX1_netOf : MethodName := ⟨RX1, "netOf", "(II)J"⟩
abbrev cX1_count : ByteArray := prog_1_method_11_code
def yX1_count : MethodName := ⟨RX1, "count", "(I)I"⟩
abbrev cX1_isPosition : ByteArray := prog_1_method_12_code
def yX1_isPosition : MethodName := ⟨RX1, "isPosition", "(I)Z"⟩
abbrev cX1_isValue : ByteArray := prog_1_method_13_code
def yX1_isValue : MethodName := ⟨RX1, "isValue", "(J)Z"⟩
abbrev cX1_itemEver : ByteArray := prog_1_method_14_code
def yX1_itemEver : MethodName := ⟨RX1, "itemEver", "(I)LGridDesk$Item;"⟩
abbrev cX1_itemThere : ByteArray := prog_1_method_15_code
def yX1_itemThere : MethodName := ⟨RX1, "itemThere", "(I)LGridDesk$Item;"⟩
abbrev cX1_findGreatest : ByteArray := prog_1_method_16_code
def yX1_findGreatest : MethodName := ⟨RX1, "findGreatest", "()V"⟩
abbrev cX1_startWithAllThere : ByteArray := prog_1_method_17_code
def yX1_startWithAllThere : MethodName := ⟨RX1, "startWithAllThere", "()V"⟩
abbrev cX1_dropHopeless : ByteArray := prog_1_method_18_code
def yX1_dropHopeless : MethodName := ⟨RX1, "dropHopeless", "()Z"⟩
abbrev cX1_startRows : ByteArray := prog_1_method_19_code
def yX1_startRows : MethodName := ⟨RX1, "startRows", "()V"⟩
abbrev cX1_giveAll : ByteArray := prog_1_method_20_code
def yX1_giveAll : MethodName := ⟨RX1, "giveAll", "()V"⟩
abbrev cX1_canTake : ByteArray := prog_1_method_21_code
def yX1_canTake : MethodName := ⟨RX1, "canTake", "(LGridDesk$Item;)Z"⟩
abbrev cX1_take : ByteArray := prog_1_method_22_code
def yX1_take : MethodName := ⟨RX1, "take", "(LGridDesk$Item;)V"⟩
abbrev cX1_drop : ByteArray := prog_1_method_23_code
def yX1_drop : MethodName := ⟨RX1, "drop", "(LGridDesk$Item;)V"⟩
abbrev cX1_valuesFit : ByteArray := prog_1_method_24_code
def yX1_valuesFit : MethodName := ⟨RX1, "valuesFit", "()Z"⟩
abbrev cX1_endItemsOfSet : ByteArray := prog_1_method_25_code
def yX1_endItemsOfSet : MethodName := ⟨RX1, "endItemsOfSet", "()V"⟩
abbrev cX2_init : ByteArray := prog_4_method_1_code
def yX2_init : MethodName := ⟨RX2, "<init>", "()V"⟩
abbrev cX2_isPosition : ByteArray := prog_4_method_2_code
def yX2_isPosition : MethodName := ⟨RX2, "isPosition", "(I)Z"⟩
abbrev cX2_isValue : ByteArray := prog_4_method_3_code
def yX2_isValue : MethodName := ⟨RX2, "isValue", "(J)Z"⟩
abbrev cX2_place : ByteArray := prog_4_method_4_code
def yX2_place : MethodName := ⟨RX2, "place", "(IJJ)Z"⟩
abbrev cX2_item : ByteArray := prog_4_method_5_code
def yX2_item : MethodName := ⟨RX2, "item", "()I"⟩
abbrev cX2_isThere : ByteArray := prog_4_method_6_code
def yX2_isThere : MethodName := ⟨RX2, "isThere", "(I)Z"⟩
abbrev cX2_find : ByteArray := prog_4_method_7_code
def yX2_find : MethodName := ⟨RX2, "find", "(II)I"⟩
abbrev cX2_netAt : ByteArray := prog_4_method_8_code
def yX2_netAt : MethodName := ⟨RX2, "netAt", "(II)J"⟩
abbrev cX2_net : ByteArray := prog_4_method_9_code
def yX2_net : MethodName := ⟨RX2, "net", "(IIJ)Z"⟩
abbrev cX2_go : ByteArray := prog_4_method_10_code
def yX2_go : MethodName := ⟨RX2, "go", "(I)Z"⟩
abbrev cX2_total : ByteArray := prog_4_method_11_code
def yX2_total : MethodName := ⟨RX2, "total", "(I)J"⟩
abbrev cX2_lastTaker : ByteArray := prog_4_method_12_code
def yX2_lastTaker : MethodName := ⟨RX2, "lastTaker", "(I)I"⟩
abbrev cX2_meet : ByteArray := prog_4_method_13_code
def yX2_meet : MethodName := ⟨RX2, "meet", "(II)Z"⟩
abbrev cX2_lacks : ByteArray := prog_4_method_14_code
def yX2_lacks : MethodName := ⟨RX2, "lacks", "(I)Z"⟩
abbrev cX2_solve : ByteArray := prog_4_method_15_code
def yX2_solve : MethodName := ⟨RX2, "solve", "()I"⟩
abbrev cX2_in : ByteArray := prog_4_method_16_code
def yX2_in : MethodName := ⟨RX2, "in", "(I)Z"⟩
abbrev cX2_perform : ByteArray := prog_4_method_17_code
def yX2_perform : MethodName := ⟨RX2, "perform", "()I"⟩
abbrev cX2_value : ByteArray := prog_4_method_18_code
def yX2_value : MethodName := ⟨RX2, "value", "(I)J"⟩
abbrev cX2_netOf : ByteArray := prog_4_method_19_code
def yX2_netOf : MethodName := ⟨RX2, "netOf", "(II)J"⟩
abbrev cX2_count : ByteArray := prog_4_method_20_code
def yX2_count : MethodName := ⟨RX2, "count", "(I)I"⟩
abbrev cX0_init : ByteArray := prog_2_method_1_code
def yX0_init : MethodName := ⟨RX0, "<init>", "()V"⟩
abbrev cX0_slotOf : ByteArray := prog_2_method_2_code
def yX0_slotOf : MethodName := ⟨RX0, "slotOf", "(I)I"⟩
abbrev cX0_amountFor : ByteArray := prog_2_method_3_code
def yX0_amountFor : MethodName := ⟨RX0, "amountFor", "(I)J"⟩
abbrev cX0_change : ByteArray := prog_2_method_4_code
def yX0_change : MethodName := ⟨RX0, "change", "(IJ)Z"⟩
abbrev cX0_addSlot : ByteArray := prog_2_method_5_code
def yX0_addSlot : MethodName := ⟨RX0, "addSlot", "(IJ)Z"⟩
abbrev cX0_freeSlot : ByteArray := prog_2_method_6_code
def yX0_freeSlot : MethodName := ⟨RX0, "freeSlot", "(I)V"⟩
abbrev vwCl : List vw_C := [(RX0, TX0, 5), (RX1, TX1, 8), (RX2, TX2, 8)]
abbrev RIt : String := RX0
abbrev RD : String := RX1
abbrev RM : String := RX2
abbrev TI : u_T := TX0
abbrev TD : u_T := TX1
abbrev TM : u_T := TX2
abbrev tyI := tyX0
abbrev tyD := tyX1
abbrev tyM := tyX2
abbrev ciI : Nat := 0
abbrev ciD : Nat := 1
abbrev ciM : Nat := 2
end
section
/-! WORDS, CONTEXT, CALLS: one list of words for all methods; what a walk stands on; a call of a method that only answers, a call of one that writes -/
def tIsA : Cond → Bool
  | .arrayClass _ => true
  | _ => false
def tIsN : Cond → Bool
  | .fieldLinkNest _ _ _ _ _ _ => true
  | .methodLinkNest _ _ _ _ => true
  | _ => false
def tGd (w : Cond) : Bool := (w.onTables && w.keeps) || tIsA w
/-- all words of the tables that stay -/
def tT : List Cond := lw_tbl.filter tGd
/-- the words of nest mates -/
def nW : List Cond := lw_tbl.filter tIsN
theorem tT_good : ∀ w ∈ tT, (w.onTables && w.keeps) = true ∨ ∃ ty, w = .arrayClass ty := by
  intro w hw
  have h := (List.mem_filter.mp hw).2
  unfold tGd at h
  rcases Bool.or_eq_true_iff.mp h with h | h
  · exact Or.inl h
  · cases w with
    | arrayClass ty => exact Or.inr ⟨ty, rfl⟩
    | _ => cases h
theorem tT_of {args : Array Value} {s : State} (h : ∀ w ∈ lw_tbl, w.before args s = true) : ∀ w ∈ tT, w.before args s = true := fun w hw => h w (List.mem_filter.mp hw).1
theorem nW_warm {s U : State} (hW : s.WarmedH U.vm) (h : ∀ w ∈ nW, va_Nw w s) : ∀ w ∈ nW, va_Nw w U := by
  intro w hw
  have h1 := h w hw
  have h2 := (List.mem_filter.mp hw).2
  cases w with
  | fieldLinkNest a i b n d k => exact va_Nw.warmF hW h1
  | methodLinkNest a i x k => exact va_Nw.warmM hW h1
  | _ => cases h2
theorem nW_same {u U : State} (e : u.vm = U.vm) (h : ∀ w ∈ nW, va_Nw w u) : ∀ w ∈ nW, va_Nw w U := by
  intro w hw
  have h1 := h w hw
  have h2 := (List.mem_filter.mp hw).2
  cases w with
  | fieldLinkNest a i b n d k => exact va_Nw.same rfl e h1
  | methodLinkNest a i x k => exact va_Nw.same rfl e h1
  | _ => cases h2
theorem in_I : ∀ w ∈ u_ws RIt TI 5, w ∈ tT := by decide +kernel
theorem in_D : ∀ w ∈ u_ws RD TD 8, w ∈ tT := by decide +kernel
theorem in_M : ∀ w ∈ u_ws RM TM 8, w ∈ tT := by decide +kernel
/-- a method's words: its own code first -/
abbrev tC (y : MethodName) (b : ByteArray) (mL : Nat) (ret : Option FieldType) : List Cond := Cond.code y b mL ret :: tT
abbrev tyK (K : Nat → ClassId) : List (ClassId × FieldType) := [(K 0, .long), (K 1, .int), (K 2, .boolean), (K 3, .object RIt)]
/-- what a walk stands on -/
def cx (own : String) (D : va_G) (K : Nat → ClassId) (p : Program) (s : State) (m : MethodId) (args : Array Value) (c : Code) (cc : ByteArray) : Prop :=
  p.tables.exec = Jvm.exec ∧ c.code = cc ∧ s.vm.findClass own = some m.cls ∧ (∀ w ∈ tT, w.before args s = true) ∧ va_K D vwCl (tyK K) s ∧ (∀ w ∈ nW, va_Nw w s) ∧ va_AO RIt s
/-- a start: the arguments, the heap, the tables -/
def kP (D : va_G) (K : Nat → ClassId) (H : Heap) (As : List Value) : Array Value → State → Prop := va_Pc As (fun U => U.heap = H ∧ va_K D vwCl (tyK K) U ∧ (∀ w ∈ nW, va_Nw w U) ∧ va_AO RIt U)
theorem kP_blind {D : va_G} {K : Nat → ClassId} {H : Heap} {As : List Value} : FrameBlind (kP D K H As) := by
  intro a U g mk q
  obtain ⟨q0, q1, q2, q3, q4⟩ := q
  exact ⟨q0, q1, va_K.moved (u := U) (U := U.calling g mk a) (Vm.Alike.refl U.vm) q2, nW_same (u := U) (U := U.calling g mk a) rfl q3, va_AO.moved (u := U) (U := U.calling g mk a) (Vm.Alike.refl U.vm) q4⟩
section BASE
variable {p : Program} {l : Launch} {e : Env} {Rm : Room} {s : State} {m : MethodId} {args : Array Value} {below : List Frame} {meth : Method} {c : Code} {H : Heap} {locs : List Loc} {cells slots : Nat} {Q : State → Prop} {cc : ByteArray} {pc : Nat} {ls : Array Slot} {rest st0 : List Value} {own : String} {D : va_G} {K : Nat → ClassId} {A : Nat → Prop} {H0 : Heap} {As : List Value}
theorem tp_i {x y : Int32} (h : x = y) (kk : W p l e Rm s m args below meth c H locs cells slots Q (F0 m pc ls (.int y :: rest))) : W p l e Rm s m args below meth c H locs cells slots Q (F0 m pc ls (.int x :: rest)) := by
  rw [h]; exact kk
theorem tp_l {x y : Int64} (h : x = y) (kk : W p l e Rm s m args below meth c H locs cells slots Q (F0 m pc ls (.long y :: rest))) : W p l e Rm s m args below meth c H locs cells slots Q (F0 m pc ls (.long x :: rest)) := by
  rw [h]; exact kk
theorem kP_S (C : cx own D K p s m args c cc) : PreS s H (kP D K H As) As := ⟨kP_blind, fun _ hU hW => ⟨rfl, hU, va_K.moved hW.alike C.2.2.2.2.1, nW_warm hW C.2.2.2.2.2.1, va_AO.moved hW.alike C.2.2.2.2.2.2⟩⟩
theorem kP_V {Cn : String} {b : Addr} (C : cx own D K p s m args c cc) (hr : ∃ cellB : Cell, H[b]? = some cellB ∧ cellB.vm.isStatics = false ∧ s.vm.findClass Cn = some cellB.cls) : PreV s H Cn b (kP D K H (.ref b :: As)) As := ⟨kP_blind, hr, fun _ hU hW => ⟨rfl, hU, va_K.moved hW.alike C.2.2.2.2.1, nW_warm hW C.2.2.2.2.2.1, va_AO.moved hW.alike C.2.2.2.2.2.2⟩⟩
/-- a call of a method that only answers -/
theorem pv {r : Value} {a : Array Value} (hr : va_Run p l e Rm s m args below meth c H locs cells slots 0 0 (F0 m pc ls st0) rest (k2_QcV r a) (fun _ => False)) (kk : W p l e Rm s m args below meth c H locs cells slots Q (F0 m (pc + 3) ls (r :: rest))) : W p l e Rm s m args below meth c H locs cells slots Q (F0 m pc ls st0) := by
  intro T hT X
  obtain ⟨v, st₀, t, T', L, h0, X', hL, e1, e2, ⟨hv, hh⟩, st⟩ := hr T hT X
  cases hv
  obtain ⟨t2, a1, b1⟩ := kk T' (by rw [e1, hh, h0]) (Stand.forget X' (fun q h => (hL q h).elim))
  exact ⟨t2, st t2 a1, b1⟩
/-- the end of a method that writes: an answer and a new world -/
abbrev qV {Sg : Type} (D : va_G) (A : Nat → Prop) (post : Sg → Prop) (f : Sg → va_W) : Array Value → State → Outcome → State → Prop := va_Qv post (fun u t => va_P D vwCl (f u) t.heap ∧ va_D A (f u)) A
abbrev qI {Sg : Type} (D : va_G) (A : Nat → Prop) (post : Int32 → Sg → Prop) (f : Sg → va_W) : Array Value → State → Outcome → State → Prop := va_Qi post (fun u t => va_P D vwCl (f u) t.heap ∧ va_D A (f u)) A
theorem wv {Sg : Type} {post : Sg → Prop} {f : Sg → va_W} {mc ms : Nat} {a : Array Value} (hr : va_Run p l e Rm s m args below meth c H locs cells slots mc ms (F0 m pc ls st0) rest (qV D A post f a) A) (hS : va_S A H0 H locs) (kk : ∀ (u : Sg) (H1 : Heap) (locs1 : List Loc), post u → va_P D vwCl (f u) H1 → va_D A (f u) → va_S A H0 H1 locs1 → W p l e Rm s m args below meth c H1 locs1 (cells + mc) (slots + ms) Q (F0 m (pc + 3) ls rest)) : W p l e Rm s m args below meth c H locs cells slots Q (F0 m pc ls st0) :=
  va_callv hr hS (fun _ _ h => h) (fun _ h => h) (fun u t H1 locs1 ht _ hp hB _ _ hS1 => kk u H1 locs1 hp (ht ▸ hB.1) hB.2 hS1)
theorem wi {Sg : Type} {post : Int32 → Sg → Prop} {f : Sg → va_W} {mc ms : Nat} {a : Array Value} (hr : va_Run p l e Rm s m args below meth c H locs cells slots mc ms (F0 m pc ls st0) rest (qI D A post f a) A) (hS : va_S A H0 H locs) (kk : ∀ (r : Int32) (u : Sg) (H1 : Heap) (locs1 : List Loc), post r u → va_P D vwCl (f u) H1 → va_D A (f u) → va_S A H0 H1 locs1 → W p l e Rm s m args below meth c H1 locs1 (cells + mc) (slots + ms) Q (F0 m (pc + 3) ls (.int r :: rest))) : W p l e Rm s m args below meth c H locs cells slots Q (F0 m pc ls st0) :=
  va_calli hr hS (fun _ _ h => h) (fun _ h => h) (fun r u t H1 locs1 ht _ hp hB _ _ hS1 => kk r u H1 locs1 hp (ht ▸ hB.1) hB.2 hS1)
/-- a loop with a counter, that reads -/
theorem lpW {U pcH : Nat} {I : Nat → Array Slot → Prop} (hs : ∀ (k : Nat) (ls : Array Slot), k ≤ U → I k ls → (k < U → ∀ ls' : Array Slot, I (k + 1) ls' → W p l e Rm s m args below meth c H locs cells slots Q (F0 m pcH ls' [])) → W p l e Rm s m args below meth c H locs cells slots Q (F0 m pcH ls [])) : ∀ (k : Nat) (ls : Array Slot), k ≤ U → I k ls → W p l e Rm s m args below meth c H locs cells slots Q (F0 m pcH ls []) := by
  have h : ∀ (f k : Nat) (ls : Array Slot), U - k ≤ f → k ≤ U → I k ls → W p l e Rm s m args below meth c H locs cells slots Q (F0 m pcH ls []) := by
    intro f
    induction f with
    | zero => intro k ls h1 h2 h3; exact hs k ls h2 h3 (fun q => absurd q (by omega))
    | succ f ih => intro k ls h1 h2 h3; exact hs k ls h2 h3 (fun q ls' h4 => ih (k + 1) ls' (by omega) (by omega) h4)
  intro k ls
  exact h (U - k) k ls (Nat.le_refl _)
/-- a loop with a counter, that writes -/
theorem lpM {U pcH : Nat} {I : Nat → Array Slot → Heap → List Loc → Prop} (hs : ∀ (k : Nat) (ls : Array Slot) (H : Heap) (locs : List Loc), k ≤ U → I k ls H locs → (k < U → ∀ (ls' : Array Slot) (H' : Heap) (locs' : List Loc), I (k + 1) ls' H' locs' → W p l e Rm s m args below meth c H' locs' cells slots Q (F0 m pcH ls' [])) → W p l e Rm s m args below meth c H locs cells slots Q (F0 m pcH ls [])) : ∀ (k : Nat) (ls : Array Slot) (H : Heap) (locs : List Loc), k ≤ U → I k ls H locs → W p l e Rm s m args below meth c H locs cells slots Q (F0 m pcH ls []) := by
  have h : ∀ (f k : Nat) (ls : Array Slot) (H : Heap) (locs : List Loc), U - k ≤ f → k ≤ U → I k ls H locs → W p l e Rm s m args below meth c H locs cells slots Q (F0 m pcH ls []) := by
    intro f
    induction f with
    | zero => intro k ls H locs h1 h2 h3; exact hs k ls H locs h2 h3 (fun q => absurd q (by omega))
    | succ f ih => intro k ls H locs h1 h2 h3; exact hs k ls H locs h2 h3 (fun q ls' H' locs' h4 => ih (k + 1) ls' H' locs' (by omega) (by omega) h4)
  intro k ls H locs
  exact h (U - k) k ls H locs (Nat.le_refl _)
/-- a loop with a measure, that writes -/
theorem lpQ {α : Type} {pcH : Nat} {I : α → Array Slot → Heap → List Loc → Prop} (μ : α → Nat) (hs : ∀ (a : α) (ls : Array Slot) (H : Heap) (locs : List Loc), I a ls H locs → (∀ (a' : α) (ls' : Array Slot) (H' : Heap) (locs' : List Loc), μ a' < μ a → I a' ls' H' locs' → W p l e Rm s m args below meth c H' locs' cells slots Q (F0 m pcH ls' [])) → W p l e Rm s m args below meth c H locs cells slots Q (F0 m pcH ls [])) : ∀ (a : α) (ls : Array Slot) (H : Heap) (locs : List Loc), I a ls H locs → W p l e Rm s m args below meth c H locs cells slots Q (F0 m pcH ls []) := by
  have h : ∀ (f : Nat) (a : α) (ls : Array Slot) (H : Heap) (locs : List Loc), μ a < f → I a ls H locs → W p l e Rm s m args below meth c H locs cells slots Q (F0 m pcH ls []) := by
    intro f
    induction f with
    | zero => intro a ls H locs h1; exact absurd h1 (Nat.not_lt_zero _)
    | succ f ih => intro a ls H locs h1 h2; exact hs a ls H locs h2 (fun a' ls' H' locs' h3 h4 => ih a' ls' H' locs' (by omega) h4)
  intro a ls H locs
  exact h (μ a + 1) a ls H locs (Nat.lt_succ_self _)
end BASE
/-- the room of a method whose calls go k deep -/
abbrev rmK (k mc ms : Nat) : Room := { frames := k, cells := mc, slots := ms, locals := 28 * k }
/-- room for calls k deep -/
def rmOk (Rm : Room) (k cells slots : Nat) : Prop := k ≤ Rm.frames ∧ 28 * k ≤ Rm.locals ∧ cells ≤ Rm.cells ∧ slots ≤ Rm.slots
theorem rmF {Rm : Room} {k cells slots j mL mc ms : Nat} (h : rmOk Rm k cells slots) (hj : j + 1 ≤ k) (hm : mL ≤ 9) : (rmK j mc ms).frames + 1 ≤ Rm.frames ∧ 8 + (mL + 11) + (rmK j mc ms).locals ≤ Rm.locals := by
  obtain ⟨h1, h2, -, -⟩ := h
  exact ⟨by show j + 1 ≤ Rm.frames; omega, by show 8 + (mL + 11) + 28 * j ≤ Rm.locals; omega⟩
theorem gdT {ws : List Cond} (h : ∀ w ∈ ws, w ∈ tT) : GoodIn tT (ws ++ tT) := by
  intro w hw
  rcases List.mem_append.mp hw with q | q
  · exact ⟨h w q, tT_good w (h w q)⟩
  · exact ⟨q, tT_good w q⟩
theorem gdC {y : MethodName} {b : ByteArray} {mL : Nat} {ret : Option FieldType} (h : Cond.code y b mL ret ∈ tT) : GoodIn tT (tC y b mL ret) := gdT (ws := [Cond.code y b mL ret]) (fun w q => by rw [List.mem_singleton.mp q]; exact h)
end
section
/-! THE MATHEMATICS: sums over items, good sets, and what both searches keep. No machine here. -/
def sm (f : Nat → Int) : Nat → Int
  | 0 => 0
  | k + 1 => sm f k + f k
theorem sm_succ (f : Nat → Int) (k : Nat) : sm f (k + 1) = sm f k + f k := rfl
theorem sm_le {f g : Nat → Int} {n : Nat} (h : ∀ k, k < n → f k ≤ g k) : sm f n ≤ sm g n := by
  induction n with
  | zero => exact Int.le_refl _
  | succ n ih =>
    have h1 := ih (fun k hk => h k (Nat.lt_succ_of_lt hk))
    have h2 := h n (Nat.lt_succ_self n)
    rw [sm_succ, sm_succ]
    omega
theorem sm_congr {f g : Nat → Int} {n : Nat} (h : ∀ k, k < n → f k = g k) : sm f n = sm g n := by
  induction n with
  | zero => rfl
  | succ n ih =>
    have h1 := ih (fun k hk => h k (Nat.lt_succ_of_lt hk))
    have h2 := h n (Nat.lt_succ_self n)
    rw [sm_succ, sm_succ, h1, h2]
theorem sm_add (f g : Nat → Int) (n : Nat) : sm (fun k => f k + g k) n = sm f n + sm g n := by
  induction n with
  | zero => rfl
  | succ n ih =>
    rw [sm_succ, sm_succ, sm_succ, ih]
    omega
theorem sm_zero {f : Nat → Int} {n : Nat} (h : ∀ k, k < n → f k = 0) : sm f n = 0 := by
  induction n with
  | zero => rfl
  | succ n ih =>
    have h1 := ih (fun k hk => h k (Nat.lt_succ_of_lt hk))
    have h2 := h n (Nat.lt_succ_self n)
    rw [sm_succ, h1, h2]
    rfl
theorem sm_nonneg {f : Nat → Int} {n : Nat} (h : ∀ k, k < n → 0 ≤ f k) : 0 ≤ sm f n := by
  induction n with
  | zero => exact Int.le_refl _
  | succ n ih =>
    have h1 := ih (fun k hk => h k (Nat.lt_succ_of_lt hk))
    have h2 := h n (Nat.lt_succ_self n)
    rw [sm_succ]
    omega
theorem sm_single {f : Nat → Int} {i : Nat} : ∀ n : Nat, i < n → sm (fun k => if k = i then f k else 0) n = f i := by
  intro n
  induction n with
  | zero => intro h; exact absurd h (Nat.not_lt_zero i)
  | succ n ih =>
    intro h
    rw [sm_succ]
    by_cases e : n = i
    · subst e
      rw [if_pos rfl, sm_zero (fun k hk => if_neg (Nat.ne_of_lt hk))]
      omega
    · rw [if_neg e, ih (by omega)]
      omega
theorem sm_upto {f : Nat → Int} {i : Nat} : ∀ n : Nat, i ≤ n → sm (fun k => if k < i then f k else 0) n = sm f i := by
  intro n
  induction n with
  | zero =>
    intro h
    have e : i = 0 := by omega
    subst e
    rfl
  | succ n ih =>
    intro h
    by_cases e : i = n + 1
    · subst e
      exact sm_congr (fun k hk => if_pos hk)
    · rw [sm_succ, if_neg (by omega), ih (by omega)]
      omega
/-- how many of the first k are in a set -/
def cn (S : Nat → Bool) : Nat → Nat
  | 0 => 0
  | k + 1 => cn S k + (if S k = true then 1 else 0)
theorem cn_succ (S : Nat → Bool) (k : Nat) : cn S (k + 1) = cn S k + (if S k = true then 1 else 0) := rfl
theorem cn_le (S : Nat → Bool) (n : Nat) : cn S n ≤ n := by
  induction n with
  | zero => exact Nat.le_refl _
  | succ n ih =>
    rw [cn_succ]
    split <;> omega
theorem cn_congr {S T : Nat → Bool} {n : Nat} (h : ∀ k, k < n → S k = T k) : cn S n = cn T n := by
  induction n with
  | zero => rfl
  | succ n ih =>
    rw [cn_succ, cn_succ, ih (fun k hk => h k (Nat.lt_succ_of_lt hk)), h n (Nat.lt_succ_self n)]
theorem cn_off {S : Nat → Bool} {t : Nat} : ∀ n : Nat, t < n → S t = true → cn (va_up S t false) n + 1 = cn S n := by
  intro n
  induction n with
  | zero => intro h; exact absurd h (Nat.not_lt_zero t)
  | succ n ih =>
    intro h hS
    rw [cn_succ, cn_succ]
    by_cases e : n = t
    · subst e
      rw [va_up_self, hS, if_pos rfl, if_neg (by decide), cn_congr (fun k hk => va_up_ne S false (Nat.ne_of_lt hk))]
    · have := ih (by omega) hS
      rw [va_up_ne S false e]
      omega
theorem cn_tail {S : Nat → Bool} {n : Nat} : ∀ m : Nat, n ≤ m → (∀ k, n ≤ k → k < m → S k = false) → cn S m = cn S n := by
  intro m
  induction m with
  | zero =>
    intro h _
    have e : n = 0 := by omega
    subst e
    rfl
  | succ m ih =>
    intro h hf
    by_cases e : n = m + 1
    · subst e; rfl
    · rw [cn_succ, hf m (by omega) (Nat.lt_succ_self m), if_neg (by decide), ih (by omega) (fun k h1 h2 => hf k h1 (by omega))]
      rfl
theorem cn_mono {S T : Nat → Bool} {n : Nat} (h : ∀ k, k < n → S k = true → T k = true) : cn S n ≤ cn T n := by
  induction n with
  | zero => exact Nat.le_refl _
  | succ n ih =>
    have h1 := ih (fun k hk => h k (Nat.lt_succ_of_lt hk))
    have h2 := h n (Nat.lt_succ_self n)
    rw [cn_succ, cn_succ]
    by_cases e : S n = true
    · rw [if_pos e, if_pos (h2 e)]; omega
    · rw [if_neg e]; omega
theorem cn_sub {S T : Nat → Bool} {n : Nat} (h : ∀ k, k < n → S k = true → T k = true) : cn (fun k => T k && !S k) n + cn S n = cn T n := by
  induction n with
  | zero => rfl
  | succ n ih =>
    have h1 := ih (fun k hk => h k (Nat.lt_succ_of_lt hk))
    have h2 := h n (Nat.lt_succ_self n)
    rw [cn_succ, cn_succ, cn_succ]
    cases hs : S n with
    | false =>
      cases ht : T n with
      | false => simp; omega
      | true => simp; omega
    | true =>
      rw [h2 hs]
      simp
      omega
theorem cn_pos {S : Nat → Bool} {t n : Nat} (ht : t < n) (h : S t = true) : 0 < cn S n := by
  have := cn_off n ht h
  omega
/-- an item's part at a position: all of it, what it gives, what it takes -/
def gd_T (nv : Nat → Nat → Int) (S : Nat → Bool) (p k : Nat) : Int := if S k = true then nv k p else 0
def gd_G (nv : Nat → Nat → Int) (S : Nat → Bool) (p k : Nat) : Int := if S k = true ∧ 0 < nv k p then nv k p else 0
def gd_K (nv : Nat → Nat → Int) (S : Nat → Bool) (p k : Nat) : Int := if S k = true ∧ nv k p < 0 then nv k p else 0
theorem gd_split (nv : Nat → Nat → Int) (S : Nat → Bool) (p n : Nat) : sm (gd_T nv S p) n = sm (gd_G nv S p) n + sm (gd_K nv S p) n := by
  rw [← sm_add]
  refine sm_congr (fun k _ => ?_)
  unfold gd_T gd_G gd_K
  by_cases hs : S k = true
  · rw [if_pos hs]
    by_cases h1 : 0 < nv k p
    · rw [if_pos ⟨hs, h1⟩, if_neg (fun q => by have := q.2; omega)]; omega
    · rw [if_neg (fun q => h1 q.2)]
      by_cases h2 : nv k p < 0
      · rw [if_pos ⟨hs, h2⟩]; omega
      · rw [if_neg (fun q => h2 q.2)]; omega
  · rw [if_neg hs, if_neg (fun q => hs q.1), if_neg (fun q => hs q.1)]; rfl
def gd_closed (n : Nat) (th : Nat → Bool) (nv : Nat → Nat → Int) (S : Nat → Bool) : Prop := ∀ i j p : Nat, i < n → j < i → p < 300 → S i = true → th j = true → nv i p < 0 → nv j p < 0 → S j = true
def gd_good (n : Nat) (th : Nat → Bool) (nv : Nat → Nat → Int) (va fl : Nat → Int) (S : Nat → Bool) : Prop := (∀ i, i < n → S i = true → th i = true) ∧ gd_closed n th nv S ∧ ∀ p, p < 300 → fl p ≤ va p + sm (gd_T nv S p) n
/-- every good set lies in S -/
def gd_sub (n : Nat) (th : Nat → Bool) (nv : Nat → Nat → Int) (va fl : Nat → Int) (S : Nat → Bool) : Prop := ∀ G, gd_good n th nv va fl G → ∀ i, i < n → G i = true → S i = true
theorem gd_unique {n : Nat} {th : Nat → Bool} {nv : Nat → Nat → Int} {va fl : Nat → Int} {S T : Nat → Bool} (h1 : gd_good n th nv va fl S) (h2 : gd_sub n th nv va fl S) (h3 : gd_good n th nv va fl T) (h4 : gd_sub n th nv va fl T) : ∀ i, i < n → S i = T i := by
  intro i hi
  have a := h2 T h3 i hi
  have b := h4 S h1 i hi
  cases hs : S i with
  | true => exact (b hs).symm
  | false =>
    cases ht : T i with
    | false => rfl
    | true => rw [a ht] at hs; cases hs
/-- the good sets and what is asked of them don't depend on what lies beyond n and 300 -/
theorem gd_good_congr {n : Nat} {th th' : Nat → Bool} {nv nv' : Nat → Nat → Int} {va va' fl fl' : Nat → Int} {S S' : Nat → Bool} (ht : ∀ i, i < n → th i = th' i) (hn : ∀ i p, i < n → p < 300 → nv i p = nv' i p) (hv : ∀ p, p < 300 → va p = va' p) (hf : ∀ p, p < 300 → fl p = fl' p) (hS : ∀ i, i < n → S i = S' i) (h : gd_good n th nv va fl S) : gd_good n th' nv' va' fl' S' := by
  obtain ⟨h1, h2, h3⟩ := h
  refine ⟨fun i hi hs => ?_, fun i j p hi hj hp hs hth h4 h5 => ?_, fun p hp => ?_⟩
  · rw [← ht i hi]
    exact h1 i hi (by rw [hS i hi]; exact hs)
  · rw [← hS j (by omega)]
    exact h2 i j p hi hj hp (by rw [hS i hi]; exact hs) (by rw [ht j (by omega)]; exact hth) (by rw [hn i p hi hp]; exact h4) (by rw [hn j p (by omega) hp]; exact h5)
  · rw [← hv p hp, ← hf p hp, ← sm_congr (f := gd_T nv S p) (g := gd_T nv' S' p) (fun k hk => by unfold gd_T; rw [hS k hk, hn k p hk hp])]
    exact h3 p hp
theorem gd_sub_congr {n : Nat} {th th' : Nat → Bool} {nv nv' : Nat → Nat → Int} {va va' fl fl' : Nat → Int} {S S' : Nat → Bool} (ht : ∀ i, i < n → th i = th' i) (hn : ∀ i p, i < n → p < 300 → nv i p = nv' i p) (hv : ∀ p, p < 300 → va p = va' p) (hf : ∀ p, p < 300 → fl p = fl' p) (hS : ∀ i, i < n → S i = S' i) (h : gd_sub n th nv va fl S) : gd_sub n th' nv' va' fl' S' := by
  intro G hG i hi hg
  rw [← hS i hi]
  exact h G (gd_good_congr (fun i hi => (ht i hi).symm) (fun i p hi hp => (hn i p hi hp).symm) (fun p hp => (hv p hp).symm) (fun p hp => (hf p hp).symm) (fun i hi => rfl) hG) i hi hg
theorem gd_sub_off {n : Nat} {th : Nat → Bool} {nv : Nat → Nat → Int} {va fl : Nat → Int} {S : Nat → Bool} {t : Nat} (h : gd_sub n th nv va fl S) (hx : ∀ G, gd_good n th nv va fl G → G t = true → False) : gd_sub n th nv va fl (va_up S t false) := by
  intro G hG i hi hg
  by_cases e : i = t
  · subst e
    exact (hx G hG hg).elim
  · rw [va_up_ne S false e]
    exact h G hG i hi hg
/-- the reference's first step: the last taker of a position that comes below its floor -/
theorem gd_last {n : Nat} {th : Nat → Bool} {nv : Nat → Nat → Int} {va fl : Nat → Int} {S : Nat → Bool} {t p : Nat} (hS : ∀ i, i < n → S i = true → th i = true) (h : gd_sub n th nv va fl S) (hp : p < 300) (hlow : va p + sm (gd_T nv S p) n < fl p) (ht : t < n) (htk : nv t p < 0) (hlast : ∀ j, t < j → j < n → S j = true → nv j p < 0 → False) : gd_sub n th nv va fl (va_up S t false) := by
  refine gd_sub_off h (fun G hG hGt => ?_)
  have h1 : sm (gd_T nv G p) n ≤ sm (gd_T nv S p) n := by
    refine sm_le (fun k hk => ?_)
    unfold gd_T
    by_cases hg : G k = true
    · rw [if_pos hg, if_pos (h G hG k hk hg)]
      exact Int.le_refl _
    · rw [if_neg hg]
      by_cases hs : S k = true
      · rw [if_pos hs]
        by_cases hneg : nv k p < 0
        · rcases Nat.lt_trichotomy k t with q | q | q
          · exact absurd (hG.2.1 t k p ht q hp hGt (hS k hk hs) htk hneg) hg
          · subst q; exact absurd hGt hg
          · exact (hlast k q hk hs hneg).elim
        · omega
      · rw [if_neg hs]
        exact Int.le_refl _
  have h2 := hG.2.2 p hp
  omega
/-- the reference's second step: an item that lacks one before it -/
theorem gd_lack {n : Nat} {th : Nat → Bool} {nv : Nat → Nat → Int} {va fl : Nat → Int} {S : Nat → Bool} {i j p : Nat} (h : gd_sub n th nv va fl S) (hp : p < 300) (hi : i < n) (hj : j < i) (hth : th j = true) (hns : ¬ S j = true) (h1 : nv i p < 0) (h2 : nv j p < 0) : gd_sub n th nv va fl (va_up S i false) :=
  gd_sub_off h (fun G hG hg => hns (h G hG j (by omega) (hG.2.1 i j p hi hj hp hg hth h1 h2)))
/-- a position below its floor has a taker in the set -/
theorem gd_taker {n : Nat} {nv : Nat → Nat → Int} {va fl : Nat → Int} {S : Nat → Bool} {p : Nat} (hvf : fl p ≤ va p) (hlow : va p + sm (gd_T nv S p) n < fl p) (hno : ∀ t, t < n → S t = true → nv t p < 0 → False) : False := by
  have : 0 ≤ sm (gd_T nv S p) n := by
    refine sm_nonneg (fun k hk => ?_)
    unfold gd_T
    by_cases hs : S k = true
    · rw [if_pos hs]
      by_cases hneg : nv k p < 0
      · exact (hno k hk hs hneg).elim
      · omega
    · rw [if_neg hs]
      exact Int.le_refl _
  omega
/-- the class's sweep, at item i: the values with all that C gives and what the ones of S before i take; blocked as it says -/
def gd_can (th : Nat → Bool) (nv : Nat → Nat → Int) (fl : Nat → Int) (S : Nat → Bool) (af : Nat → Int) (i : Nat) : Prop := ∀ p, p < 300 → nv i p < 0 → (∀ j, j < i → th j = true → S j = false → nv j p < 0 → False) ∧ fl p ≤ af p + nv i p
theorem gd_drop {n : Nat} {th : Nat → Bool} {nv : Nat → Nat → Int} {va fl : Nat → Int} {C S : Nat → Bool} {af : Nat → Int} {i : Nat} (hS : ∀ k, k < n → S k = true → th k = true) (hSC : ∀ k, k < n → S k = true → C k = true) (h : gd_sub n th nv va fl S) (hi : i < n) (haf : ∀ p, p < 300 → af p = va p + sm (gd_G nv C p) n + sm (gd_K nv S p) i) (hno : ¬ gd_can th nv fl S af i) : gd_sub n th nv va fl (va_up S i false) := by
  refine gd_sub_off h (fun G hG hGi => hno (fun p hp htk => ⟨fun j hj hth hns hjt => ?_, ?_⟩))
  · have := h G hG j (by omega) (hG.2.1 i j p hi hj hp hGi hth htk hjt)
    rw [hns] at this
    cases this
  · have h2 := hG.2.2 p hp
    have h1 : sm (gd_T nv G p) n ≤ sm (fun k => (gd_G nv C p k + (if k < i then gd_K nv S p k else 0)) + (if k = i then nv k p else 0)) n := by
      refine sm_le (fun k hk => ?_)
      unfold gd_T gd_G gd_K
      by_cases hg : G k = true
      · have hs := h G hG k hk hg
        have hc := hSC k hk hs
        rw [if_pos hg]
        by_cases hpos : 0 < nv k p
        · rw [if_pos ⟨hc, hpos⟩]
          by_cases e : k = i
          · subst e; omega
          · rw [if_neg e]
            by_cases hlt : k < i
            · rw [if_pos hlt, if_neg (fun q => by have := q.2; omega)]; omega
            · rw [if_neg hlt]; omega
        · rw [if_neg (fun q => hpos q.2)]
          by_cases e : k = i
          · subst e
            rw [if_neg (Nat.lt_irrefl k), if_pos rfl]; omega
          · rw [if_neg e]
            by_cases hlt : k < i
            · rw [if_pos hlt]
              by_cases hneg : nv k p < 0
              · rw [if_pos ⟨hs, hneg⟩]; omega
              · rw [if_neg (fun q => hneg q.2)]; omega
            · rw [if_neg hlt]; omega
      · rw [if_neg hg]
        have e : ¬ k = i := fun q => hg (by rw [q]; exact hGi)
        rw [if_neg e]
        have hz : (if k < i then (if S k = true ∧ nv k p < 0 then nv k p else 0) else 0) = 0 := by
          by_cases hlt : k < i
          · rw [if_pos hlt]
            by_cases hq : S k = true ∧ nv k p < 0
            · exact absurd (hG.2.1 i k p hi hlt hp hGi (hS k hk hq.1) htk hq.2) hg
            · rw [if_neg hq]
          · rw [if_neg hlt]
        rw [hz]
        by_cases hq : C k = true ∧ 0 < nv k p
        · rw [if_pos hq]; have := hq.2; omega
        · rw [if_neg hq]; omega
    rw [sm_add, sm_add, sm_upto n (Nat.le_of_lt hi), sm_single (f := fun k => nv k p) n hi] at h1
    have h3 := haf p hp
    omega
/-- a sweep that drops none: the set is good -/
theorem gd_sweep {n : Nat} {th : Nat → Bool} {nv : Nat → Nat → Int} {va fl : Nat → Int} {C : Nat → Bool} (hC : ∀ k, k < n → C k = true → th k = true) (hvf : ∀ p, p < 300 → fl p ≤ va p) (hcan : ∀ i, i < n → C i = true → gd_can th nv fl C (fun p => va p + sm (gd_G nv C p) n + sm (gd_K nv C p) i) i) : gd_good n th nv va fl C := by
  refine ⟨hC, fun i j p hi hj hp hs hth h1 h2 => ?_, fun p hp => ?_⟩
  · cases hc : C j with
    | true => rfl
    | false => exact ((hcan i hi hs p hp h1).1 j hj hth hc h2).elim
  · rw [gd_split]
    have hg : 0 ≤ sm (gd_G nv C p) n := sm_nonneg (fun k _ => by
      unfold gd_G
      by_cases hq : C k = true ∧ 0 < nv k p
      · rw [if_pos hq]; have := hq.2; omega
      · rw [if_neg hq]; omega)
    have key : ∀ i, i ≤ n → fl p ≤ va p + sm (gd_G nv C p) n + sm (gd_K nv C p) i := by
      intro i
      induction i with
      | zero =>
        intro _
        have := hvf p hp
        show fl p ≤ va p + sm (gd_G nv C p) n + 0
        omega
      | succ i ih =>
        intro hi
        have h1 := ih (by omega)
        rw [sm_succ]
        by_cases hq : C i = true ∧ nv i p < 0
        · have h2 := (hcan i (by omega) hq.1 p hp hq.2).2
          have e : gd_K nv C p i = nv i p := if_pos hq
          rw [e]
          have h2 : fl p ≤ va p + sm (gd_G nv C p) n + sm (gd_K nv C p) i + nv i p := h2
          omega
        · have e : gd_K nv C p i = 0 := if_neg hq
          rw [e]
          omega
    have := key n (Nat.le_refl n)
    omega
/-- the reference's end: no position below its floor, none lacks -/
theorem gd_done {n : Nat} {th : Nat → Bool} {nv : Nat → Nat → Int} {va fl : Nat → Int} {S : Nat → Bool} (hS : ∀ k, k < n → S k = true → th k = true) (h1 : ∀ p, p < 300 → fl p ≤ va p + sm (gd_T nv S p) n) (h2 : ∀ i, i < n → S i = true → ∀ j, j < i → th j = true → S j = false → ∀ p, p < 300 → nv i p < 0 → nv j p < 0 → False) : gd_good n th nv va fl S := by
  refine ⟨hS, fun i j p hi hj hp hs hth h3 h4 => ?_, h1⟩
  cases hc : S j with
  | true => rfl
  | false => exact (h2 i hi hs j hj hth hc p hp h3 h4).elim
end
section
/-! SLOTS: an item's nets in slots; the first slot of a position; what the slots say of a position -/
def bI (b : Bool) : Int32 := if b = true then 1 else 0
theorem bI_t : bI true = 1 := rfl
theorem bI_f : bI false = 0 := rfl
theorem bI_z (b : Bool) : (bI b = 0) ↔ b = false := by cases b <;> decide
theorem bI_nz (b : Bool) : (¬ bI b = 0) ↔ b = true := by cases b <;> decide
theorem bI_nar (b : Bool) : vp_nar .boolean (bI b) = bI b := by cases b <;> decide
theorem bI_narrow (b : Bool) : narrow .boolean (.int (bI b)) = .int (bI b) := by cases b <;> decide
theorem bI_fits (b : Bool) : fits .boolean (.int (bI b)) = true := by cases b <;> decide
theorem bI_inj {a b : Bool} : bI a = bI b ↔ a = b := by cases a <;> cases b <;> decide
/-- the first place from k on, of n, that q says; else the end -/
def fs (q : Nat → Bool) : Nat → Nat → Nat
  | 0, k => k
  | n + 1, k => if q k = true then k else fs q n (k + 1)
theorem fs_ge (q : Nat → Bool) : ∀ n k : Nat, k ≤ fs q n k := by
  intro n
  induction n with
  | zero => intro k; exact Nat.le_refl k
  | succ n ih =>
    intro k
    unfold fs
    split
    · exact Nat.le_refl k
    · exact Nat.le_trans (Nat.le_succ k) (ih (k + 1))
theorem fs_le (q : Nat → Bool) : ∀ n k : Nat, fs q n k ≤ k + n := by
  intro n
  induction n with
  | zero => intro k; exact Nat.le_refl k
  | succ n ih =>
    intro k
    unfold fs
    split
    · omega
    · have := ih (k + 1); omega
theorem fs_hit (q : Nat → Bool) : ∀ n k : Nat, fs q n k < k + n → q (fs q n k) = true := by
  intro n
  induction n with
  | zero => intro k h; exact absurd h (by unfold fs; omega)
  | succ n ih =>
    intro k h
    unfold fs at h ⊢
    by_cases e : q k = true
    · rw [if_pos e]; exact e
    · rw [if_neg e] at h ⊢
      exact ih (k + 1) (by omega)
theorem fs_miss (q : Nat → Bool) : ∀ n k j : Nat, k ≤ j → j < fs q n k → q j = false := by
  intro n
  induction n with
  | zero => intro k j h1 h2; unfold fs at h2; omega
  | succ n ih =>
    intro k j h1 h2
    unfold fs at h2
    by_cases e : q k = true
    · rw [if_pos e] at h2; omega
    · rw [if_neg e] at h2
      by_cases ej : j = k
      · subst ej
        cases hq : q j with
        | false => rfl
        | true => exact absurd hq e
      · exact ih (k + 1) j (by omega) h2
theorem fs_congr {q r : Nat → Bool} : ∀ n k : Nat, (∀ j, k ≤ j → j < k + n → q j = r j) → fs q n k = fs r n k := by
  intro n
  induction n with
  | zero => intro k _; rfl
  | succ n ih =>
    intro k h
    unfold fs
    rw [h k (Nat.le_refl k) (by omega), ih (k + 1) (fun j h1 h2 => h j (by omega) (by omega))]
/-- moved by an offset -/
theorem fs_shift {q r : Nat → Bool} (o : Nat) : ∀ n k : Nat, (∀ j, k ≤ j → j < k + n → q (o + j) = r j) → fs q n (o + k) = o + fs r n k := by
  intro n
  induction n with
  | zero => intro k _; rfl
  | succ n ih =>
    intro k h
    unfold fs
    rw [h k (Nat.le_refl k) (by omega)]
    by_cases e : r k = true
    · rw [if_pos e, if_pos e]
    · rw [if_neg e, if_neg e]
      exact ih (k + 1) (fun j h1 h2 => h j (by omega) (by omega))
/-- the net that the slots say -/
def ntq (q : Nat → Bool) (u : Nat) (am : Nat → Int64) : Int64 := if fs q u 0 < u then am (fs q u 0) else 0
def sl_v (ps : Nat → Nat) (am : Nat → Int64) (u p : Nat) : Int := sm (fun k => if ps k = p then (am k).toInt else 0) u
def sl_ok (ps : Nat → Nat) (am : Nat → Int64) (u : Nat) : Prop := u ≤ 16 ∧ (∀ k, k < u → ps k < 300) ∧ (∀ a b, a < u → b < u → ps a = ps b → a = b) ∧ ∀ k, k < u → ¬ am k = 0 ∧ -1000000000000000 ≤ (am k).toInt ∧ (am k).toInt ≤ 1000000000000000
theorem sl_F {ps : Nat → Nat} {g : Nat → Int} {u p : Nat} (F : Int → Int) (h0 : F 0 = 0) (hd : ∀ a b, a < u → b < u → ps a = ps b → a = b) : sm (fun k => if ps k = p then F (g k) else 0) u = F (sm (fun k => if ps k = p then g k else 0) u) := by
  by_cases h : ∃ k, k < u ∧ ps k = p
  · obtain ⟨k, hk, e⟩ := h
    have h1 : ∀ f : Nat → Int, sm (fun j => if ps j = p then f j else 0) u = f k := by
      intro f
      rw [← sm_single (f := f) u hk]
      refine sm_congr (fun j hj => ?_)
      by_cases ej : j = k
      · subst ej; rw [if_pos e, if_pos rfl]
      · rw [if_neg ej, if_neg (fun q => ej (hd j k hj hk (by rw [q, e])))]
    rw [h1, h1]
  · have hn : ∀ k, k < u → ¬ ps k = p := fun k hk q => h ⟨k, hk, q⟩
    rw [sm_zero (fun k hk => if_neg (hn k hk)), sm_zero (fun k hk => if_neg (hn k hk)), h0]
theorem sl_at {ps : Nat → Nat} {am : Nat → Int64} {u k : Nat} (hd : ∀ a b, a < u → b < u → ps a = ps b → a = b) (hk : k < u) : sl_v ps am u (ps k) = (am k).toInt := by
  unfold sl_v
  rw [← sm_single (f := fun j => (am j).toInt) u hk]
  refine sm_congr (fun j hj => ?_)
  by_cases ej : j = k
  · subst ej; rw [if_pos rfl, if_pos rfl]
  · rw [if_neg ej, if_neg (fun q => ej (hd j k hj hk q))]
theorem sl_none {ps : Nat → Nat} {am : Nat → Int64} {u p : Nat} (h : ∀ k, k < u → ¬ ps k = p) : sl_v ps am u p = 0 := sm_zero (fun k hk => if_neg (h k hk))
theorem sl_nt {ps : Nat → Nat} {am : Nat → Int64} {u p : Nat} {q : Nat → Bool} (hd : ∀ a b, a < u → b < u → ps a = ps b → a = b) (hq : ∀ k, k < u → (q k = true ↔ ps k = p)) : (ntq q u am).toInt = sl_v ps am u p := by
  unfold ntq
  have h1 := fs_le q u 0
  by_cases h : fs q u 0 < u
  · rw [if_pos h]
    have h2 := (hq _ h).mp (fs_hit q u 0 (by omega))
    rw [← h2, sl_at hd h]
  · rw [if_neg h, sl_none (fun k hk e => ?_)]
    · rfl
    · have := fs_miss q u 0 k (Nat.zero_le k) (by omega)
      rw [(hq k hk).mpr e] at this
      cases this
theorem sl_bound {ps : Nat → Nat} {am : Nat → Int64} {u p : Nat} (h : sl_ok ps am u) : -1000000000000000 ≤ sl_v ps am u p ∧ sl_v ps am u p ≤ 1000000000000000 := by
  by_cases hx : ∃ k, k < u ∧ ps k = p
  · obtain ⟨k, hk, e⟩ := hx
    rw [← e, sl_at h.2.2.1 hk]
    exact (h.2.2.2 k hk).2
  · rw [sl_none (fun k hk q => hx ⟨k, hk, q⟩)]
    omega
theorem sl_hit {ps : Nat → Nat} {am : Nat → Int64} {u p : Nat} (h : ¬ sl_v ps am u p = 0) : ∃ k, k < u ∧ ps k = p := by
  apply Classical.byContradiction
  intro hx
  exact h (sl_none (fun k hk q => hx ⟨k, hk, q⟩))
theorem sl_congr {ps ps' : Nat → Nat} {am am' : Nat → Int64} {u p : Nat} (h1 : ∀ k, k < u → ps k = ps' k) (h2 : ∀ k, k < u → am k = am' k) : sl_v ps am u p = sl_v ps' am' u p := sm_congr (fun k hk => by rw [h1 k hk, h2 k hk])
theorem i64_add {a b : Int64} (h1 : -9223372036854775808 ≤ a.toInt + b.toInt) (h2 : a.toInt + b.toInt < 9223372036854775808) : (a + b).toInt = a.toInt + b.toInt := by
  rw [Int64.toInt_add]
  exact Int.bmod_eq_of_le (by omega) (by omega)
theorem i64_z {a : Int64} : a = 0 ↔ a.toInt = 0 := by
  rw [← Int64.toInt_inj]
  exact Iff.rfl
theorem i64_lt {a b : Int64} : a < b ↔ a.toInt < b.toInt := Int64.lt_iff_toInt_lt
theorem i64_le {a b : Int64} : a ≤ b ↔ a.toInt ≤ b.toInt := Int64.le_iff_toInt_le
/-- a sum of at most 200 parts of at most 10^15 -/
theorem sm_bound {f : Nat → Int} {n : Nat} (h : ∀ k, k < n → -1000000000000000 ≤ f k ∧ f k ≤ 1000000000000000) : -(1000000000000000 * (n : Int)) ≤ sm f n ∧ sm f n ≤ 1000000000000000 * (n : Int) := by
  induction n with
  | zero => exact ⟨by simp [sm], by simp [sm]⟩
  | succ n ih =>
    have h1 := ih (fun k hk => h k (Nat.lt_succ_of_lt hk))
    have h2 := h n (Nat.lt_succ_self n)
    rw [sm_succ]
    omega
end
section
/-! THE WORLDS: the class's cells, the reference's cells; an item is three cells of a pool -/
abbrev i_ob (a : Nat × Nat × Nat) (t s : Bool) (u : Nat) : Nat × va_E := (a.1, .inr (ciI, [.ref a.2.1, .ref a.2.2, .int (nI u), .int (bI t), .int (bI s)]))
abbrev i_pc (K : Nat → ClassId) (a : Nat × Nat × Nat) (f : Nat → Nat) : Nat × va_E := (a.2.1, .inl (K 1, 16, .inl (fun k => nI (f k))))
abbrev i_ac (K : Nat → ClassId) (a : Nat × Nat × Nat) (f : Nat → Int64) : Nat × va_E := (a.2.2, .inl (K 0, 16, .inr (.inl f)))
/-- there, in the set, slots used; the slots' positions and amounts -/
def it_c (K : Nat → ClassId) (ad : Nat → Nat × Nat × Nat) (T S : Nat → Bool) (us : Nat → Nat) (ps : Nat → Nat → Nat) (am : Nat → Nat → Int64) (j : Nat) : Nat × va_E := if j % 3 = 0 then i_ob (ad (j / 3)) (T (j / 3)) (S (j / 3)) (us (j / 3)) else if j % 3 = 1 then i_pc K (ad (j / 3)) (ps (j / 3)) else i_ac K (ad (j / 3)) (am (j / 3))
def it_w (K : Nat → ClassId) (ad : Nat → Nat × Nat × Nat) (T S : Nat → Bool) (us : Nat → Nat) (ps : Nat → Nat → Nat) (am : Nat → Nat → Int64) (n : Nat) : va_W := (List.range (3 * n)).map (it_c K ad T S us ps am)
theorem up_same {α : Type} (f : Nat → α) (k : Nat) : va_up f k (f k) = f := by
  funext j
  unfold va_up
  by_cases e : j = k
  · rw [if_pos e, e]
  · rw [if_neg e]
section ITW
variable {K : Nat → ClassId} {ad : Nat → Nat × Nat × Nat} {T S T' S' : Nat → Bool} {us us' : Nat → Nat} {ps ps' : Nat → Nat → Nat} {am am' : Nat → Nat → Int64} {n i : Nat}
theorem it_len : (it_w K ad T S us ps am n).length = 3 * n := by simp [it_w]
theorem it_get {j : Nat} (h : j < 3 * n) : (it_w K ad T S us ps am n)[j]? = some (it_c K ad T S us ps am j) := by simp [it_w, h]
theorem it_c0 : it_c K ad T S us ps am (3 * i) = i_ob (ad i) (T i) (S i) (us i) := by
  unfold it_c
  rw [if_pos (by omega), show 3 * i / 3 = i by omega]
theorem it_c1 : it_c K ad T S us ps am (3 * i + 1) = i_pc K (ad i) (ps i) := by
  unfold it_c
  rw [if_neg (by omega), if_pos (by omega), show (3 * i + 1) / 3 = i by omega]
theorem it_c2 : it_c K ad T S us ps am (3 * i + 2) = i_ac K (ad i) (am i) := by
  unfold it_c
  rw [if_neg (by omega), if_neg (by omega), show (3 * i + 2) / 3 = i by omega]
theorem it_set {j : Nat} {v : Nat × va_E} (h : j < 3 * n) (hv : it_c K ad T' S' us' ps' am' j = v) (ho : ∀ k, ¬ k = j → it_c K ad T' S' us' ps' am' k = it_c K ad T S us ps am k) : (it_w K ad T S us ps am n).set j v = it_w K ad T' S' us' ps' am' n := by
  apply List.ext_getElem?
  intro k
  by_cases e : k = j
  · subst e
    rw [List.getElem?_set_self (by rw [it_len]; exact h), it_get h, hv]
  · rw [List.getElem?_set_ne (fun q => e q.symm)]
    by_cases hk : k < 3 * n
    · rw [it_get hk, it_get hk, ho k e]
    · rw [List.getElem?_eq_none (by rw [it_len]; omega), List.getElem?_eq_none (by rw [it_len]; omega)]
theorem it_set0 {t s : Bool} {u : Nat} (hi : i < n) : (it_w K ad T S us ps am n).set (3 * i) (i_ob (ad i) t s u) = it_w K ad (va_up T i t) (va_up S i s) (va_up us i u) ps am n := by
  refine it_set (by omega) (by rw [it_c0, va_up_self, va_up_self, va_up_self]) (fun k hk => ?_)
  unfold it_c
  by_cases e : k / 3 = i
  · rw [if_neg (show ¬ k % 3 = 0 by omega), if_neg (show ¬ k % 3 = 0 by omega)]
  · rw [va_up_ne T t e, va_up_ne S s e, va_up_ne us u e]
theorem it_set1 {f : Nat → Nat} (hi : i < n) : (it_w K ad T S us ps am n).set (3 * i + 1) (i_pc K (ad i) f) = it_w K ad T S us (va_up ps i f) am n := by
  refine it_set (by omega) (by rw [it_c1, va_up_self]) (fun k hk => ?_)
  unfold it_c
  by_cases e : k / 3 = i
  · rw [if_neg (show ¬ k % 3 = 1 by omega), if_neg (show ¬ k % 3 = 1 by omega)]
  · rw [va_up_ne ps f e]
theorem it_set2 {f : Nat → Int64} (hi : i < n) : (it_w K ad T S us ps am n).set (3 * i + 2) (i_ac K (ad i) f) = it_w K ad T S us ps (va_up am i f) n := by
  refine it_set (by omega) (by rw [it_c2, va_up_self]) (fun k hk => ?_)
  unfold it_c
  by_cases e : k / 3 = i
  · by_cases e0 : k % 3 = 0
    · rw [if_pos e0, if_pos e0]
    · rw [if_neg e0, if_neg e0, if_pos (by omega), if_pos (by omega)]
  · rw [va_up_ne am f e]
/-- the pool grows by an item -/
theorem it_push {a : Nat × Nat × Nat} {t s : Bool} {u : Nat} {f : Nat → Nat} {g : Nat → Int64} : it_w K ad T S us ps am n ++ [i_ob a t s u, i_pc K a f, i_ac K a g] = it_w K (va_up ad n a) (va_up T n t) (va_up S n s) (va_up us n u) (va_up ps n f) (va_up am n g) (n + 1) := by
  have h0 : ∀ k, k < 3 * n → it_c K (va_up ad n a) (va_up T n t) (va_up S n s) (va_up us n u) (va_up ps n f) (va_up am n g) k = it_c K ad T S us ps am k := by
    intro k hk
    unfold it_c
    have e : ¬ k / 3 = n := by omega
    rw [va_up_ne ad a e, va_up_ne T t e, va_up_ne S s e, va_up_ne us u e, va_up_ne ps f e, va_up_ne am g e]
  apply List.ext_getElem?
  intro k
  by_cases hk : k < 3 * n
  · rw [List.getElem?_append_left (by rw [it_len]; exact hk), it_get hk, it_get (by omega), h0 k hk]
  · rw [List.getElem?_append_right (by rw [it_len]; omega), it_len]
    by_cases e0 : k = 3 * n
    · subst e0
      rw [it_get (by omega), it_c0, va_up_self, va_up_self, va_up_self, va_up_self, Nat.sub_self]
      rfl
    · by_cases e1 : k = 3 * n + 1
      · subst e1
        rw [it_get (by omega), it_c1, va_up_self, va_up_self, show 3 * n + 1 - 3 * n = 1 by omega]
        rfl
      · by_cases e2 : k = 3 * n + 2
        · subst e2
          rw [it_get (by omega), it_c2, va_up_self, va_up_self, show 3 * n + 2 - 3 * n = 2 by omega]
          rfl
        · rw [List.getElem?_eq_none (by simp; omega), List.getElem?_eq_none (by rw [it_len]; omega)]
end ITW
/-- which object stands in the class's row of items -/
def itf (n : Nat) (ad : Nat → Nat × Nat × Nat) : Nat → Option Nat := fun j => if j < n then some (ad j).1 else none
theorem itf_at {n j : Nat} {ad : Nat → Nat × Nat × Nat} (h : j < n) : itf n ad j = some (ad j).1 := if_pos h
theorem itf_push {n : Nat} {ad : Nat → Nat × Nat × Nat} {a : Nat × Nat × Nat} : va_up (itf n ad) n (some a.1) = itf (n + 1) (va_up ad n a) := by
  funext j
  unfold itf
  by_cases e : j = n
  · subst e
    rw [va_up_self, if_pos (by omega), va_up_self]
  · rw [va_up_ne _ _ e]
    by_cases h : j < n
    · rw [if_pos h, if_pos (by omega), va_up_ne _ _ e]
    · rw [if_neg h, if_neg (by omega)]
/-- the class: six cells, whatever else, the pool -/
def dR (R : va_W) (o : Nat → Nat) (K : Nat → ClassId) (va fl af : Nat → Int64) (bl : Nat → Bool) (im : Nat → Option Nat) (nc tc sc : Nat) (pl : va_W) : va_W :=
  (o 0, .inr (ciD, [.ref (o 1), .ref (o 2), .ref (o 3), .int (nI nc), .int (nI tc), .int (nI sc), .ref (o 4), .ref (o 5)])) ::
  (o 1, .inl (K 0, 300, .inr (.inl va))) :: (o 2, .inl (K 0, 300, .inr (.inl fl))) :: (o 3, .inl (K 3, 200, .inr (.inr (.inr (.inr im))))) ::
  (o 4, .inl (K 0, 300, .inr (.inl af))) :: (o 5, .inl (K 2, 300, .inl (fun k => bI (bl k)))) :: (R ++ pl)
def dW (R : va_W) (o : Nat → Nat) (K : Nat → ClassId) (ad : Nat → Nat × Nat × Nat) (va fl af : Nat → Int64) (bl : Nat → Bool) (n tc sc : Nat) (T S : Nat → Bool) (us : Nat → Nat) (ps : Nat → Nat → Nat) (am : Nat → Nat → Int64) : va_W := dR R o K va fl af bl (itf n ad) n tc sc (it_w K ad T S us ps am n)
/-- the reference: eight cells, whatever else -/
def mW (R : va_W) (o : Nat → Nat) (K : Nat → ClassId) (va fl : Nat → Int64) (n : Nat) (th ch : Nat → Bool) (mn po : Nat → Nat) (am : Nat → Int64) : va_W :=
  (o 0, .inr (ciM, [.ref (o 1), .ref (o 2), .int (nI n), .ref (o 3), .ref (o 4), .ref (o 5), .ref (o 6), .ref (o 7)])) ::
  (o 1, .inl (K 0, 300, .inr (.inl va))) :: (o 2, .inl (K 0, 300, .inr (.inl fl))) :: (o 3, .inl (K 2, 200, .inl (fun k => bI (th k)))) :: (o 4, .inl (K 2, 200, .inl (fun k => bI (ch k)))) ::
  (o 5, .inl (K 1, 200, .inl (fun k => nI (mn k)))) :: (o 6, .inl (K 1, 3200, .inl (fun k => nI (po k)))) :: (o 7, .inl (K 0, 3200, .inr (.inl am))) :: R
section DWL
variable {R : va_W} {o : Nat → Nat} {K : Nat → ClassId} {ad : Nat → Nat × Nat × Nat} {va fl af : Nat → Int64} {bl : Nat → Bool} {n tc sc i : Nat} {T S : Nat → Bool} {us : Nat → Nat} {ps : Nat → Nat → Nat} {am : Nat → Nat → Int64}
theorem dW_pos (j : Nat) (w : va_W) (x0 x1 x2 x3 x4 x5 : Nat × va_E) : (x0 :: x1 :: x2 :: x3 :: x4 :: x5 :: (R ++ w))[6 + (R.length + j)]? = w[j]? := by
  rw [show 6 + (R.length + j) = R.length + j + 1 + 1 + 1 + 1 + 1 + 1 by omega]
  simp only [List.getElem?_cons_succ]
  rw [List.getElem?_append_right (by omega), Nat.add_sub_cancel_left]
theorem dW_upd (j : Nat) (w : va_W) (v x0 x1 x2 x3 x4 x5 : Nat × va_E) : (x0 :: x1 :: x2 :: x3 :: x4 :: x5 :: (R ++ w)).set (6 + (R.length + j)) v = x0 :: x1 :: x2 :: x3 :: x4 :: x5 :: (R ++ w.set j v) := by
  rw [show 6 + (R.length + j) = R.length + j + 1 + 1 + 1 + 1 + 1 + 1 by omega]
  simp only [List.set_cons_succ]
  rw [List.set_append_right _ _ (by omega), Nat.add_sub_cancel_left]
theorem dW_0 (hi : i < n) : (dW R o K ad va fl af bl n tc sc T S us ps am)[6 + (R.length + 3 * i)]? = some (i_ob (ad i) (T i) (S i) (us i)) := by
  refine (dW_pos (3 * i) _ _ _ _ _ _ _).trans ?_
  rw [it_get (by omega), it_c0]
theorem dW_1 (hi : i < n) : (dW R o K ad va fl af bl n tc sc T S us ps am)[6 + (R.length + (3 * i + 1))]? = some (i_pc K (ad i) (ps i)) := by
  refine (dW_pos (3 * i + 1) _ _ _ _ _ _ _).trans ?_
  rw [it_get (by omega), it_c1]
theorem dW_2 (hi : i < n) : (dW R o K ad va fl af bl n tc sc T S us ps am)[6 + (R.length + (3 * i + 2))]? = some (i_ac K (ad i) (am i)) := by
  refine (dW_pos (3 * i + 2) _ _ _ _ _ _ _).trans ?_
  rw [it_get (by omega), it_c2]
theorem dW_s0 {t s : Bool} {u : Nat} (hi : i < n) : (dW R o K ad va fl af bl n tc sc T S us ps am).set (6 + (R.length + 3 * i)) (i_ob (ad i) t s u) = dW R o K ad va fl af bl n tc sc (va_up T i t) (va_up S i s) (va_up us i u) ps am := by
  refine (dW_upd (3 * i) _ _ _ _ _ _ _ _).trans ?_
  rw [it_set0 hi]
  rfl
theorem dW_s1 {f : Nat → Nat} (hi : i < n) : (dW R o K ad va fl af bl n tc sc T S us ps am).set (6 + (R.length + (3 * i + 1))) (i_pc K (ad i) f) = dW R o K ad va fl af bl n tc sc T S us (va_up ps i f) am := by
  refine (dW_upd (3 * i + 1) _ _ _ _ _ _ _ _).trans ?_
  rw [it_set1 hi]
  rfl
theorem dW_s2 {f : Nat → Int64} (hi : i < n) : (dW R o K ad va fl af bl n tc sc T S us ps am).set (6 + (R.length + (3 * i + 2))) (i_ac K (ad i) f) = dW R o K ad va fl af bl n tc sc T S us ps (va_up am i f) := by
  refine (dW_upd (3 * i + 2) _ _ _ _ _ _ _ _).trans ?_
  rw [it_set2 hi]
  rfl
theorem dW_su {u : Nat} (hi : i < n) : (dW R o K ad va fl af bl n tc sc T S us ps am).set (6 + (R.length + 3 * i)) (i_ob (ad i) (T i) (S i) u) = dW R o K ad va fl af bl n tc sc T S (va_up us i u) ps am := by
  have e := dW_s0 (R := R) (o := o) (K := K) (ad := ad) (va := va) (fl := fl) (af := af) (bl := bl) (tc := tc) (sc := sc) (T := T) (S := S) (us := us) (ps := ps) (am := am) (t := T i) (s := S i) (u := u) hi
  rw [up_same T i, up_same S i] at e
  exact e
theorem dW_st {t : Bool} (hi : i < n) : (dW R o K ad va fl af bl n tc sc T S us ps am).set (6 + (R.length + 3 * i)) (i_ob (ad i) t (S i) (us i)) = dW R o K ad va fl af bl n tc sc (va_up T i t) S us ps am := by
  have e := dW_s0 (R := R) (o := o) (K := K) (ad := ad) (va := va) (fl := fl) (af := af) (bl := bl) (tc := tc) (sc := sc) (T := T) (S := S) (us := us) (ps := ps) (am := am) (t := t) (s := S i) (u := us i) hi
  rw [up_same us i, up_same S i] at e
  exact e
theorem dW_ss {t : Bool} (hi : i < n) : (dW R o K ad va fl af bl n tc sc T S us ps am).set (6 + (R.length + 3 * i)) (i_ob (ad i) (T i) t (us i)) = dW R o K ad va fl af bl n tc sc T (va_up S i t) us ps am := by
  have e := dW_s0 (R := R) (o := o) (K := K) (ad := ad) (va := va) (fl := fl) (af := af) (bl := bl) (tc := tc) (sc := sc) (T := T) (S := S) (us := us) (ps := ps) (am := am) (t := T i) (s := t) (u := us i) hi
  rw [up_same us i, up_same T i] at e
  exact e
end DWL
theorem upd_nI (f : Nat → Nat) (k v : Nat) : upd (fun j => nI (f j)) k (nI v) = fun j => nI (va_up f k v j) := by
  funext j
  unfold upd va_up
  by_cases e : j = k
  · rw [if_pos e, if_pos e]
  · rw [if_neg e, if_neg e]
theorem upd_bI (f : Nat → Bool) (k : Nat) (v : Bool) : upd (fun j => bI (f j)) k (vp_nar .boolean (bI v)) = fun j => bI (va_up f k v j) := by
  rw [bI_nar]
  funext j
  unfold upd va_up
  by_cases e : j = k
  · rw [if_pos e, if_pos e]
  · rw [if_neg e, if_neg e]
theorem updL_up (f : Nat → Int64) (k : Nat) (v : Int64) : vp_updL f k v = va_up f k v := rfl
end
section
/-! WHAT THE CLASS'S SEARCH COMPUTES, loop by loop, and what that is -/
def posI (x : Int) : Int := if 0 < x then x else 0
def negI (x : Int) : Int := if x < 0 then x else 0
/-- one item's slots: given, taken, blocked -/
def gv_in (p : Nat → Nat) (a af : Nat → Int64) : Nat → Nat → Int64
  | 0 => af
  | k + 1 => if 0 < a k then va_up (gv_in p a af k) (p k) (gv_in p a af k (p k) + a k) else gv_in p a af k
def tk_in (p : Nat → Nat) (a af : Nat → Int64) : Nat → Nat → Int64
  | 0 => af
  | k + 1 => if a k < 0 then va_up (tk_in p a af k) (p k) (tk_in p a af k (p k) + a k) else tk_in p a af k
def bk_in (p : Nat → Nat) (a : Nat → Int64) (bl : Nat → Bool) : Nat → Nat → Bool
  | 0 => bl
  | k + 1 => if a k < 0 then va_up (bk_in p a bl k) (p k) true else bk_in p a bl k
def gv_out (us : Nat → Nat) (ps : Nat → Nat → Nat) (am : Nat → Nat → Int64) (S : Nat → Bool) (af : Nat → Int64) : Nat → Nat → Int64
  | 0 => af
  | i + 1 => if S i = true then gv_in (ps i) (am i) (gv_out us ps am S af i) (us i) else gv_out us ps am S af i
/-- the rows anew -/
def sr_a (va af : Nat → Int64) : Nat → Nat → Int64
  | 0 => af
  | k + 1 => va_up (sr_a va af k) k (va k)
def sr_b (bl : Nat → Bool) : Nat → Nat → Bool
  | 0 => bl
  | k + 1 => va_up (sr_b bl k) k false
/-- all that are there -/
def st_s (T S : Nat → Bool) : Nat → Nat → Bool
  | 0 => S
  | k + 1 => va_up (st_s T S k) k (T k)
def ct_at (p : Nat → Nat) (a fl af : Nat → Int64) (bl : Nat → Bool) (k : Nat) : Bool := decide (a k < 0) && (bl (p k) || decide (af (p k) + a k < fl (p k)))
def ct (p : Nat → Nat) (a : Nat → Int64) (u : Nat) (fl af : Nat → Int64) (bl : Nat → Bool) : Bool := decide (∀ k, k < u → ct_at p a fl af bl k = false)
/-- the set, the row after, the row blocked, how many -/
abbrev DS : Type := (Nat → Bool) × (Nat → Int64) × (Nat → Bool) × Nat
def dh_step (us : Nat → Nat) (ps : Nat → Nat → Nat) (am : Nat → Nat → Int64) (T : Nat → Bool) (fl : Nat → Int64) (i : Nat) (σ : DS) : DS :=
  if T i = true then
    (if σ.1 i = true ∧ ct (ps i) (am i) (us i) fl σ.2.1 σ.2.2.1 = true then (σ.1, tk_in (ps i) (am i) σ.2.1 (us i), σ.2.2.1, σ.2.2.2)
     else (va_up σ.1 i false, σ.2.1, bk_in (ps i) (am i) σ.2.2.1 (us i), if σ.1 i = true then σ.2.2.2 - 1 else σ.2.2.2))
  else σ
def dh (us : Nat → Nat) (ps : Nat → Nat → Nat) (am : Nat → Nat → Int64) (T : Nat → Bool) (fl : Nat → Int64) (σ : DS) : Nat → DS
  | 0 => σ
  | i + 1 => dh_step us ps am T fl i (dh us ps am T fl σ i)
def swp (us : Nat → Nat) (ps : Nat → Nat → Nat) (am : Nat → Nat → Int64) (T : Nat → Bool) (va fl : Nat → Int64) (n : Nat) (σ : DS) : DS :=
  dh us ps am T fl (σ.1, gv_out us ps am σ.1 (sr_a va σ.2.1 300) n, sr_b σ.2.2.1 300, σ.2.2.2) n
def fg (us : Nat → Nat) (ps : Nat → Nat → Nat) (am : Nat → Nat → Int64) (T : Nat → Bool) (va fl : Nat → Int64) (n : Nat) : Nat → DS → DS
  | 0, σ => σ
  | f + 1, σ => if (swp us ps am T va fl n σ).2.2.2 < σ.2.2.2 then fg us ps am T va fl n f (swp us ps am T va fl n σ) else swp us ps am T va fl n σ
theorem sr_a_at (va af : Nat → Int64) : ∀ k p : Nat, p < k → sr_a va af k p = va p := by
  intro k
  induction k with
  | zero => intro p h; exact absurd h (Nat.not_lt_zero p)
  | succ k ih =>
    intro p h
    unfold sr_a
    by_cases e : p = k
    · subst e; rw [va_up_self]
    · rw [va_up_ne _ _ e]; exact ih p (by omega)
theorem sr_b_at (bl : Nat → Bool) : ∀ k p : Nat, p < k → sr_b bl k p = false := by
  intro k
  induction k with
  | zero => intro p h; exact absurd h (Nat.not_lt_zero p)
  | succ k ih =>
    intro p h
    unfold sr_b
    by_cases e : p = k
    · subst e; rw [va_up_self]
    · rw [va_up_ne _ _ e]; exact ih p (by omega)
theorem st_s_at (T S : Nat → Bool) : ∀ k p : Nat, p < k → st_s T S k p = T p := by
  intro k
  induction k with
  | zero => intro p h; exact absurd h (Nat.not_lt_zero p)
  | succ k ih =>
    intro p h
    unfold st_s
    by_cases e : p = k
    · subst e; rw [va_up_self]
    · rw [va_up_ne _ _ e]; exact ih p (by omega)
theorem posI_b {x : Int} (h : -1000000000000000 ≤ x ∧ x ≤ 1000000000000000) : -1000000000000000 ≤ posI x ∧ posI x ≤ 1000000000000000 := by
  unfold posI; split <;> omega
theorem negI_b {x : Int} (h : -1000000000000000 ≤ x ∧ x ≤ 1000000000000000) : -1000000000000000 ≤ negI x ∧ negI x ≤ 1000000000000000 := by
  unfold negI; split <;> omega
theorem gv_in_v {p : Nat → Nat} {a af : Nat → Int64} {u q : Nat} (hu : u ≤ 16) (ha : ∀ k, k < u → -1000000000000000 ≤ (a k).toInt ∧ (a k).toInt ≤ 1000000000000000) (haf : -5000000000000000000 ≤ (af q).toInt ∧ (af q).toInt ≤ 5000000000000000000) : ∀ k, k ≤ u → (gv_in p a af k q).toInt = (af q).toInt + sm (fun j => if p j = q then posI (a j).toInt else 0) k := by
  intro k
  induction k with
  | zero =>
    intro _
    show (af q).toInt = (af q).toInt + 0
    omega
  | succ k ih =>
    intro hk
    have h1 := ih (by omega)
    have hb := sm_bound (f := fun j => if p j = q then posI (a j).toInt else 0) (n := k) (fun j hj => by
      show -1000000000000000 ≤ (if p j = q then posI (a j).toInt else 0) ∧ (if p j = q then posI (a j).toInt else 0) ≤ 1000000000000000
      split
      · exact posI_b (ha j (by omega))
      · omega)
    have hk1 := ha k (by omega)
    rw [sm_succ]
    unfold gv_in
    by_cases hpos : 0 < a k
    · rw [if_pos hpos]
      have hp' : 0 < (a k).toInt := by
        have := i64_lt.mp hpos
        rw [Int64.toInt_zero] at this
        exact this
      by_cases e : q = p k
      · subst e
        rw [va_up_self, if_pos rfl, i64_add (by omega) (by omega), h1]
        unfold posI
        rw [if_pos hp']
        omega
      · rw [va_up_ne _ _ e, if_neg (fun z => e z.symm), h1]
        omega
    · rw [if_neg hpos, h1]
      have hp' : ¬ 0 < (a k).toInt := fun z => hpos (i64_lt.mpr (by rw [Int64.toInt_zero]; exact z))
      by_cases e : p k = q
      · rw [if_pos e]; unfold posI; rw [if_neg hp']; omega
      · rw [if_neg e]; omega
theorem tk_in_v {p : Nat → Nat} {a af : Nat → Int64} {u q : Nat} (hu : u ≤ 16) (ha : ∀ k, k < u → -1000000000000000 ≤ (a k).toInt ∧ (a k).toInt ≤ 1000000000000000) (haf : -5000000000000000000 ≤ (af q).toInt ∧ (af q).toInt ≤ 5000000000000000000) : ∀ k, k ≤ u → (tk_in p a af k q).toInt = (af q).toInt + sm (fun j => if p j = q then negI (a j).toInt else 0) k := by
  intro k
  induction k with
  | zero =>
    intro _
    show (af q).toInt = (af q).toInt + 0
    omega
  | succ k ih =>
    intro hk
    have h1 := ih (by omega)
    have hb := sm_bound (f := fun j => if p j = q then negI (a j).toInt else 0) (n := k) (fun j hj => by
      show -1000000000000000 ≤ (if p j = q then negI (a j).toInt else 0) ∧ (if p j = q then negI (a j).toInt else 0) ≤ 1000000000000000
      split
      · exact negI_b (ha j (by omega))
      · omega)
    have hk1 := ha k (by omega)
    rw [sm_succ]
    unfold tk_in
    by_cases hpos : a k < 0
    · rw [if_pos hpos]
      have hp' : (a k).toInt < 0 := by
        have := i64_lt.mp hpos
        rw [Int64.toInt_zero] at this
        exact this
      by_cases e : q = p k
      · subst e
        rw [va_up_self, if_pos rfl, i64_add (by omega) (by omega), h1]
        unfold negI
        rw [if_pos hp']
        omega
      · rw [va_up_ne _ _ e, if_neg (fun z => e z.symm), h1]
        omega
    · rw [if_neg hpos, h1]
      have hp' : ¬ (a k).toInt < 0 := fun z => hpos (i64_lt.mpr (by rw [Int64.toInt_zero]; exact z))
      by_cases e : p k = q
      · rw [if_pos e]; unfold negI; rw [if_neg hp']; omega
      · rw [if_neg e]; omega
theorem bk_in_v {p : Nat → Nat} {a : Nat → Int64} {bl : Nat → Bool} {q : Nat} : ∀ k, (bk_in p a bl k q = true ↔ (bl q = true ∨ ∃ j, j < k ∧ p j = q ∧ (a j).toInt < 0)) := by
  intro k
  induction k with
  | zero => exact ⟨fun h => Or.inl h, fun h => h.elim id (fun ⟨j, hj, _⟩ => absurd hj (Nat.not_lt_zero j))⟩
  | succ k ih =>
    unfold bk_in
    by_cases hneg : a k < 0
    · have hp' : (a k).toInt < 0 := by
        have := i64_lt.mp hneg
        rw [Int64.toInt_zero] at this
        exact this
      rw [if_pos hneg]
      by_cases e : q = p k
      · subst e
        rw [va_up_self]
        exact ⟨fun _ => Or.inr ⟨k, Nat.lt_succ_self k, rfl, hp'⟩, fun _ => rfl⟩
      · rw [va_up_ne _ _ e, ih]
        constructor
        · intro h
          rcases h with h | ⟨j, hj, h⟩
          · exact Or.inl h
          · exact Or.inr ⟨j, by omega, h⟩
        · intro h
          rcases h with h | ⟨j, hj, h1, h2⟩
          · exact Or.inl h
          · by_cases ej : j = k
            · subst ej; exact absurd h1.symm e
            · exact Or.inr ⟨j, by omega, h1, h2⟩
    · rw [if_neg hneg, ih]
      have hp' : ¬ (a k).toInt < 0 := fun z => hneg (i64_lt.mpr (by rw [Int64.toInt_zero]; exact z))
      constructor
      · intro h
        rcases h with h | ⟨j, hj, h⟩
        · exact Or.inl h
        · exact Or.inr ⟨j, by omega, h⟩
      · intro h
        rcases h with h | ⟨j, hj, h1, h2⟩
        · exact Or.inl h
        · by_cases ej : j = k
          · subst ej; exact absurd h2 hp'
          · exact Or.inr ⟨j, by omega, h1, h2⟩
/-- the net of item j at q, as the slots say -/
def nvS (us : Nat → Nat) (ps : Nat → Nat → Nat) (am : Nat → Nat → Int64) (j q : Nat) : Int := sl_v (ps j) (am j) (us j) q
theorem gv_in_u {p : Nat → Nat} {a af : Nat → Int64} {u q : Nat} (h : sl_ok p a u) (haf : -5000000000000000000 ≤ (af q).toInt ∧ (af q).toInt ≤ 5000000000000000000) : (gv_in p a af u q).toInt = (af q).toInt + posI (sl_v p a u q) := by
  rw [gv_in_v h.1 (fun k hk => (h.2.2.2 k hk).2) haf u (Nat.le_refl u), sl_F posI (by decide) h.2.2.1]
  rfl
theorem tk_in_u {p : Nat → Nat} {a af : Nat → Int64} {u q : Nat} (h : sl_ok p a u) (haf : -5000000000000000000 ≤ (af q).toInt ∧ (af q).toInt ≤ 5000000000000000000) : (tk_in p a af u q).toInt = (af q).toInt + negI (sl_v p a u q) := by
  rw [tk_in_v h.1 (fun k hk => (h.2.2.2 k hk).2) haf u (Nat.le_refl u), sl_F negI (by decide) h.2.2.1]
  rfl
theorem bk_in_u {p : Nat → Nat} {a : Nat → Int64} {bl : Nat → Bool} {u q : Nat} (h : sl_ok p a u) : (bk_in p a bl u q = true ↔ (bl q = true ∨ sl_v p a u q < 0)) := by
  rw [bk_in_v u]
  constructor
  · intro z
    rcases z with z | ⟨j, hj, h1, h2⟩
    · exact Or.inl z
    · rw [← h1, sl_at h.2.2.1 hj]; exact Or.inr h2
  · intro z
    rcases z with z | z
    · exact Or.inl z
    · obtain ⟨k, hk, e⟩ := sl_hit (ps := p) (am := a) (u := u) (p := q) (by omega)
      rw [← e, sl_at h.2.2.1 hk] at z
      exact Or.inr ⟨k, hk, e, z⟩
theorem ct_u {p : Nat → Nat} {a fl af : Nat → Int64} {bl : Nat → Bool} {u : Nat} (h : sl_ok p a u) (haf : ∀ q, q < 300 → -5000000000000000000 ≤ (af q).toInt ∧ (af q).toInt ≤ 5000000000000000000) : ct p a u fl af bl = true ↔ ∀ q, q < 300 → sl_v p a u q < 0 → bl q = false ∧ (fl q).toInt ≤ (af q).toInt + sl_v p a u q := by
  unfold ct
  rw [decide_eq_true_iff]
  constructor
  · intro hc q hq hneg
    obtain ⟨k, hk, e⟩ := sl_hit (ps := p) (am := a) (u := u) (p := q) (by omega)
    subst e
    rw [sl_at h.2.2.1 hk] at hneg ⊢
    have h1 := hc k hk
    have hb := (h.2.2.2 k hk).2
    have hf := haf (p k) hq
    unfold ct_at at h1
    rw [decide_eq_true (i64_lt.mpr (by rw [Int64.toInt_zero]; exact hneg)), Bool.true_and, Bool.or_eq_false_iff] at h1
    refine ⟨h1.1, ?_⟩
    have h2 := of_decide_eq_false h1.2
    rw [i64_lt, i64_add (by omega) (by omega)] at h2
    omega
  · intro hc k hk
    have hb := (h.2.2.2 k hk).2
    have hf := haf (p k) (h.2.1 k hk)
    unfold ct_at
    by_cases hneg : a k < 0
    · have hp' : (a k).toInt < 0 := by
        have := i64_lt.mp hneg
        rw [Int64.toInt_zero] at this
        exact this
      have h1 := hc (p k) (h.2.1 k hk) (by rw [sl_at h.2.2.1 hk]; exact hp')
      rw [sl_at h.2.2.1 hk] at h1
      rw [h1.1, Bool.false_or, decide_eq_false (p := af (p k) + a k < fl (p k)) (by rw [i64_lt, i64_add (by omega) (by omega)]; have := h1.2; omega), Bool.and_false]
    · rw [decide_eq_false hneg, Bool.false_and]
section SWEEP
variable {us : Nat → Nat} {ps : Nat → Nat → Nat} {am : Nat → Nat → Int64} {T : Nat → Bool} {va fl : Nat → Int64} {n : Nat}
abbrev iV (f : Nat → Int64) : Nat → Int := fun q => (f q).toInt
/-- items' slots are as the document says, values and floors too -/
def cl_ok (us : Nat → Nat) (ps : Nat → Nat → Nat) (am : Nat → Nat → Int64) (va fl : Nat → Int64) (n : Nat) : Prop := n ≤ 200 ∧ (∀ i, i < n → sl_ok (ps i) (am i) (us i)) ∧ ∀ q, q < 300 → -1000000000000000000 ≤ (fl q).toInt ∧ (fl q).toInt ≤ (va q).toInt ∧ (va q).toInt ≤ 1000000000000000000
theorem nv_b (h : cl_ok us ps am va fl n) {i : Nat} (hi : i < n) (q : Nat) : -1000000000000000 ≤ nvS us ps am i q ∧ nvS us ps am i q ≤ 1000000000000000 := sl_bound (h.2.1 i hi)
theorem gG_b (h : cl_ok us ps am va fl n) (S : Nat → Bool) (q : Nat) {i : Nat} (hi : i ≤ n) : -200000000000000000 ≤ sm (gd_G (nvS us ps am) S q) i ∧ sm (gd_G (nvS us ps am) S q) i ≤ 200000000000000000 := by
  have hn := h.1
  have := sm_bound (f := gd_G (nvS us ps am) S q) (n := i) (fun k hk => by
    have := nv_b h (i := k) (by omega) q
    unfold gd_G
    split
    · exact this
    · omega)
  omega
theorem gK_b (h : cl_ok us ps am va fl n) (S : Nat → Bool) (q : Nat) {i : Nat} (hi : i ≤ n) : -200000000000000000 ≤ sm (gd_K (nvS us ps am) S q) i ∧ sm (gd_K (nvS us ps am) S q) i ≤ 200000000000000000 := by
  have hn := h.1
  have := sm_bound (f := gd_K (nvS us ps am) S q) (n := i) (fun k hk => by
    have := nv_b h (i := k) (by omega) q
    unfold gd_K
    split
    · exact this
    · omega)
  omega
theorem gT_b (h : cl_ok us ps am va fl n) (S : Nat → Bool) (q : Nat) {i : Nat} (hi : i ≤ n) : -200000000000000000 ≤ sm (gd_T (nvS us ps am) S q) i ∧ sm (gd_T (nvS us ps am) S q) i ≤ 200000000000000000 := by
  have hn := h.1
  have := sm_bound (f := gd_T (nvS us ps am) S q) (n := i) (fun k hk => by
    have := nv_b h (i := k) (by omega) q
    unfold gd_T
    split
    · exact this
    · omega)
  omega
theorem gv_out_v (h : cl_ok us ps am va fl n) {S : Nat → Bool} {af : Nat → Int64} {q : Nat} (haf : -1000000000000000000 ≤ (af q).toInt ∧ (af q).toInt ≤ 1000000000000000000) : ∀ i, i ≤ n → (gv_out us ps am S af i q).toInt = (af q).toInt + sm (gd_G (nvS us ps am) S q) i := by
  intro i
  induction i with
  | zero =>
    intro _
    show (af q).toInt = (af q).toInt + 0
    omega
  | succ i ih =>
    intro hi
    have h1 := ih (by omega)
    have hb := gG_b h S q (i := i) (by omega)
    rw [sm_succ]
    unfold gv_out
    by_cases hs : S i = true
    · rw [if_pos hs, gv_in_u (h.2.1 i (by omega)) (by omega), h1]
      unfold gd_G posI nvS
      by_cases hp : 0 < sl_v (ps i) (am i) (us i) q
      · rw [if_pos hp, if_pos ⟨hs, hp⟩]; omega
      · rw [if_neg hp, if_neg (fun z => hp z.2)]; omega
    · rw [if_neg hs, h1]
      unfold gd_G
      rw [if_neg (fun z => hs z.1)]
      omega
/-- what holds at item i of a sweep that began with the set C, n items -/
def sw_inv (us : Nat → Nat) (ps : Nat → Nat → Nat) (am : Nat → Nat → Int64) (T : Nat → Bool) (va fl : Nat → Int64) (n : Nat) (C : Nat → Bool) (i : Nat) (σ : DS) : Prop :=
  (∀ k, k < n → σ.1 k = true → C k = true) ∧ gd_sub n T (nvS us ps am) (iV va) (iV fl) σ.1 ∧
  (∀ q, q < 300 → (σ.2.1 q).toInt = (va q).toInt + sm (gd_G (nvS us ps am) C q) n + sm (gd_K (nvS us ps am) σ.1 q) i) ∧
  (∀ q, q < 300 → (σ.2.2.1 q = true ↔ ∃ j, j < i ∧ T j = true ∧ σ.1 j = false ∧ nvS us ps am j q < 0)) ∧
  σ.2.2.2 = cn σ.1 n ∧
  (σ.2.2.2 < cn C n ∨ ((∀ k, k < n → σ.1 k = C k) ∧ ∀ j, j < i → C j = true → gd_can T (nvS us ps am) (iV fl) C (fun q => (va q).toInt + sm (gd_G (nvS us ps am) C q) n + sm (gd_K (nvS us ps am) C q) j) j))
theorem gK_off {nv : Nat → Nat → Int} {S : Nat → Bool} {q i : Nat} {b : Bool} : sm (gd_K nv (va_up S i b) q) i = sm (gd_K nv S q) i := sm_congr (fun k hk => by unfold gd_K; rw [va_up_ne S b (Nat.ne_of_lt hk)])
theorem sw_step (h : cl_ok us ps am va fl n) {C : Nat → Bool} (hCT : ∀ k, k < n → C k = true → T k = true) {i : Nat} (hi : i < n) {σ : DS} (I : sw_inv us ps am T va fl n C i σ) : sw_inv us ps am T va fl n C (i + 1) (dh_step us ps am T fl i σ) := by
  obtain ⟨h1, h2, h3, h4, h5, h6⟩ := I
  have hok := h.2.1 i hi
  have hvb : ∀ q, q < 300 → -5000000000000000000 ≤ (σ.2.1 q).toInt ∧ (σ.2.1 q).toInt ≤ 5000000000000000000 := by
    intro q hq
    have a1 := gG_b h C q (Nat.le_refl n)
    have a2 := gK_b h σ.1 q (i := i) (Nat.le_of_lt hi)
    have a3 := h.2.2 q hq
    have a4 := h3 q hq
    omega
  have hST : ∀ k, k < n → σ.1 k = true → T k = true := fun k hk hs => hCT k hk (h1 k hk hs)
  unfold dh_step
  by_cases hT : T i = true
  · rw [if_pos hT]
    by_cases hc : σ.1 i = true ∧ ct (ps i) (am i) (us i) fl σ.2.1 σ.2.2.1 = true
    · rw [if_pos hc]
      refine ⟨h1, h2, fun q hq => ?_, fun q hq => ?_, h5, ?_⟩
      · show (tk_in (ps i) (am i) σ.2.1 (us i) q).toInt = (va q).toInt + sm (gd_G (nvS us ps am) C q) n + sm (gd_K (nvS us ps am) σ.1 q) (i + 1)
        rw [tk_in_u hok (hvb q hq), h3 q hq, sm_succ]
        have e : gd_K (nvS us ps am) σ.1 q i = negI (sl_v (ps i) (am i) (us i) q) := by
          unfold gd_K negI nvS
          by_cases hn : sl_v (ps i) (am i) (us i) q < 0
          · rw [if_pos hn, if_pos ⟨hc.1, hn⟩]
          · rw [if_neg hn, if_neg (fun z => hn z.2)]
        rw [e]
        omega
      · show σ.2.2.1 q = true ↔ _
        rw [h4 q hq]
        constructor
        · intro ⟨j, hj, z⟩
          exact ⟨j, by omega, z⟩
        · intro ⟨j, hj, z1, z2, z3⟩
          by_cases e : j = i
          · subst e; rw [hc.1] at z2; cases z2
          · exact ⟨j, by omega, z1, z2, z3⟩
      · show σ.2.2.2 < cn C n ∨ _
        rcases h6 with h6 | ⟨h6, h7⟩
        · exact Or.inl h6
        · refine Or.inr ⟨h6, fun j hj hCj => ?_⟩
          by_cases e : j = i
          · subst e
            intro q hq hneg
            have hct := (ct_u hok hvb).mp hc.2 q hq hneg
            refine ⟨fun k hk hTk hCk hkn => ?_, ?_⟩
            · have : σ.2.2.1 q = true := (h4 q hq).mpr ⟨k, hk, hTk, by rw [h6 k (by omega)]; exact hCk, hkn⟩
              rw [hct.1] at this
              cases this
            · have e3 := h3 q hq
              have e4 : sm (gd_K (nvS us ps am) σ.1 q) j = sm (gd_K (nvS us ps am) C q) j := sm_congr (fun k hk => by unfold gd_K; rw [h6 k (by omega)])
              rw [e4] at e3
              have e5 := hct.2
              show (fl q).toInt ≤ (va q).toInt + sm (gd_G (nvS us ps am) C q) n + sm (gd_K (nvS us ps am) C q) j + nvS us ps am j q
              rw [← e3]
              exact e5
          · exact h7 j (by omega) hCj
    · rw [if_neg hc]
      have hsub : gd_sub n T (nvS us ps am) (iV va) (iV fl) (va_up σ.1 i false) := by
        by_cases hs : σ.1 i = true
        · refine gd_drop (C := C) (af := fun q => (σ.2.1 q).toInt) hST h1 h2 hi h3 (fun hcan => hc ⟨hs, (ct_u hok hvb).mpr (fun q hq hneg => ?_)⟩)
          obtain ⟨c1, c2⟩ := hcan q hq hneg
          refine ⟨?_, c2⟩
          cases hb : σ.2.2.1 q with
          | false => rfl
          | true =>
            obtain ⟨j, hj, z1, z2, z3⟩ := (h4 q hq).mp hb
            exact (c1 j hj z1 z2 z3).elim
        · have e : va_up σ.1 i false = σ.1 := by
            have e0 : σ.1 i = false := by
              cases hz : σ.1 i with
              | false => rfl
              | true => exact absurd hz hs
            rw [← e0]
            exact up_same σ.1 i
          rw [e]
          exact h2
      refine ⟨fun k hk hs => ?_, hsub, fun q hq => ?_, fun q hq => ?_, ?_, ?_⟩
      · by_cases e : k = i
        · subst e
          have hs : va_up σ.1 k false k = true := hs
          rw [va_up_self] at hs
          cases hs
        · have hs : va_up σ.1 i false k = true := hs
          rw [va_up_ne _ _ e] at hs
          exact h1 k hk hs
      · show (σ.2.1 q).toInt = _ + sm (gd_K (nvS us ps am) (va_up σ.1 i false) q) (i + 1)
        rw [sm_succ, gK_off]
        have e : gd_K (nvS us ps am) (va_up σ.1 i false) q i = 0 := by
          unfold gd_K
          rw [va_up_self]
          exact if_neg (fun z => by cases z.1)
        rw [e, h3 q hq]
        omega
      · show bk_in (ps i) (am i) σ.2.2.1 (us i) q = true ↔ ∃ j, j < i + 1 ∧ T j = true ∧ va_up σ.1 i false j = false ∧ nvS us ps am j q < 0
        rw [bk_in_u hok, h4 q hq]
        constructor
        · intro z
          rcases z with ⟨j, hj, z1, z2, z3⟩ | z
          · exact ⟨j, by omega, z1, by rw [va_up_ne _ _ (by omega)]; exact z2, z3⟩
          · exact ⟨i, by omega, hT, va_up_self _ _ _, z⟩
        · intro ⟨j, hj, z1, z2, z3⟩
          by_cases e : j = i
          · subst e; exact Or.inr z3
          · rw [va_up_ne _ _ e] at z2
            exact Or.inl ⟨j, by omega, z1, z2, z3⟩
      · show (if σ.1 i = true then σ.2.2.2 - 1 else σ.2.2.2) = cn (va_up σ.1 i false) n
        by_cases hs : σ.1 i = true
        · rw [if_pos hs]
          have := cn_off n hi hs
          omega
        · rw [if_neg hs, h5]
          exact cn_congr (fun k hk => by
            by_cases e : k = i
            · subst e
              rw [va_up_self]
              cases hz : σ.1 k with
              | false => rfl
              | true => exact absurd hz hs
            · rw [va_up_ne _ _ e])
      · show (if σ.1 i = true then σ.2.2.2 - 1 else σ.2.2.2) < cn C n ∨ _
        by_cases hs : σ.1 i = true
        · rw [if_pos hs]
          have hpos := cn_pos (n := n) hi hs
          rcases h6 with h6 | ⟨h6, h7⟩
          · exact Or.inl (by omega)
          · have := cn_congr h6
            exact Or.inl (by omega)
        · rw [if_neg hs]
          rcases h6 with h6 | ⟨h6, h7⟩
          · exact Or.inl h6
          · refine Or.inr ⟨fun k hk => ?_, fun j hj hCj => ?_⟩
            · show va_up σ.1 i false k = C k
              by_cases e : k = i
              · subst e
                rw [va_up_self, ← h6 k hk]
                cases hz : σ.1 k with
                | false => rfl
                | true => exact absurd hz hs
              · rw [va_up_ne _ _ e]; exact h6 k hk
            · by_cases e : j = i
              · subst e
                rw [← h6 j hi] at hCj
                exact absurd hCj hs
              · exact h7 j (by omega) hCj
  · rw [if_neg hT]
    have hsF : σ.1 i = false := by
      cases hz : σ.1 i with
      | false => rfl
      | true => exact absurd (hST i hi hz) hT
    refine ⟨h1, h2, fun q hq => ?_, fun q hq => ?_, h5, ?_⟩
    · have e : gd_K (nvS us ps am) σ.1 q i = 0 := if_neg (fun z => by rw [hsF] at z; cases z.1)
      rw [sm_succ, e, h3 q hq]
      omega
    · rw [h4 q hq]
      constructor
      · intro ⟨j, hj, z⟩
        exact ⟨j, by omega, z⟩
      · intro ⟨j, hj, z1, z⟩
        by_cases e : j = i
        · subst e; exact absurd z1 hT
        · exact ⟨j, by omega, z1, z⟩
    · rcases h6 with h6 | ⟨h6, h7⟩
      · exact Or.inl h6
      · refine Or.inr ⟨h6, fun j hj hCj => ?_⟩
        by_cases e : j = i
        · subst e; exact absurd (hCT j hi hCj) hT
        · exact h7 j (by omega) hCj
/-- what holds of a state between sweeps -/
def fg_inv (us : Nat → Nat) (ps : Nat → Nat → Nat) (am : Nat → Nat → Int64) (T : Nat → Bool) (va fl : Nat → Int64) (n : Nat) (σ : DS) : Prop := (∀ k, k < n → σ.1 k = true → T k = true) ∧ gd_sub n T (nvS us ps am) (iV va) (iV fl) σ.1 ∧ σ.2.2.2 = cn σ.1 n
theorem sw_start (h : cl_ok us ps am va fl n) {σ : DS} (I : fg_inv us ps am T va fl n σ) : sw_inv us ps am T va fl n σ.1 0 (σ.1, gv_out us ps am σ.1 (sr_a va σ.2.1 300) n, sr_b σ.2.2.1 300, σ.2.2.2) := by
  obtain ⟨h1, h2, h3⟩ := I
  refine ⟨fun k hk hs => hs, h2, fun q hq => ?_, fun q hq => ?_, h3, Or.inr ⟨fun k hk => rfl, fun j hj => absurd hj (Nat.not_lt_zero j)⟩⟩
  · show (gv_out us ps am σ.1 (sr_a va σ.2.1 300) n q).toInt = (va q).toInt + sm (gd_G (nvS us ps am) σ.1 q) n + 0
    have e := sr_a_at va σ.2.1 300 q hq
    have hb := h.2.2 q hq
    rw [gv_out_v h (by rw [e]; omega) n (Nat.le_refl n), e]
    omega
  · show sr_b σ.2.2.1 300 q = true ↔ _
    rw [sr_b_at σ.2.2.1 300 q hq]
    exact ⟨fun z => (by cases z), fun ⟨j, hj, _⟩ => absurd hj (Nat.not_lt_zero j)⟩
theorem sw_all (h : cl_ok us ps am va fl n) {σ : DS} (I : fg_inv us ps am T va fl n σ) : ∀ i, i ≤ n → sw_inv us ps am T va fl n σ.1 i (dh us ps am T fl (σ.1, gv_out us ps am σ.1 (sr_a va σ.2.1 300) n, sr_b σ.2.2.1 300, σ.2.2.2) i) := by
  intro i
  induction i with
  | zero => intro _; exact sw_start h I
  | succ i ih => intro hi; exact sw_step h I.1 (by omega) (ih (by omega))
/-- what the search leaves -/
def fg_end (us : Nat → Nat) (ps : Nat → Nat → Nat) (am : Nat → Nat → Int64) (T : Nat → Bool) (va fl : Nat → Int64) (n : Nat) (σ : DS) : Prop := gd_good n T (nvS us ps am) (iV va) (iV fl) σ.1 ∧ gd_sub n T (nvS us ps am) (iV va) (iV fl) σ.1 ∧ σ.2.2.2 = cn σ.1 n ∧ ∀ q, q < 300 → (σ.2.1 q).toInt = (va q).toInt + sm (gd_T (nvS us ps am) σ.1 q) n
theorem sw_next (h : cl_ok us ps am va fl n) {σ : DS} (I : fg_inv us ps am T va fl n σ) : fg_inv us ps am T va fl n (swp us ps am T va fl n σ) ∧ (¬ (swp us ps am T va fl n σ).2.2.2 < σ.2.2.2 → fg_end us ps am T va fl n (swp us ps am T va fl n σ)) := by
  have h0 := sw_all h I n (Nat.le_refl n)
  generalize hσ : swp us ps am T va fl n σ = τ
  have h0 : sw_inv us ps am T va fl n σ.1 n τ := by rw [← hσ]; exact h0
  obtain ⟨h1, h2, h3, h4, h5, h6⟩ := h0
  have hT : ∀ k, k < n → τ.1 k = true → T k = true := fun k hk hs => I.1 k hk (h1 k hk hs)
  refine ⟨⟨hT, h2, h5⟩, fun hno => ?_⟩
  rcases h6 with h6 | ⟨h6, h7⟩
  · rw [← I.2.2] at h6; exact absurd h6 hno
  · have hg : gd_good n T (nvS us ps am) (iV va) (iV fl) σ.1 := gd_sweep I.1 (fun p hp => (h.2.2 p hp).2.1) h7
    refine ⟨gd_good_congr (fun _ _ => rfl) (fun _ _ _ _ => rfl) (fun _ _ => rfl) (fun _ _ => rfl) (fun k hk => (h6 k hk).symm) hg, h2, h5, fun q hq => ?_⟩
    rw [h3 q hq, gd_split, sm_congr (f := gd_G (nvS us ps am) σ.1 q) (g := gd_G (nvS us ps am) τ.1 q) (fun k hk => by unfold gd_G; rw [h6 k hk])]
    omega
theorem fg_all (h : cl_ok us ps am va fl n) : ∀ (f : Nat) (σ : DS), fg_inv us ps am T va fl n σ → σ.2.2.2 < f → fg_end us ps am T va fl n (fg us ps am T va fl n f σ) := by
  intro f
  induction f with
  | zero => intro σ _ hf; exact absurd hf (Nat.not_lt_zero _)
  | succ f ih =>
    intro σ I hf
    obtain ⟨h1, h2⟩ := sw_next h I
    unfold fg
    by_cases hlt : (swp us ps am T va fl n σ).2.2.2 < σ.2.2.2
    · rw [if_pos hlt]
      exact ih _ h1 (by omega)
    · rw [if_neg hlt]
      exact h2 hlt
/-- the search from its start -/
theorem fg_start (S af bl) {tc : Nat} (htc : tc = cn T n) : fg_inv us ps am T va fl n (st_s T S n, af, bl, tc) := by
  have e : ∀ k, k < n → st_s T S n k = T k := fun k hk => st_s_at T S n k hk
  refine ⟨fun k hk hs => ?_, fun G hG i hi hg => ?_, ?_⟩
  · rw [← e k hk]; exact hs
  · show st_s T S n i = true
    rw [e i hi]
    exact hG.1 i hi hg
  · show tc = cn (st_s T S n) n
    rw [htc]
    exact (cn_congr e).symm
end SWEEP
end
section
/-! WHAT THE REFERENCE'S SEARCH COMPUTES, loop by loop, and what that is -/
abbrev psM (po : Nat → Nat) : Nat → Nat → Nat := fun i k => po (16 * i + k)
abbrev amM (am : Nat → Int64) : Nat → Nat → Int64 := fun i k => am (16 * i + k)
def mq (po : Nat → Nat) (p : Nat) : Nat → Bool := fun k => decide (po k = p)
def mfd (mn po : Nat → Nat) (i p : Nat) : Nat := fs (mq po p) (mn i) (16 * i)
def netA (mn po : Nat → Nat) (am : Nat → Int64) (i p : Nat) : Int64 := if mfd mn po i p < 16 * i + mn i then am (mfd mn po i p) else 0
def m_tot (mn po : Nat → Nat) (am va : Nat → Int64) (ch : Nat → Bool) (p : Nat) : Nat → Int64
  | 0 => va p
  | i + 1 => m_tot mn po am va ch p i + (if ch i = true then netA mn po am i p else 0)
def m_last (mn po : Nat → Nat) (am : Nat → Int64) (ch : Nat → Bool) (p : Nat) : Nat → Int32
  | 0 => -1
  | i + 1 => if ch i = true ∧ netA mn po am i p < 0 then nI i else m_last mn po am ch p i
def m_meet (mn po : Nat → Nat) (am : Nat → Int64) (a b : Nat) : Nat → Bool
  | 0 => false
  | k + 1 => m_meet mn po am a b k || (decide (am (16 * a + k) < 0) && decide (netA mn po am b (po (16 * a + k)) < 0))
def m_lack (mn po : Nat → Nat) (am : Nat → Int64) (T ch : Nat → Bool) (i : Nat) : Nat → Bool
  | 0 => false
  | j + 1 => m_lack mn po am T ch i j || (T j && (!ch j && m_meet mn po am j i (mn j)))
abbrev CB : Type := (Nat → Bool) × Bool
def m_p1 (mn po : Nat → Nat) (am va fl : Nat → Int64) (n : Nat) (ch : Nat → Bool) : Nat → CB
  | 0 => (ch, false)
  | p + 1 => if m_tot mn po am va (m_p1 mn po am va fl n ch p).1 p n < fl p then (va_up (m_p1 mn po am va fl n ch p).1 (m_last mn po am (m_p1 mn po am va fl n ch p).1 p n).toNatClampNeg false, true) else m_p1 mn po am va fl n ch p
def m_p2 (mn po : Nat → Nat) (am : Nat → Int64) (T : Nat → Bool) (σ : CB) : Nat → CB
  | 0 => σ
  | i + 1 => if (m_p2 mn po am T σ i).1 i = true ∧ m_lack mn po am T (m_p2 mn po am T σ i).1 i i = true then (va_up (m_p2 mn po am T σ i).1 i false, true) else m_p2 mn po am T σ i
def m_it (mn po : Nat → Nat) (am va fl : Nat → Int64) (n : Nat) (T ch : Nat → Bool) : CB := m_p2 mn po am T (m_p1 mn po am va fl n ch 300) n
theorem netA_v {mn po : Nat → Nat} {am : Nat → Int64} {i p : Nat} (hd : ∀ a b, a < mn i → b < mn i → psM po i a = psM po i b → a = b) : (netA mn po am i p).toInt = nvS mn (psM po) (amM am) i p := by
  have e : mfd mn po i p = 16 * i + fs (fun k => decide (psM po i k = p)) (mn i) 0 := by
    unfold mfd
    exact fs_shift (q := mq po p) (r := fun k => decide (psM po i k = p)) (16 * i) (mn i) 0 (fun j _ _ => rfl)
  have h := sl_nt (ps := psM po i) (am := amM am i) (u := mn i) (p := p) (q := fun k => decide (psM po i k = p)) hd (fun k _ => decide_eq_true_iff)
  unfold nvS
  rw [← h]
  unfold netA ntq
  rw [e]
  by_cases hlt : fs (fun k => decide (psM po i k = p)) (mn i) 0 < mn i
  · rw [if_pos hlt, if_pos (by omega)]
  · rw [if_neg hlt, if_neg (by omega)]
section MODEL
variable {mn po : Nat → Nat} {am va fl : Nat → Int64} {n : Nat} {T : Nat → Bool}
theorem m_net (h : cl_ok mn (psM po) (amM am) va fl n) {i : Nat} (hi : i < n) (p : Nat) : (netA mn po am i p).toInt = nvS mn (psM po) (amM am) i p := netA_v (h.2.1 i hi).2.2.1
theorem m_neg (h : cl_ok mn (psM po) (amM am) va fl n) {i : Nat} (hi : i < n) (p : Nat) : netA mn po am i p < 0 ↔ nvS mn (psM po) (amM am) i p < 0 := by
  rw [i64_lt, m_net h hi, Int64.toInt_zero]
theorem m_tot_v (h : cl_ok mn (psM po) (amM am) va fl n) (ch : Nat → Bool) {p : Nat} (hp : p < 300) : ∀ i, i ≤ n → (m_tot mn po am va ch p i).toInt = (va p).toInt + sm (gd_T (nvS mn (psM po) (amM am)) ch p) i := by
  intro i
  induction i with
  | zero =>
    intro _
    show (va p).toInt = (va p).toInt + 0
    omega
  | succ i ih =>
    intro hi
    have h1 := ih (by omega)
    have hb := gT_b h ch p (i := i) (by omega)
    have hv := h.2.2 p hp
    have hn := nv_b h (i := i) (by omega) p
    have e := m_net h (i := i) (by omega) p
    rw [sm_succ]
    unfold m_tot gd_T
    by_cases hc : ch i = true
    · rw [if_pos hc, if_pos hc, i64_add (by rw [h1, e]; omega) (by rw [h1, e]; omega), h1, e]
      unfold gd_T
      omega
    · rw [if_neg hc, if_neg hc, i64_add (by rw [h1, Int64.toInt_zero]; omega) (by rw [h1, Int64.toInt_zero]; omega), h1, Int64.toInt_zero]
      unfold gd_T
      omega
theorem m_last_v (h : cl_ok mn (psM po) (amM am) va fl n) (ch : Nat → Bool) (p : Nat) : ∀ i, i ≤ n → (∀ t, t < i → ch t = true → nvS mn (psM po) (amM am) t p < 0 → False) ∨ ∃ t, t < i ∧ ch t = true ∧ nvS mn (psM po) (amM am) t p < 0 ∧ m_last mn po am ch p i = nI t ∧ ∀ j, t < j → j < i → ch j = true → nvS mn (psM po) (amM am) j p < 0 → False := by
  intro i
  induction i with
  | zero => intro _; exact Or.inl (fun t ht => absurd ht (Nat.not_lt_zero t))
  | succ i ih =>
    intro hi
    unfold m_last
    by_cases hc : ch i = true ∧ netA mn po am i p < 0
    · rw [if_pos hc]
      exact Or.inr ⟨i, Nat.lt_succ_self i, hc.1, (m_neg h (by omega) p).mp hc.2, rfl, fun j h1 h2 => absurd h1 (by omega)⟩
    · rw [if_neg hc]
      have hno : ch i = true → nvS mn (psM po) (amM am) i p < 0 → False := fun a b => hc ⟨a, (m_neg h (by omega) p).mpr b⟩
      rcases ih (by omega) with h1 | ⟨t, ht, a1, a2, a3, a4⟩
      · refine Or.inl (fun t ht => ?_)
        by_cases e : t = i
        · subst e; exact hno
        · exact h1 t (by omega)
      · refine Or.inr ⟨t, by omega, a1, a2, a3, fun j h1 h2 => ?_⟩
        by_cases e : j = i
        · subst e; exact hno
        · exact a4 j h1 (by omega)
/-- below its floor: the last taker is an item of the set -/
theorem m_last_in (h : cl_ok mn (psM po) (amM am) va fl n) (ch : Nat → Bool) {p : Nat} (hp : p < 300) (hlow : m_tot mn po am va ch p n < fl p) : ∃ t, t < n ∧ ch t = true ∧ nvS mn (psM po) (amM am) t p < 0 ∧ m_last mn po am ch p n = nI t ∧ ∀ j, t < j → j < n → ch j = true → nvS mn (psM po) (amM am) j p < 0 → False := by
  rcases m_last_v h ch p n (Nat.le_refl n) with h1 | h1
  · rw [i64_lt, m_tot_v h ch hp n (Nat.le_refl n)] at hlow
    exact (gd_taker (va := iV va) (fl := iV fl) (h.2.2 p hp).2.1 hlow h1).elim
  · exact h1
theorem m_meet_v (h : cl_ok mn (psM po) (amM am) va fl n) {a b : Nat} (hb : b < n) : ∀ k, (m_meet mn po am a b k = true ↔ ∃ j, j < k ∧ (amM am a j).toInt < 0 ∧ nvS mn (psM po) (amM am) b (psM po a j) < 0) := by
  intro k
  induction k with
  | zero => exact ⟨fun z => (by cases z), fun ⟨j, hj, _⟩ => absurd hj (Nat.not_lt_zero j)⟩
  | succ k ih =>
    unfold m_meet
    rw [Bool.or_eq_true, ih, Bool.and_eq_true, decide_eq_true_iff, decide_eq_true_iff, m_neg h hb, i64_lt, Int64.toInt_zero]
    constructor
    · intro z
      rcases z with ⟨j, hj, z⟩ | z
      · exact ⟨j, by omega, z⟩
      · exact ⟨k, Nat.lt_succ_self k, z⟩
    · intro ⟨j, hj, z⟩
      by_cases e : j = k
      · subst e; exact Or.inr z
      · exact Or.inl ⟨j, by omega, z⟩
theorem m_meet_u (h : cl_ok mn (psM po) (amM am) va fl n) {a b : Nat} (ha : a < n) (hb : b < n) : m_meet mn po am a b (mn a) = true ↔ ∃ q, q < 300 ∧ nvS mn (psM po) (amM am) a q < 0 ∧ nvS mn (psM po) (amM am) b q < 0 := by
  have hok := h.2.1 a ha
  rw [m_meet_v h hb]
  constructor
  · intro ⟨j, hj, z1, z2⟩
    refine ⟨psM po a j, hok.2.1 j hj, ?_, z2⟩
    unfold nvS
    rw [sl_at hok.2.2.1 hj]
    exact z1
  · intro ⟨q, hq, z1, z2⟩
    obtain ⟨k, hk, e⟩ := sl_hit (ps := psM po a) (am := amM am a) (u := mn a) (p := q) (fun z => by
      have : nvS mn (psM po) (amM am) a q = 0 := z
      omega)
    refine ⟨k, hk, ?_, by rw [e]; exact z2⟩
    have z1 : sl_v (psM po a) (amM am a) (mn a) q < 0 := z1
    rw [← e, sl_at hok.2.2.1 hk] at z1
    exact z1
theorem m_lack_v (h : cl_ok mn (psM po) (amM am) va fl n) (ch : Nat → Bool) {i : Nat} (hi : i < n) : ∀ j, j ≤ i → (m_lack mn po am T ch i j = true ↔ ∃ k, k < j ∧ T k = true ∧ ch k = false ∧ ∃ q, q < 300 ∧ nvS mn (psM po) (amM am) k q < 0 ∧ nvS mn (psM po) (amM am) i q < 0) := by
  intro j
  induction j with
  | zero => intro _; exact ⟨fun z => (by cases z), fun ⟨j, hj, _⟩ => absurd hj (Nat.not_lt_zero j)⟩
  | succ j ih =>
    intro hj
    unfold m_lack
    rw [Bool.or_eq_true, ih (by omega), Bool.and_eq_true, Bool.and_eq_true, m_meet_u h (by omega) hi, Bool.not_eq_true']
    constructor
    · intro z
      rcases z with ⟨k, hk, z⟩ | ⟨z1, z2, z3⟩
      · exact ⟨k, by omega, z⟩
      · exact ⟨j, Nat.lt_succ_self j, z1, z2, z3⟩
    · intro ⟨k, hk, z⟩
      by_cases e : k = j
      · subst e; exact Or.inr ⟨z.1, z.2.1, z.2.2⟩
      · exact Or.inl ⟨k, by omega, z⟩
/-- what holds of the reference's set at all times -/
def ms_inv (mn po : Nat → Nat) (am va fl : Nat → Int64) (n : Nat) (T ch : Nat → Bool) : Prop := (∀ k, k < n → ch k = true → T k = true) ∧ gd_sub n T (nvS mn (psM po) (amM am)) (iV va) (iV fl) ch ∧ ∀ k, n ≤ k → ch k = false
theorem ms_off {ch : Nat → Bool} {t : Nat} (I : ms_inv mn po am va fl n T ch) (hs : gd_sub n T (nvS mn (psM po) (amM am)) (iV va) (iV fl) (va_up ch t false)) : ms_inv mn po am va fl n T (va_up ch t false) := by
  refine ⟨fun k hk hc => ?_, hs, fun k hk => ?_⟩
  · by_cases e : k = t
    · subst e; rw [va_up_self] at hc; cases hc
    · rw [va_up_ne _ _ e] at hc; exact I.1 k hk hc
  · by_cases e : k = t
    · subst e; rw [va_up_self]
    · rw [va_up_ne _ _ e]; exact I.2.2 k hk
theorem m_p1_v (h : cl_ok mn (psM po) (amM am) va fl n) {ch : Nat → Bool} (I : ms_inv mn po am va fl n T ch) : ∀ p, p ≤ 300 → ms_inv mn po am va fl n T (m_p1 mn po am va fl n ch p).1 ∧ ((m_p1 mn po am va fl n ch p).2 = false → (m_p1 mn po am va fl n ch p).1 = ch ∧ ∀ q, q < p → (fl q).toInt ≤ (va q).toInt + sm (gd_T (nvS mn (psM po) (amM am)) ch q) n) ∧ cn (m_p1 mn po am va fl n ch p).1 n ≤ cn ch n ∧ ((m_p1 mn po am va fl n ch p).2 = true → cn (m_p1 mn po am va fl n ch p).1 n < cn ch n) := by
  intro p
  induction p with
  | zero => intro _; exact ⟨I, fun _ => ⟨rfl, fun q hq => absurd hq (Nat.not_lt_zero q)⟩, Nat.le_refl _, fun z => (by cases z)⟩
  | succ p ih =>
    intro hp
    obtain ⟨h1, h2, h3, h4⟩ := ih (by omega)
    unfold m_p1
    generalize hσ : m_p1 mn po am va fl n ch p = σ at h1 h2 h3 h4 ⊢
    by_cases hlow : m_tot mn po am va σ.1 p n < fl p
    · rw [if_pos hlow]
      obtain ⟨t, ht, a1, a2, a3, a4⟩ := m_last_in h σ.1 (by omega) hlow
      have e : (m_last mn po am σ.1 p n).toNatClampNeg = t := by rw [a3, nI_clamp (by have := h.1; omega)]
      rw [e]
      have hl := hlow
      rw [i64_lt, m_tot_v h σ.1 (by omega) n (Nat.le_refl n)] at hl
      have hc := cn_off n ht a1
      refine ⟨ms_off h1 (gd_last h1.1 h1.2.1 (show p < 300 by omega) hl ht a2 a4), fun z => (by cases z), ?_, fun _ => ?_⟩
      · show cn (va_up σ.1 t false) n ≤ cn ch n
        omega
      · show cn (va_up σ.1 t false) n < cn ch n
        omega
    · rw [if_neg hlow]
      refine ⟨h1, fun z => ?_, h3, h4⟩
      obtain ⟨b1, b2⟩ := h2 z
      refine ⟨b1, fun q hq => ?_⟩
      by_cases e : q = p
      · subst e
        rw [i64_lt, m_tot_v h σ.1 (by omega) n (Nat.le_refl n), b1] at hlow
        omega
      · exact b2 q (by omega)
theorem m_p2_v (h : cl_ok mn (psM po) (amM am) va fl n) {σ : CB} (I : ms_inv mn po am va fl n T σ.1) : ∀ i, i ≤ n → ms_inv mn po am va fl n T (m_p2 mn po am T σ i).1 ∧ ((m_p2 mn po am T σ i).2 = false → σ.2 = false ∧ (m_p2 mn po am T σ i).1 = σ.1 ∧ ∀ k, k < i → σ.1 k = true → m_lack mn po am T σ.1 k k = false) ∧ cn (m_p2 mn po am T σ i).1 n ≤ cn σ.1 n ∧ ((m_p2 mn po am T σ i).2 = true → σ.2 = true ∨ cn (m_p2 mn po am T σ i).1 n < cn σ.1 n) := by
  intro i
  induction i with
  | zero => intro _; exact ⟨I, fun z => ⟨z, rfl, fun k hk => absurd hk (Nat.not_lt_zero k)⟩, Nat.le_refl _, fun z => Or.inl z⟩
  | succ i ih =>
    intro hi
    obtain ⟨h1, h2, h3, h4⟩ := ih (by omega)
    unfold m_p2
    generalize hτ : m_p2 mn po am T σ i = τ at h1 h2 h3 h4 ⊢
    by_cases hc : τ.1 i = true ∧ m_lack mn po am T τ.1 i i = true
    · rw [if_pos hc]
      obtain ⟨k, hk, z1, z2, q, hq, z3, z4⟩ := (m_lack_v h τ.1 (show i < n by omega) i (Nat.le_refl i)).mp hc.2
      have ho := cn_off n (show i < n by omega) hc.1
      refine ⟨ms_off h1 (gd_lack h1.2.1 hq (show i < n by omega) hk z1 (by rw [z2]; decide) z4 z3), fun z => (by cases z), ?_, fun _ => Or.inr ?_⟩
      · show cn (va_up τ.1 i false) n ≤ cn σ.1 n
        omega
      · show cn (va_up τ.1 i false) n < cn σ.1 n
        omega
    · rw [if_neg hc]
      refine ⟨h1, fun z => ?_, h3, h4⟩
      obtain ⟨b0, b1, b2⟩ := h2 z
      refine ⟨b0, b1, fun k hk hs => ?_⟩
      by_cases e : k = i
      · subst e
        rw [b1] at hc
        cases hz : m_lack mn po am T σ.1 k k with
        | false => rfl
        | true => exact absurd ⟨hs, hz⟩ hc
      · exact b2 k (by omega) hs
/-- one round of the reference's search -/
theorem m_it_v (h : cl_ok mn (psM po) (amM am) va fl n) {ch : Nat → Bool} (I : ms_inv mn po am va fl n T ch) : ms_inv mn po am va fl n T (m_it mn po am va fl n T ch).1 ∧ ((m_it mn po am va fl n T ch).2 = false → gd_good n T (nvS mn (psM po) (amM am)) (iV va) (iV fl) (m_it mn po am va fl n T ch).1) ∧ ((m_it mn po am va fl n T ch).2 = true → cn (m_it mn po am va fl n T ch).1 n < cn ch n) := by
  obtain ⟨h1, h2, h3, h4⟩ := m_p1_v h I 300 (Nat.le_refl 300)
  have hh := m_p2_v h (σ := m_p1 mn po am va fl n ch 300) h1 n (Nat.le_refl n)
  unfold m_it
  generalize m_p1 mn po am va fl n ch 300 = σ at h1 h2 h3 h4 hh ⊢
  obtain ⟨k1, k2, k3, k4⟩ := hh
  generalize m_p2 mn po am T σ n = τ at k1 k2 k3 k4 ⊢
  refine ⟨k1, fun z => ?_, fun z => ?_⟩
  · obtain ⟨b0, b1, b2⟩ := k2 z
    obtain ⟨c1, c2⟩ := h2 b0
    rw [b1, c1]
    rw [c1] at b2
    refine gd_done I.1 c2 (fun i hi hs j hj hT hcj q hq n1 n2 => ?_)
    have := b2 i hi hs
    rw [(m_lack_v h ch hi i (Nat.le_refl i)).mpr ⟨j, hj, hT, hcj, q, hq, n2, n1⟩] at this
    cases this
  · rcases k4 z with k | k
    · have := h4 k; omega
    · omega
end MODEL
end
section
/-! net: what a change of a net does to an item's slots, in the class and in the reference -/
def qx (ps : Nat → Nat) (x : Int32) : Nat → Bool := fun k => decide (nI (ps k) = x)
abbrev NT : Type := Bool × Nat × (Nat → Nat) × (Nat → Int64)
/-- the class's change -/
def chC (p : Nat) (a : Int64) (u : Nat) (ps : Nat → Nat) (am : Nat → Int64) : NT :=
  if a < -2000000000000000 ∨ 2000000000000000 < a then (false, u, ps, am)
  else if ntq (qx ps (nI p)) u am + a < -1000000000000000 ∨ 1000000000000000 < ntq (qx ps (nI p)) u am + a then (false, u, ps, am)
  else if fs (qx ps (nI p)) u 0 < u then
    (if ntq (qx ps (nI p)) u am + a = 0 then (true, u - 1, va_up ps (fs (qx ps (nI p)) u 0) (ps (u - 1)), va_up (va_up am (fs (qx ps (nI p)) u 0) (ntq (qx ps (nI p)) u am + a)) (fs (qx ps (nI p)) u 0) (va_up am (fs (qx ps (nI p)) u 0) (ntq (qx ps (nI p)) u am + a) (u - 1)))
     else (true, u, ps, va_up am (fs (qx ps (nI p)) u 0) (ntq (qx ps (nI p)) u am + a)))
  else if ntq (qx ps (nI p)) u am + a = 0 then (true, u, ps, am)
  else if 16 ≤ u then (false, u, ps, am)
  else (true, u + 1, va_up ps u p, va_up am u (ntq (qx ps (nI p)) u am + a))
abbrev NM : Type := Bool × (Nat → Nat) × (Nat → Nat) × (Nat → Int64)
/-- the reference's net -/
def chM (mn po : Nat → Nat) (an : Nat → Int64) (i p : Nat) (a : Int64) : NM :=
  if 2000000000000000 < a ∨ a < -2000000000000000 then (false, mn, po, an)
  else if 1000000000000000 < netA mn po an i p + a ∨ netA mn po an i p + a < -1000000000000000 then (false, mn, po, an)
  else if mfd mn po i p < 16 * i + mn i ∧ netA mn po an i p + a = 0 then (true, va_up mn i (mn i - 1), va_up po (mfd mn po i p) (po (16 * i + mn i - 1)), va_up an (mfd mn po i p) (an (16 * i + mn i - 1)))
  else if netA mn po an i p + a = 0 then (true, mn, po, an)
  else if mfd mn po i p = 16 * i + mn i ∧ mn i = 16 then (false, mn, po, an)
  else (true, if mfd mn po i p = 16 * i + mn i then va_up mn i (mn i + 1) else mn, va_up po (mfd mn po i p) p, va_up an (mfd mn po i p) (netA mn po an i p + a))
/-- class and reference hold the same slots of item i -/
def ag (us : Nat → Nat) (ps : Nat → Nat → Nat) (am : Nat → Nat → Int64) (mn po : Nat → Nat) (an : Nat → Int64) (i : Nat) : Prop := us i = mn i ∧ ∀ k, k < us i → ps i k = po (16 * i + k) ∧ am i k = an (16 * i + k)
theorem qx_iff {ps : Nat → Nat} {u p k : Nat} (h : ∀ k, k < u → ps k < 300) (hp : p < 300) (hk : k < u) : qx ps (nI p) k = true ↔ ps k = p := by
  unfold qx
  rw [decide_eq_true_iff]
  exact nI_eq (by have := h k hk; omega) (by omega)
theorem net_fd {us : Nat → Nat} {ps : Nat → Nat → Nat} {am : Nat → Nat → Int64} {mn po : Nat → Nat} {an : Nat → Int64} {i p : Nat} (h : ag us ps am mn po an i) (hb : ∀ k, k < us i → ps i k < 300) (hp : p < 300) : mfd mn po i p = 16 * i + fs (qx (ps i) (nI p)) (us i) 0 := by
  unfold mfd
  rw [← h.1]
  refine fs_shift (q := mq po p) (r := qx (ps i) (nI p)) (16 * i) (us i) 0 (fun j _ hj => ?_)
  unfold mq qx
  rw [← (h.2 j (by omega)).1]
  exact decide_eq_decide.mpr (nI_eq (by have := hb j (by omega); omega) (by omega)).symm
theorem net_nt {us : Nat → Nat} {ps : Nat → Nat → Nat} {am : Nat → Nat → Int64} {mn po : Nat → Nat} {an : Nat → Int64} {i p : Nat} (h : ag us ps am mn po an i) (hb : ∀ k, k < us i → ps i k < 300) (hp : p < 300) : netA mn po an i p = ntq (qx (ps i) (nI p)) (us i) (am i) := by
  unfold netA ntq
  rw [net_fd h hb hp, ← h.1]
  by_cases hlt : fs (qx (ps i) (nI p)) (us i) 0 < us i
  · rw [if_pos hlt, if_pos (by omega), (h.2 _ hlt).2]
  · rw [if_neg hlt, if_neg (by omega)]
theorem net_ok {us : Nat → Nat} {ps : Nat → Nat → Nat} {am : Nat → Nat → Int64} {mn po : Nat → Nat} {an : Nat → Int64} {i p : Nat} {a : Int64} (h : ag us ps am mn po an i) (hok : sl_ok (ps i) (am i) (us i)) (hp : p < 300) :
    (chC p a (us i) (ps i) (am i)).1 = (chM mn po an i p a).1 ∧ sl_ok (chC p a (us i) (ps i) (am i)).2.2.1 (chC p a (us i) (ps i) (am i)).2.2.2 (chC p a (us i) (ps i) (am i)).2.1 ∧
    (chM mn po an i p a).2.1 i = (chC p a (us i) (ps i) (am i)).2.1 ∧
    (∀ k, k < (chC p a (us i) (ps i) (am i)).2.1 → (chC p a (us i) (ps i) (am i)).2.2.1 k = (chM mn po an i p a).2.2.1 (16 * i + k) ∧ (chC p a (us i) (ps i) (am i)).2.2.2 k = (chM mn po an i p a).2.2.2 (16 * i + k)) ∧
    (∀ j, ¬ j = i → (chM mn po an i p a).2.1 j = mn j) ∧ (∀ x, x < 16 * i ∨ 16 * i + 16 ≤ x → (chM mn po an i p a).2.2.1 x = po x ∧ (chM mn po an i p a).2.2.2 x = an x) := by
  have hk := net_fd h hok.2.1 hp
  have hn := net_nt h hok.2.1 hp
  have hle := fs_le (qx (ps i) (nI p)) (us i) 0
  have hhit : fs (qx (ps i) (nI p)) (us i) 0 < us i → ps i (fs (qx (ps i) (nI p)) (us i) 0) = p := fun z => (qx_iff hok.2.1 hp z).mp (fs_hit _ _ _ (by omega))
  have hmiss : ¬ fs (qx (ps i) (nI p)) (us i) 0 < us i → ∀ j, j < us i → ¬ ps i j = p := by
    intro z j hj e
    have := fs_miss (qx (ps i) (nI p)) (us i) 0 j (Nat.zero_le j) (by omega)
    rw [(qx_iff hok.2.1 hp hj).mpr e] at this
    cases this
  unfold chC chM
  rw [hk, hn]
  generalize hs : ntq (qx (ps i) (nI p)) (us i) (am i) + a = s
  generalize fs (qx (ps i) (nI p)) (us i) 0 = f at hle hhit hmiss
  obtain ⟨h1, h2⟩ := h
  obtain ⟨o1, o2, o3, o4⟩ := hok
  have same : (us i = mn i) ∧ sl_ok (ps i) (am i) (us i) := ⟨h1, o1, o2, o3, o4⟩
  by_cases c1 : a < -2000000000000000 ∨ 2000000000000000 < a
  · rw [if_pos c1, if_pos c1.symm]
    exact ⟨rfl, same.2, h1.symm, h2, fun _ _ => rfl, fun _ _ => ⟨rfl, rfl⟩⟩
  rw [if_neg c1, if_neg (show ¬ (2000000000000000 < a ∨ a < -2000000000000000) from fun z => c1 z.symm)]
  by_cases c2 : s < -1000000000000000 ∨ 1000000000000000 < s
  · rw [if_pos c2, if_pos c2.symm]
    exact ⟨rfl, same.2, h1.symm, h2, fun _ _ => rfl, fun _ _ => ⟨rfl, rfl⟩⟩
  rw [if_neg c2, if_neg (show ¬ (1000000000000000 < s ∨ s < -1000000000000000) from fun z => c2 z.symm)]
  have hsb : -1000000000000000 ≤ s.toInt ∧ s.toInt ≤ 1000000000000000 := by
    have a1 : ¬ s < -1000000000000000 := fun z => c2 (Or.inl z)
    have a2 : ¬ 1000000000000000 < s := fun z => c2 (Or.inr z)
    rw [i64_lt] at a1 a2
    have e1 : (-1000000000000000 : Int64).toInt = -1000000000000000 := by decide
    have e2 : (1000000000000000 : Int64).toInt = 1000000000000000 := by decide
    rw [e1] at a1
    rw [e2] at a2
    omega
  by_cases c3 : f < us i
  · rw [if_pos c3]
    by_cases c4 : s = 0
    · rw [if_pos c4, if_pos (show 16 * i + f < 16 * i + mn i ∧ s = 0 from ⟨by omega, c4⟩)]
      have e : ∀ j, j < us i - 1 → va_up (va_up (am i) f s) f (va_up (am i) f s (us i - 1)) j = va_up (am i) f (am i (us i - 1)) j := by
        intro j hj
        by_cases ej : j = f
        · subst ej
          rw [va_up_self, va_up_self, va_up_ne _ _ (by omega)]
        · rw [va_up_ne _ _ ej, va_up_ne _ _ ej, va_up_ne _ _ ej]
      refine ⟨rfl, ⟨by show us i - 1 ≤ 16; omega, fun k hk => ?_, fun x y hx hy hxy => ?_, fun k hk => ?_⟩, by show va_up mn i (mn i - 1) i = us i - 1; rw [va_up_self, h1], fun k hk => ?_, fun j hj => va_up_ne _ _ hj, fun x hx => ⟨va_up_ne _ _ (by omega), va_up_ne _ _ (by omega)⟩⟩
      · show va_up (ps i) f (ps i (us i - 1)) k < 300
        have hk : k < us i - 1 := hk
        by_cases ek : k = f
        · subst ek; rw [va_up_self]; exact o2 _ (by omega)
        · rw [va_up_ne _ _ ek]; exact o2 _ (by omega)
      · have hx : x < us i - 1 := hx
        have hy : y < us i - 1 := hy
        have hxy : va_up (ps i) f (ps i (us i - 1)) x = va_up (ps i) f (ps i (us i - 1)) y := hxy
        by_cases ex : x = f
        · by_cases ey : y = f
          · rw [ex, ey]
          · subst ex
            rw [va_up_self, va_up_ne _ _ ey] at hxy
            have := o3 _ _ (by omega) (by omega) hxy
            omega
        · by_cases ey : y = f
          · subst ey
            rw [va_up_self, va_up_ne _ _ ex] at hxy
            have := o3 _ _ (by omega) (by omega) hxy
            omega
          · rw [va_up_ne _ _ ex, va_up_ne _ _ ey] at hxy
            exact o3 _ _ (by omega) (by omega) hxy
      · have hk : k < us i - 1 := hk
        show ¬ va_up (va_up (am i) f s) f (va_up (am i) f s (us i - 1)) k = 0 ∧ -1000000000000000 ≤ (va_up (va_up (am i) f s) f (va_up (am i) f s (us i - 1)) k).toInt ∧ (va_up (va_up (am i) f s) f (va_up (am i) f s (us i - 1)) k).toInt ≤ 1000000000000000
        rw [e k hk]
        by_cases ek : k = f
        · subst ek; rw [va_up_self]; exact o4 _ (by omega)
        · rw [va_up_ne _ _ ek]; exact o4 _ (by omega)
      · have hk : k < us i - 1 := hk
        show va_up (ps i) f (ps i (us i - 1)) k = va_up po (16 * i + f) (po (16 * i + mn i - 1)) (16 * i + k) ∧ va_up (va_up (am i) f s) f (va_up (am i) f s (us i - 1)) k = va_up an (16 * i + f) (an (16 * i + mn i - 1)) (16 * i + k)
        rw [e k hk]
        have hl := h2 (us i - 1) (by omega)
        rw [show 16 * i + (us i - 1) = 16 * i + mn i - 1 by omega] at hl
        by_cases ek : k = f
        · subst ek
          rw [va_up_self, va_up_self, va_up_self, va_up_self]
          exact hl
        · rw [va_up_ne (ps i) _ ek, va_up_ne (am i) _ ek, va_up_ne po _ (show ¬ 16 * i + k = 16 * i + f by omega), va_up_ne an _ (show ¬ 16 * i + k = 16 * i + f by omega)]
          exact h2 k (by omega)
    · rw [if_neg c4, if_neg (show ¬ (16 * i + f < 16 * i + mn i ∧ s = 0) from fun z => c4 z.2), if_neg c4, if_neg (show ¬ (16 * i + f = 16 * i + mn i ∧ mn i = 16) from fun z => by have := z.1; omega), if_neg (show ¬ 16 * i + f = 16 * i + mn i by omega)]
      refine ⟨rfl, ⟨o1, o2, o3, fun k hk => ?_⟩, h1.symm, fun k hk => ?_, fun _ _ => rfl, fun x hx => ⟨va_up_ne _ _ (by omega), va_up_ne _ _ (by omega)⟩⟩
      · show ¬ va_up (am i) f s k = 0 ∧ -1000000000000000 ≤ (va_up (am i) f s k).toInt ∧ (va_up (am i) f s k).toInt ≤ 1000000000000000
        by_cases ek : k = f
        · subst ek; rw [va_up_self]; exact ⟨c4, hsb⟩
        · rw [va_up_ne _ _ ek]; exact o4 k hk
      · show ps i k = va_up po (16 * i + f) p (16 * i + k) ∧ va_up (am i) f s k = va_up an (16 * i + f) s (16 * i + k)
        by_cases ek : k = f
        · subst ek
          rw [va_up_self, va_up_self, va_up_self]
          exact ⟨hhit c3, rfl⟩
        · rw [va_up_ne po p (show ¬ 16 * i + k = 16 * i + f by omega), va_up_ne an s (show ¬ 16 * i + k = 16 * i + f by omega), va_up_ne (am i) s ek]
          exact h2 k hk
  · rw [if_neg c3]
    have ef : f = us i := by omega
    by_cases c4 : s = 0
    · rw [if_pos c4, if_neg (show ¬ (16 * i + f < 16 * i + mn i ∧ s = 0) from fun z => by have := z.1; omega), if_pos c4]
      exact ⟨rfl, same.2, h1.symm, h2, fun _ _ => rfl, fun _ _ => ⟨rfl, rfl⟩⟩
    · rw [if_neg c4, if_neg (show ¬ (16 * i + f < 16 * i + mn i ∧ s = 0) from fun z => c4 z.2), if_neg c4]
      by_cases c5 : 16 ≤ us i
      · rw [if_pos c5, if_pos (show 16 * i + f = 16 * i + mn i ∧ mn i = 16 from ⟨by omega, by omega⟩)]
        exact ⟨rfl, same.2, h1.symm, h2, fun _ _ => rfl, fun _ _ => ⟨rfl, rfl⟩⟩
      · rw [if_neg c5, if_neg (show ¬ (16 * i + f = 16 * i + mn i ∧ mn i = 16) from fun z => by have := z.2; omega), if_pos (show 16 * i + f = 16 * i + mn i by omega)]
        have hno := hmiss c3
        refine ⟨rfl, ⟨by show us i + 1 ≤ 16; omega, fun k hk => ?_, fun x y hx hy hxy => ?_, fun k hk => ?_⟩, by show va_up mn i (mn i + 1) i = us i + 1; rw [va_up_self, h1], fun k hk => ?_, fun j hj => va_up_ne _ _ hj, fun x hx => ⟨va_up_ne _ _ (by omega), va_up_ne _ _ (by omega)⟩⟩
        · show va_up (ps i) (us i) p k < 300
          have hk : k < us i + 1 := hk
          by_cases ek : k = us i
          · subst ek; rw [va_up_self]; exact hp
          · rw [va_up_ne _ _ ek]; exact o2 _ (by omega)
        · have hx : x < us i + 1 := hx
          have hy : y < us i + 1 := hy
          have hxy : va_up (ps i) (us i) p x = va_up (ps i) (us i) p y := hxy
          by_cases ex : x = us i
          · by_cases ey : y = us i
            · rw [ex, ey]
            · rw [ex, va_up_self, va_up_ne _ _ ey] at hxy
              exact absurd hxy.symm (hno y (by omega))
          · by_cases ey : y = us i
            · rw [ey, va_up_self, va_up_ne _ _ ex] at hxy
              exact absurd hxy (hno x (by omega))
            · rw [va_up_ne _ _ ex, va_up_ne _ _ ey] at hxy
              exact o3 _ _ (by omega) (by omega) hxy
        · have hk : k < us i + 1 := hk
          show ¬ va_up (am i) (us i) s k = 0 ∧ -1000000000000000 ≤ (va_up (am i) (us i) s k).toInt ∧ (va_up (am i) (us i) s k).toInt ≤ 1000000000000000
          by_cases ek : k = us i
          · rw [ek, va_up_self]; exact ⟨c4, hsb⟩
          · rw [va_up_ne _ _ ek]; exact o4 k (by omega)
        · have hk : k < us i + 1 := hk
          show va_up (ps i) (us i) p k = va_up po (16 * i + f) p (16 * i + k) ∧ va_up (am i) (us i) s k = va_up an (16 * i + f) s (16 * i + k)
          rw [ef]
          by_cases ek : k = us i
          · subst ek
            rw [va_up_self, va_up_self, va_up_self, va_up_self]
            exact ⟨rfl, rfl⟩
          · rw [va_up_ne (ps i) _ ek, va_up_ne (am i) _ ek, va_up_ne po _ (show ¬ 16 * i + k = 16 * i + us i by omega), va_up_ne an _ (show ¬ 16 * i + k = 16 * i + us i by omega)]
            exact h2 k (by omega)
end
section
/-! CLASS AND REFERENCE SIDE BY SIDE: what holds between two calls, and that each call keeps it -/
def LI (va fl : Nat → Int64) (n tc sc : Nat) (T S : Nat → Bool) (us : Nat → Nat) (ps : Nat → Nat → Nat) (am : Nat → Nat → Int64) (va' fl' : Nat → Int64) (th ch : Nat → Bool) (mn po : Nat → Nat) (an : Nat → Int64) : Prop :=
  cl_ok us ps am va fl n ∧ tc = cn T n ∧ sc = cn S n ∧ (∀ q, q < 300 → va q = va' q ∧ fl q = fl' q) ∧ (∀ i, i < n → T i = th i ∧ S i = ch i ∧ ag us ps am mn po an i) ∧ ∀ i, n ≤ i → th i = false ∧ ch i = false ∧ mn i = 0
theorem sl_ok_congr {p p' : Nat → Nat} {a a' : Nat → Int64} {u : Nat} (h1 : ∀ k, k < u → p k = p' k) (h2 : ∀ k, k < u → a k = a' k) (h : sl_ok p a u) : sl_ok p' a' u := by
  refine ⟨h.1, fun k hk => ?_, fun x y hx hy e => ?_, fun k hk => ?_⟩
  · rw [← h1 k hk]; exact h.2.1 k hk
  · rw [← h1 x hx, ← h1 y hy] at e; exact h.2.2.1 x y hx hy e
  · rw [← h2 k hk]; exact h.2.2.2 k hk
section LAW
variable {va fl : Nat → Int64} {n tc sc : Nat} {T S : Nat → Bool} {us : Nat → Nat} {ps : Nat → Nat → Nat} {am : Nat → Nat → Int64} {va' fl' : Nat → Int64} {th ch : Nat → Bool} {mn po : Nat → Nat} {an : Nat → Int64}
theorem ag_ok {i : Nat} (h : ag us ps am mn po an i) (hok : sl_ok (ps i) (am i) (us i)) : sl_ok (psM po i) (amM an i) (mn i) := by
  rw [← h.1]
  exact sl_ok_congr (fun k hk => (h.2 k hk).1) (fun k hk => (h.2 k hk).2) hok
theorem ag_nv {i : Nat} (h : ag us ps am mn po an i) (q : Nat) : nvS us ps am i q = nvS mn (psM po) (amM an) i q := by
  unfold nvS
  rw [← h.1]
  exact sl_congr (fun k hk => (h.2 k hk).1) (fun k hk => (h.2 k hk).2)
theorem LI_model (L : LI va fl n tc sc T S us ps am va' fl' th ch mn po an) : cl_ok mn (psM po) (amM an) va' fl' n := by
  obtain ⟨h1, -, -, h4, h5, -⟩ := L
  refine ⟨h1.1, fun i hi => ag_ok (h5 i hi).2.2 (h1.2.1 i hi), fun q hq => ?_⟩
  rw [← (h4 q hq).1, ← (h4 q hq).2]
  exact h1.2.2 q hq
/-- the start -/
theorem LI_0 : LI (fun _ => 0) (fun _ => 0) 0 0 0 (fun _ => false) (fun _ => false) (fun _ => 0) (fun _ _ => 0) (fun _ _ => 0) (fun _ => 0) (fun _ => 0) (fun _ => false) (fun _ => false) (fun _ => 0) (fun _ => 0) (fun _ => 0) :=
  ⟨⟨by decide, fun i hi => absurd hi (Nat.not_lt_zero i), fun q _ => by show -1000000000000000000 ≤ (0 : Int64).toInt ∧ (0 : Int64).toInt ≤ (0 : Int64).toInt ∧ (0 : Int64).toInt ≤ 1000000000000000000; rw [Int64.toInt_zero]; omega⟩, rfl, rfl, fun _ _ => ⟨rfl, rfl⟩, fun i hi => absurd hi (Nat.not_lt_zero i), fun _ _ => ⟨rfl, rfl, rfl⟩⟩
theorem LI_place (L : LI va fl n tc sc T S us ps am va' fl' th ch mn po an) {p : Nat} {v f : Int64} (h1 : -1000000000000000000 ≤ f.toInt) (h2 : f.toInt ≤ v.toInt) (h3 : v.toInt ≤ 1000000000000000000) : LI (va_up va p v) (va_up fl p f) n tc sc T S us ps am (va_up va' p v) (va_up fl' p f) th ch mn po an := by
  obtain ⟨⟨a1, a2, a3⟩, b2, b3, b4, b5, b6⟩ := L
  refine ⟨⟨a1, a2, fun q hq => ?_⟩, b2, b3, fun q hq => ?_, b5, b6⟩
  · by_cases e : q = p
    · subst e; rw [va_up_self, va_up_self]; exact ⟨h1, h2, h3⟩
    · rw [va_up_ne _ _ e, va_up_ne _ _ e]; exact a3 q hq
  · by_cases e : q = p
    · subst e; rw [va_up_self, va_up_self, va_up_self, va_up_self]; exact ⟨rfl, rfl⟩
    · rw [va_up_ne _ _ e, va_up_ne _ _ e, va_up_ne _ _ e, va_up_ne _ _ e]; exact b4 q hq
theorem LI_item (L : LI va fl n tc sc T S us ps am va' fl' th ch mn po an) (hn : n < 200) : LI va fl (n + 1) (tc + 1) sc (va_up T n true) (va_up S n false) (va_up us n 0) (va_up ps n (fun _ => 0)) (va_up am n (fun _ => 0)) va' fl' (va_up th n true) ch mn po an := by
  obtain ⟨⟨a1, a2, a3⟩, b2, b3, b4, b5, b6⟩ := L
  have e : ∀ i, i < n → ¬ i = n := fun i hi => by omega
  refine ⟨⟨by omega, fun i hi => ?_, a3⟩, ?_, ?_, b4, fun i hi => ?_, fun i hi => ?_⟩
  · by_cases ei : i = n
    · subst ei
      rw [va_up_self, va_up_self, va_up_self]
      exact ⟨by omega, fun k hk => absurd hk (Nat.not_lt_zero k), fun x y hx => absurd hx (Nat.not_lt_zero x), fun k hk => absurd hk (Nat.not_lt_zero k)⟩
    · rw [va_up_ne _ _ ei, va_up_ne _ _ ei, va_up_ne _ _ ei]
      exact a2 i (by omega)
  · rw [cn_succ, va_up_self, if_pos rfl, cn_congr (fun k hk => va_up_ne T true (e k hk)), b2]
  · rw [cn_succ, va_up_self, if_neg (by decide), cn_congr (fun k hk => va_up_ne S false (e k hk)), b3]
    rfl
  · by_cases ei : i = n
    · subst ei
      have := b6 i (Nat.le_refl i)
      rw [va_up_self, va_up_self, va_up_self]
      refine ⟨rfl, this.2.1.symm, ?_, fun k hk => ?_⟩
      · rw [va_up_self]; exact this.2.2.symm
      · rw [va_up_self] at hk; exact absurd hk (Nat.not_lt_zero k)
    · rw [va_up_ne _ _ ei, va_up_ne _ _ ei, va_up_ne _ _ ei]
      obtain ⟨c1, c2, c3, c4⟩ := b5 i (by omega)
      refine ⟨c1, c2, ?_, fun k hk => ?_⟩
      · rw [va_up_ne _ _ ei]; exact c3
      · rw [va_up_ne _ _ ei] at hk
        rw [va_up_ne _ _ ei, va_up_ne _ _ ei]
        exact c4 k hk
  · have := b6 i (by omega)
    rw [va_up_ne _ _ (by omega)]
    exact this
theorem LI_go (L : LI va fl n tc sc T S us ps am va' fl' th ch mn po an) {i : Nat} (hi : i < n) (hT : T i = true) : LI va fl n (tc - 1) sc (va_up T i false) S us ps am va' fl' (va_up th i false) ch mn po an := by
  obtain ⟨a1, b2, b3, b4, b5, b6⟩ := L
  have hc := cn_off n hi hT
  refine ⟨a1, by omega, b3, b4, fun j hj => ?_, fun j hj => ?_⟩
  · by_cases e : j = i
    · subst e; rw [va_up_self, va_up_self]; exact ⟨rfl, (b5 j hj).2⟩
    · rw [va_up_ne _ _ e, va_up_ne _ _ e]; exact b5 j hj
  · rw [va_up_ne _ _ (by omega)]; exact b6 j hj
theorem LI_net (L : LI va fl n tc sc T S us ps am va' fl' th ch mn po an) {i p : Nat} {a : Int64} (hi : i < n) (hp : p < 300) : (chC p a (us i) (ps i) (am i)).1 = (chM mn po an i p a).1 ∧ LI va fl n tc sc T S (va_up us i (chC p a (us i) (ps i) (am i)).2.1) (va_up ps i (chC p a (us i) (ps i) (am i)).2.2.1) (va_up am i (chC p a (us i) (ps i) (am i)).2.2.2) va' fl' th ch (chM mn po an i p a).2.1 (chM mn po an i p a).2.2.1 (chM mn po an i p a).2.2.2 := by
  obtain ⟨⟨a1, a2, a3⟩, b2, b3, b4, b5, b6⟩ := L
  obtain ⟨h1, h2, h3, h4, h5, h6⟩ := net_ok (a := a) (b5 i hi).2.2 (a2 i hi) hp
  refine ⟨h1, ⟨a1, fun j hj => ?_, a3⟩, b2, b3, b4, fun j hj => ?_, fun j hj => ?_⟩
  · by_cases e : j = i
    · subst e; rw [va_up_self, va_up_self, va_up_self]; exact h2
    · rw [va_up_ne _ _ e, va_up_ne _ _ e, va_up_ne _ _ e]; exact a2 j hj
  · obtain ⟨c1, c2, c3, c4⟩ := b5 j hj
    refine ⟨c1, c2, ?_⟩
    by_cases e : j = i
    · subst e
      unfold ag
      rw [va_up_self, va_up_self, va_up_self]
      exact ⟨h3.symm, h4⟩
    · unfold ag
      rw [va_up_ne _ _ e, va_up_ne _ _ e, va_up_ne _ _ e, h5 j e]
      refine ⟨c3, fun k hk => ?_⟩
      have hu := (a2 j hj).1
      have := h6 (16 * j + k) (by omega)
      rw [this.1, this.2]
      exact c4 k hk
  · have := b6 j hj
    exact ⟨this.1, this.2.1, by rw [h5 j (by omega)]; exact this.2.2⟩
theorem LI_gT (L : LI va fl n tc sc T S us ps am va' fl' th ch mn po an) (q : Nat) : sm (gd_T (nvS us ps am) S q) n = sm (gd_T (nvS mn (psM po) (amM an)) ch q) n := sm_congr (fun k hk => by
  have := L.2.2.2.2.1 k hk
  unfold gd_T
  rw [this.2.1, ag_nv this.2.2 q])
theorem LI_solve (L : LI va fl n tc sc T S us ps am va' fl' th ch mn po an) {σ : DS} {ch2 : Nat → Bool} (hd : fg_end us ps am T va fl n σ) (hm : ms_inv mn po an va' fl' n th ch2) (hg : gd_good n th (nvS mn (psM po) (amM an)) (iV va') (iV fl') ch2) : LI va fl n tc σ.2.2.2 T σ.1 us ps am va' fl' th ch2 mn po an := by
  obtain ⟨a1, b2, b3, b4, b5, b6⟩ := L
  obtain ⟨d1, d2, d3, d4⟩ := hd
  have e1 : ∀ i, i < n → th i = T i := fun i hi => (b5 i hi).1.symm
  have e2 : ∀ i p, i < n → p < 300 → nvS mn (psM po) (amM an) i p = nvS us ps am i p := fun i p hi _ => (ag_nv (b5 i hi).2.2 p).symm
  have e3 : ∀ p, p < 300 → iV va' p = iV va p := fun p hp => by show (va' p).toInt = (va p).toInt; rw [(b4 p hp).1]
  have e4 : ∀ p, p < 300 → iV fl' p = iV fl p := fun p hp => by show (fl' p).toInt = (fl p).toInt; rw [(b4 p hp).2]
  have hu := gd_unique d1 d2 (gd_good_congr e1 e2 e3 e4 (fun _ _ => rfl) hg) (gd_sub_congr e1 e2 e3 e4 (fun _ _ => rfl) hm.2.1)
  refine ⟨a1, b2, d3, b4, fun i hi => ⟨(b5 i hi).1, hu i hi, (b5 i hi).2.2⟩, fun i hi => ⟨(b6 i hi).1, hm.2.2 i hi, (b6 i hi).2.2⟩⟩
theorem LI_perform (L : LI va fl n tc sc T S us ps am va' fl' th ch mn po an) {af va2 va2' : Nat → Int64} {T2 th2 : Nat → Bool} (hg : gd_good n T (nvS us ps am) (iV va) (iV fl) S) (haf : ∀ q, q < 300 → (af q).toInt = (va q).toInt + sm (gd_T (nvS us ps am) S q) n) (hfit : ∀ q, q < 300 → (af q).toInt ≤ 1000000000000000000) (hv : ∀ q, q < 300 → va2 q = af q) (hv' : ∀ q, q < 300 → (va2' q).toInt = (va' q).toInt + sm (gd_T (nvS mn (psM po) (amM an)) ch q) n) (hT : ∀ i, i < n → T2 i = (T i && !S i)) (hth : ∀ i, i < n → th2 i = (th i && !ch i)) (hth2 : ∀ i, n ≤ i → th2 i = false) : LI va2 fl n (tc - sc) sc T2 S us ps am va2' fl' th2 ch mn po an := by
  have eT := LI_gT L
  obtain ⟨⟨a1, a2, a3⟩, b2, b3, b4, b5, b6⟩ := L
  refine ⟨⟨a1, a2, fun q hq => ?_⟩, ?_, b3, fun q hq => ?_, fun i hi => ?_, fun i hi => ?_⟩
  · have h1 := a3 q hq
    have h2 := hg.2.2 q hq
    have h2 : (fl q).toInt ≤ (va q).toInt + sm (gd_T (nvS us ps am) S q) n := h2
    have h3 := haf q hq
    have h4 := hfit q hq
    rw [hv q hq]
    omega
  · have := cn_sub (S := S) (T := T) (n := n) hg.1
    rw [cn_congr hT]
    omega
  · refine ⟨?_, (b4 q hq).2⟩
    rw [hv q hq, ← Int64.toInt_inj, haf q hq, hv' q hq, eT q, (b4 q hq).1]
  · refine ⟨?_, (b5 i hi).2⟩
    rw [hT i hi, hth i hi, (b5 i hi).1, (b5 i hi).2.1]
  · exact ⟨hth2 i hi, (b6 i hi).2⟩
end LAW
end
section
/-! the rest that the methods compute: the reference's perform and start, the class's end of items -/
def m_pv (mn po : Nat → Nat) (am : Nat → Int64) (ch : Nat → Bool) (n : Nat) (va : Nat → Int64) : Nat → Nat → Int64
  | 0 => va
  | p + 1 => va_up (m_pv mn po am ch n va p) p (m_tot mn po am (m_pv mn po am ch n va p) ch p n)
theorem m_tot_congr {mn po : Nat → Nat} {am va va2 : Nat → Int64} {ch : Nat → Bool} {p : Nat} (h : va p = va2 p) : ∀ i, m_tot mn po am va ch p i = m_tot mn po am va2 ch p i := by
  intro i
  induction i with
  | zero => exact h
  | succ i ih => unfold m_tot; rw [ih]
theorem m_pv_at {mn po : Nat → Nat} {am : Nat → Int64} {ch : Nat → Bool} {n : Nat} {va : Nat → Int64} : ∀ k p : Nat, (p < k → m_pv mn po am ch n va k p = m_tot mn po am va ch p n) ∧ (k ≤ p → m_pv mn po am ch n va k p = va p) := by
  intro k
  induction k with
  | zero => intro p; exact ⟨fun h => absurd h (Nat.not_lt_zero p), fun _ => rfl⟩
  | succ k ih =>
    intro p
    unfold m_pv
    constructor
    · intro h
      by_cases e : p = k
      · subst e
        rw [va_up_self]
        exact m_tot_congr ((ih p).2 (Nat.le_refl p)) n
      · rw [va_up_ne _ _ e]; exact (ih p).1 (by omega)
    · intro h
      rw [va_up_ne _ _ (by omega)]
      exact (ih p).2 (by omega)
def m_nt (ch th : Nat → Bool) : Nat → Nat → Bool
  | 0 => th
  | i + 1 => va_up (m_nt ch th i) i (m_nt ch th i i && !ch i)
theorem m_nt_at {ch th : Nat → Bool} : ∀ k p : Nat, (p < k → m_nt ch th k p = (th p && !ch p)) ∧ (k ≤ p → m_nt ch th k p = th p) := by
  intro k
  induction k with
  | zero => intro p; exact ⟨fun h => absurd h (Nat.not_lt_zero p), fun _ => rfl⟩
  | succ k ih =>
    intro p
    unfold m_nt
    constructor
    · intro h
      by_cases e : p = k
      · subst e
        rw [va_up_self, (ih p).2 (Nat.le_refl p)]
      · rw [va_up_ne _ _ e]; exact (ih p).1 (by omega)
    · intro h
      rw [va_up_ne _ _ (by omega)]
      exact (ih p).2 (by omega)
def d_en (S T : Nat → Bool) : Nat → Nat → Bool
  | 0 => T
  | i + 1 => if S i = true then va_up (d_en S T i) i false else d_en S T i
theorem d_en_at {S T : Nat → Bool} : ∀ k p : Nat, (p < k → d_en S T k p = (T p && !S p)) ∧ (k ≤ p → d_en S T k p = T p) := by
  intro k
  induction k with
  | zero => intro p; exact ⟨fun h => absurd h (Nat.not_lt_zero p), fun _ => rfl⟩
  | succ k ih =>
    intro p
    unfold d_en
    constructor
    · intro h
      by_cases e : p = k
      · subst e
        cases hs : S p with
        | true => rw [if_pos rfl, va_up_self]; simp
        | false => rw [if_neg (by decide), (ih p).2 (Nat.le_refl p)]; simp
      · by_cases hs : S k = true
        · rw [if_pos hs, va_up_ne _ _ e]; exact (ih p).1 (by omega)
        · rw [if_neg hs]; exact (ih p).1 (by omega)
    · intro h
      by_cases hs : S k = true
      · rw [if_pos hs, va_up_ne _ _ (by omega)]; exact (ih p).2 (by omega)
      · rw [if_neg hs]; exact (ih p).2 (by omega)
theorem st_s_out (T S : Nat → Bool) : ∀ k p : Nat, k ≤ p → st_s T S k p = S p := by
  intro k
  induction k with
  | zero => intro p _; rfl
  | succ k ih =>
    intro p h
    unfold st_s
    rw [va_up_ne _ _ (by omega)]
    exact ih p (by omega)
/-- the reference's start of its search -/
theorem ms_start {mn po : Nat → Nat} {am va fl : Nat → Int64} {n : Nat} {T S : Nat → Bool} (hn : n ≤ 200) (hT : ∀ i, n ≤ i → T i = false) (hS : ∀ i, n ≤ i → S i = false) : ms_inv mn po am va fl n T (st_s T S 200) := by
  refine ⟨fun k hk h => ?_, fun G hG i hi hg => ?_, fun k hk => ?_⟩
  · rw [st_s_at T S 200 k (by omega)] at h; exact h
  · rw [st_s_at T S 200 i (by omega)]; exact hG.1 i hi hg
  · by_cases h : k < 200
    · rw [st_s_at T S 200 k h]; exact hT k hk
    · rw [st_s_out T S 200 k (by omega)]; exact hS k hk
end
