section
-- ===== PART A: goes FIRST, ahead of the names: the tables' words, and 'selects' of the private methods out of them =====
/-- a private method of a class that the tables say can be made, by its rows of tables_1 -/
def lw_okq (q : MethodName × Nat) : Prop := (q.1.cls ≠ "java/lang/invoke/MethodHandle" ∧ q.1.cls ≠ "java/lang/invoke/VarHandle") ∧ Cond.instantiable q.1.cls q.2 ∈ tables_1 ∧ Cond.privateMethod q.1 ∈ tables_1 ∧ Cond.instanceMethod q.1 ∈ tables_1
theorem lw_p0 : lw_okq (⟨"GridDesk", "itemThere", "(I)LGridDesk$Item;"⟩, 8) := ⟨⟨by decide +kernel, by decide +kernel⟩, List.mem_of_getElem? (i := 6) (by decide +kernel), List.mem_of_getElem? (i := 89) (by decide +kernel), List.mem_of_getElem? (i := 90) (by decide +kernel)⟩
theorem lw_p1 : lw_okq (⟨"GridDesk", "itemEver", "(I)LGridDesk$Item;"⟩, 8) := ⟨⟨by decide +kernel, by decide +kernel⟩, List.mem_of_getElem? (i := 6) (by decide +kernel), List.mem_of_getElem? (i := 93) (by decide +kernel), List.mem_of_getElem? (i := 94) (by decide +kernel)⟩
theorem lw_p2 : lw_okq (⟨"GridDesk$Item", "change", "(IJ)Z"⟩, 5) := ⟨⟨by decide +kernel, by decide +kernel⟩, List.mem_of_getElem? (i := 58) (by decide +kernel), List.mem_of_getElem? (i := 97) (by decide +kernel), List.mem_of_getElem? (i := 98) (by decide +kernel)⟩
theorem lw_p3 : lw_okq (⟨"GridDesk$Item", "amountFor", "(I)J"⟩, 5) := ⟨⟨by decide +kernel, by decide +kernel⟩, List.mem_of_getElem? (i := 58) (by decide +kernel), List.mem_of_getElem? (i := 103) (by decide +kernel), List.mem_of_getElem? (i := 104) (by decide +kernel)⟩
theorem lw_p4 : lw_okq (⟨"GridDesk$Item", "slotOf", "(I)I"⟩, 5) := ⟨⟨by decide +kernel, by decide +kernel⟩, List.mem_of_getElem? (i := 58) (by decide +kernel), List.mem_of_getElem? (i := 107) (by decide +kernel), List.mem_of_getElem? (i := 108) (by decide +kernel)⟩
theorem lw_p5 : lw_okq (⟨"GridDesk$Item", "addSlot", "(IJ)Z"⟩, 5) := ⟨⟨by decide +kernel, by decide +kernel⟩, List.mem_of_getElem? (i := 58) (by decide +kernel), List.mem_of_getElem? (i := 113) (by decide +kernel), List.mem_of_getElem? (i := 114) (by decide +kernel)⟩
theorem lw_p6 : lw_okq (⟨"GridDesk$Item", "freeSlot", "(I)V"⟩, 5) := ⟨⟨by decide +kernel, by decide +kernel⟩, List.mem_of_getElem? (i := 58) (by decide +kernel), List.mem_of_getElem? (i := 117) (by decide +kernel), List.mem_of_getElem? (i := 118) (by decide +kernel)⟩
theorem lw_p7 : lw_okq (⟨"GridDesk", "findGreatest", "()V"⟩, 8) := ⟨⟨by decide +kernel, by decide +kernel⟩, List.mem_of_getElem? (i := 6) (by decide +kernel), List.mem_of_getElem? (i := 129) (by decide +kernel), List.mem_of_getElem? (i := 130) (by decide +kernel)⟩
theorem lw_p8 : lw_okq (⟨"GridDesk", "startWithAllThere", "()V"⟩, 8) := ⟨⟨by decide +kernel, by decide +kernel⟩, List.mem_of_getElem? (i := 6) (by decide +kernel), List.mem_of_getElem? (i := 133) (by decide +kernel), List.mem_of_getElem? (i := 134) (by decide +kernel)⟩
theorem lw_p9 : lw_okq (⟨"GridDesk", "dropHopeless", "()Z"⟩, 8) := ⟨⟨by decide +kernel, by decide +kernel⟩, List.mem_of_getElem? (i := 6) (by decide +kernel), List.mem_of_getElem? (i := 137) (by decide +kernel), List.mem_of_getElem? (i := 138) (by decide +kernel)⟩
theorem lw_p10 : lw_okq (⟨"GridDesk", "startRows", "()V"⟩, 8) := ⟨⟨by decide +kernel, by decide +kernel⟩, List.mem_of_getElem? (i := 6) (by decide +kernel), List.mem_of_getElem? (i := 141) (by decide +kernel), List.mem_of_getElem? (i := 142) (by decide +kernel)⟩
theorem lw_p11 : lw_okq (⟨"GridDesk", "giveAll", "()V"⟩, 8) := ⟨⟨by decide +kernel, by decide +kernel⟩, List.mem_of_getElem? (i := 6) (by decide +kernel), List.mem_of_getElem? (i := 145) (by decide +kernel), List.mem_of_getElem? (i := 146) (by decide +kernel)⟩
theorem lw_p12 : lw_okq (⟨"GridDesk", "canTake", "(LGridDesk$Item;)Z"⟩, 8) := ⟨⟨by decide +kernel, by decide +kernel⟩, List.mem_of_getElem? (i := 6) (by decide +kernel), List.mem_of_getElem? (i := 149) (by decide +kernel), List.mem_of_getElem? (i := 150) (by decide +kernel)⟩
theorem lw_p13 : lw_okq (⟨"GridDesk", "take", "(LGridDesk$Item;)V"⟩, 8) := ⟨⟨by decide +kernel, by decide +kernel⟩, List.mem_of_getElem? (i := 6) (by decide +kernel), List.mem_of_getElem? (i := 153) (by decide +kernel), List.mem_of_getElem? (i := 154) (by decide +kernel)⟩
theorem lw_p14 : lw_okq (⟨"GridDesk", "drop", "(LGridDesk$Item;)V"⟩, 8) := ⟨⟨by decide +kernel, by decide +kernel⟩, List.mem_of_getElem? (i := 6) (by decide +kernel), List.mem_of_getElem? (i := 157) (by decide +kernel), List.mem_of_getElem? (i := 158) (by decide +kernel)⟩
theorem lw_p15 : lw_okq (⟨"GridDesk", "valuesFit", "()Z"⟩, 8) := ⟨⟨by decide +kernel, by decide +kernel⟩, List.mem_of_getElem? (i := 6) (by decide +kernel), List.mem_of_getElem? (i := 169) (by decide +kernel), List.mem_of_getElem? (i := 170) (by decide +kernel)⟩
def lw_privs_1 : List (MethodName × Nat) := [(⟨"GridDesk", "itemThere", "(I)LGridDesk$Item;"⟩, 8), (⟨"GridDesk", "itemEver", "(I)LGridDesk$Item;"⟩, 8), (⟨"GridDesk$Item", "change", "(IJ)Z"⟩, 5), (⟨"GridDesk$Item", "amountFor", "(I)J"⟩, 5), (⟨"GridDesk$Item", "slotOf", "(I)I"⟩, 5), (⟨"GridDesk$Item", "addSlot", "(IJ)Z"⟩, 5), (⟨"GridDesk$Item", "freeSlot", "(I)V"⟩, 5), (⟨"GridDesk", "findGreatest", "()V"⟩, 8), (⟨"GridDesk", "startWithAllThere", "()V"⟩, 8), (⟨"GridDesk", "dropHopeless", "()Z"⟩, 8), (⟨"GridDesk", "startRows", "()V"⟩, 8), (⟨"GridDesk", "giveAll", "()V"⟩, 8), (⟨"GridDesk", "canTake", "(LGridDesk$Item;)Z"⟩, 8), (⟨"GridDesk", "take", "(LGridDesk$Item;)V"⟩, 8), (⟨"GridDesk", "drop", "(LGridDesk$Item;)V"⟩, 8), (⟨"GridDesk", "valuesFit", "()Z"⟩, 8)]
theorem lw_r1 : ∀ q ∈ lw_privs_1, lw_okq q := List.forall_mem_cons.mpr ⟨lw_p0, List.forall_mem_cons.mpr ⟨lw_p1, List.forall_mem_cons.mpr ⟨lw_p2, List.forall_mem_cons.mpr ⟨lw_p3, List.forall_mem_cons.mpr ⟨lw_p4, List.forall_mem_cons.mpr ⟨lw_p5, List.forall_mem_cons.mpr ⟨lw_p6, List.forall_mem_cons.mpr ⟨lw_p7, List.forall_mem_cons.mpr ⟨lw_p8, List.forall_mem_cons.mpr ⟨lw_p9, List.forall_mem_cons.mpr ⟨lw_p10, List.forall_mem_cons.mpr ⟨lw_p11, List.forall_mem_cons.mpr ⟨lw_p12, List.forall_mem_cons.mpr ⟨lw_p13, List.forall_mem_cons.mpr ⟨lw_p14, List.forall_mem_cons.mpr ⟨lw_p15, fun _ h => absurd h List.not_mem_nil⟩⟩⟩⟩⟩⟩⟩⟩⟩⟩⟩⟩⟩⟩⟩⟩
theorem lw_p16 : lw_okq (⟨"GridDesk", "endItemsOfSet", "()V"⟩, 8) := ⟨⟨by decide +kernel, by decide +kernel⟩, List.mem_of_getElem? (i := 6) (by decide +kernel), List.mem_of_getElem? (i := 176) (by decide +kernel), List.mem_of_getElem? (i := 177) (by decide +kernel)⟩
theorem lw_p17 : lw_okq (⟨"GridDeskModel", "isThere", "(I)Z"⟩, 8) := ⟨⟨by decide +kernel, by decide +kernel⟩, List.mem_of_getElem? (i := 193) (by decide +kernel), List.mem_of_getElem? (i := 244) (by decide +kernel), List.mem_of_getElem? (i := 245) (by decide +kernel)⟩
theorem lw_p18 : lw_okq (⟨"GridDeskModel", "netAt", "(II)J"⟩, 8) := ⟨⟨by decide +kernel, by decide +kernel⟩, List.mem_of_getElem? (i := 193) (by decide +kernel), List.mem_of_getElem? (i := 250) (by decide +kernel), List.mem_of_getElem? (i := 251) (by decide +kernel)⟩
theorem lw_p19 : lw_okq (⟨"GridDeskModel", "find", "(II)I"⟩, 8) := ⟨⟨by decide +kernel, by decide +kernel⟩, List.mem_of_getElem? (i := 193) (by decide +kernel), List.mem_of_getElem? (i := 254) (by decide +kernel), List.mem_of_getElem? (i := 255) (by decide +kernel)⟩
theorem lw_p20 : lw_okq (⟨"GridDeskModel", "total", "(I)J"⟩, 8) := ⟨⟨by decide +kernel, by decide +kernel⟩, List.mem_of_getElem? (i := 193) (by decide +kernel), List.mem_of_getElem? (i := 268) (by decide +kernel), List.mem_of_getElem? (i := 269) (by decide +kernel)⟩
theorem lw_p21 : lw_okq (⟨"GridDeskModel", "lastTaker", "(I)I"⟩, 8) := ⟨⟨by decide +kernel, by decide +kernel⟩, List.mem_of_getElem? (i := 193) (by decide +kernel), List.mem_of_getElem? (i := 272) (by decide +kernel), List.mem_of_getElem? (i := 273) (by decide +kernel)⟩
theorem lw_p22 : lw_okq (⟨"GridDeskModel", "lacks", "(I)Z"⟩, 8) := ⟨⟨by decide +kernel, by decide +kernel⟩, List.mem_of_getElem? (i := 193) (by decide +kernel), List.mem_of_getElem? (i := 276) (by decide +kernel), List.mem_of_getElem? (i := 277) (by decide +kernel)⟩
theorem lw_p23 : lw_okq (⟨"GridDeskModel", "meet", "(II)Z"⟩, 8) := ⟨⟨by decide +kernel, by decide +kernel⟩, List.mem_of_getElem? (i := 193) (by decide +kernel), List.mem_of_getElem? (i := 280) (by decide +kernel), List.mem_of_getElem? (i := 281) (by decide +kernel)⟩
def lw_privs_2 : List (MethodName × Nat) := [(⟨"GridDesk", "endItemsOfSet", "()V"⟩, 8), (⟨"GridDeskModel", "isThere", "(I)Z"⟩, 8), (⟨"GridDeskModel", "netAt", "(II)J"⟩, 8), (⟨"GridDeskModel", "find", "(II)I"⟩, 8), (⟨"GridDeskModel", "total", "(I)J"⟩, 8), (⟨"GridDeskModel", "lastTaker", "(I)I"⟩, 8), (⟨"GridDeskModel", "lacks", "(I)Z"⟩, 8), (⟨"GridDeskModel", "meet", "(II)Z"⟩, 8)]
theorem lw_r2 : ∀ q ∈ lw_privs_2, lw_okq q := List.forall_mem_cons.mpr ⟨lw_p16, List.forall_mem_cons.mpr ⟨lw_p17, List.forall_mem_cons.mpr ⟨lw_p18, List.forall_mem_cons.mpr ⟨lw_p19, List.forall_mem_cons.mpr ⟨lw_p20, List.forall_mem_cons.mpr ⟨lw_p21, List.forall_mem_cons.mpr ⟨lw_p22, List.forall_mem_cons.mpr ⟨lw_p23, fun _ h => absurd h List.not_mem_nil⟩⟩⟩⟩⟩⟩⟩⟩
def lw_privs : List (MethodName × Nat) := lw_privs_1 ++ (lw_privs_2)
def lw_tbl : List Cond := k2_sels lw_privs ++ tables_1
theorem lw_privs_ok : ∀ q ∈ lw_privs, lw_okq q := by
  show ∀ q ∈ lw_privs_1 ++ (lw_privs_2), lw_okq q
  exact List.forall_mem_append.mpr ⟨lw_r1, lw_r2⟩
end
section
/-! NAMES: classes, fields, methods; printed by wip/whole/tools/names.py out of the task -/
def RX0 : String := "GridDesk$Item"
def TX0 : u_T := fun k => match k with
  | 0 => ("GridDesk$Item", "positions", "[I", true)
  | 1 => ("GridDesk$Item", "amounts", "[J", true)
  | 2 => ("GridDesk$Item", "used", "I", false)
  | 3 => ("GridDesk$Item", "there", "Z", false)
  | _ => ("GridDesk$Item", "inSet", "Z", false)
def tyX0 : Nat → FieldType := fun k => match k with
  | 0 => .array .int
  | 1 => .array .long
  | 2 => .int
  | 3 => .boolean
  | _ => .boolean
abbrev wsX00 : List Cond := u_ws RX0 TX0 5
theorem nmX0 : ∀ a, a < 5 → ∀ b, b < 5 → a ≠ b → (TX0 a).2.1 ≠ (TX0 b).2.1 := by decide +kernel
theorem tyX0_ok : ∀ k, k < 5 → parseFieldDescriptor (TX0 k).2.2.1 = some (tyX0 k) := by decide +kernel
def RX1 : String := "GridDesk"
def TX1 : u_T := fun k => match k with
  | 0 => ("GridDesk", "values", "[J", true)
  | 1 => ("GridDesk", "floors", "[J", true)
  | 2 => ("GridDesk", "items", "[LGridDesk$Item;", true)
  | 3 => ("GridDesk", "itemCount", "I", false)
  | 4 => ("GridDesk", "thereCount", "I", false)
  | 5 => ("GridDesk", "setCount", "I", false)
  | 6 => ("GridDesk", "after", "[J", true)
  | _ => ("GridDesk", "blocked", "[Z", true)
def tyX1 : Nat → FieldType := fun k => match k with
  | 0 => .array .long
  | 1 => .array .long
  | 2 => .array (.object "GridDesk$Item")
  | 3 => .int
  | 4 => .int
  | 5 => .int
  | 6 => .array .long
  | _ => .array .boolean
abbrev wsX10 : List Cond := u_ws RX1 TX1 8
theorem nmX1 : ∀ a, a < 8 → ∀ b, b < 8 → a ≠ b → (TX1 a).2.1 ≠ (TX1 b).2.1 := by decide +kernel
theorem tyX1_ok : ∀ k, k < 8 → parseFieldDescriptor (TX1 k).2.2.1 = some (tyX1 k) := by decide +kernel
def RX2 : String := "GridDeskModel"
def TX2 : u_T := fun k => match k with
  | 0 => ("GridDeskModel", "values", "[J", true)
  | 1 => ("GridDeskModel", "floors", "[J", true)
  | 2 => ("GridDeskModel", "items", "I", false)
  | 3 => ("GridDeskModel", "there", "[Z", true)
  | 4 => ("GridDeskModel", "chosen", "[Z", true)
  | 5 => ("GridDeskModel", "many", "[I", true)
  | 6 => ("GridDeskModel", "positions", "[I", true)
  | _ => ("GridDeskModel", "amounts", "[J", true)
def tyX2 : Nat → FieldType := fun k => match k with
  | 0 => .array .long
  | 1 => .array .long
  | 2 => .int
  | 3 => .array .boolean
  | 4 => .array .boolean
  | 5 => .array .int
  | 6 => .array .int
  | _ => .array .long
abbrev wsX20 : List Cond := u_ws RX2 TX2 8
theorem nmX2 : ∀ a, a < 8 → ∀ b, b < 8 → a ≠ b → (TX2 a).2.1 ≠ (TX2 b).2.1 := by decide +kernel
theorem tyX2_ok : ∀ k, k < 8 → parseFieldDescriptor (TX2 k).2.2.1 = some (tyX2 k) := by decide +kernel
def RL : String := "GridDeskLaw"
abbrev cX1_init : ByteArray := prog_1_method_1_code
def yX1_init : MethodName := ⟨RX1, "<init>", "()V"⟩
abbrev cX1_place : ByteArray := prog_1_method_2_code
def yX1_place : MethodName := ⟨RX1, "place", "(IJJ)Z"⟩
abbrev cX1_item : ByteArray := prog_1_method_3_code
def yX1_item : MethodName := ⟨RX1, "item", "()I"⟩
abbrev cX1_net : ByteArray := prog_1_method_4_code
def yX1_net : MethodName := ⟨RX1, "net", "(IIJ)Z"⟩
abbrev cX1_go : ByteArray := prog_1_method_5_code
def yX1_go : MethodName := ⟨RX1, "go", "(I)Z"⟩
abbrev cX1_solve : ByteArray := prog_1_method_6_code
def yX1_solve : MethodName := ⟨RX1, "solve", "()I"⟩
abbrev cX1_in : ByteArray := prog_1_method_7_code
def yX1_in : MethodName := ⟨RX1, "in", "(I)Z"⟩
abbrev cX1_perform : ByteArray := prog_1_method_8_code
def yX1_perform : MethodName := ⟨RX1, "perform", "()I"⟩
abbrev cX1_value : ByteArray := prog_1_method_9_code
def yX1_value : MethodName := ⟨RX1, "value", "(I)J"⟩
abbrev cX1_netOf : ByteArray := prog_1_method_10_code
def yX1_netOf : MethodName := ⟨RX1, "netOf", "(II)J"⟩
abbrev cX1_count : ByteArray := prog_1_method_11_code
def yX1_count : MethodName := ⟨RX1, "count", "(I)I"⟩
abbrev cX1_isPosition : ByteArray := prog_1_method_12_code
def yX1_isPosition : MethodName := ⟨RX1, "isPosition", "(I)Z"⟩
abbrev cX1_isValue : ByteArray := prog_1_method_13_code
def yX1_isValue : MethodName := ⟨RX1, "isValue", "(J)Z"⟩
abbrev cX1_itemEver : ByteArray := prog_1_method_14_code
def yX1_itemEver : MethodName := ⟨RX1, "itemEver", "(I)LGridDesk$Item;"⟩
abbrev cX1_itemThere : ByteArray := prog_1_method_15_code
def yX1_itemThere : MethodName := ⟨RX1, "itemThere", "(I)LGridDesk$Item;"⟩
abbrev cX1_findGreatest : ByteArray := prog_1_method_16_code
def yX1_findGreatest : MethodName := ⟨RX1, "findGreatest", "()V"⟩
abbrev cX1_startWithAllThere : ByteArray := prog_1_method_17_code
def yX1_startWithAllThere : MethodName := ⟨RX1, "startWithAllThere", "()V"⟩
abbrev cX1_dropHopeless : ByteArray := prog_1_method_18_code
def yX1_dropHopeless : MethodName := ⟨RX1, "dropHopeless", "()Z"⟩
abbrev cX1_startRows : ByteArray := prog_1_method_19_code
def yX1_startRows : MethodName := ⟨RX1, "startRows", "()V"⟩
abbrev cX1_giveAll : ByteArray := prog_1_method_20_code
def yX1_giveAll : MethodName := ⟨RX1, "giveAll", "()V"⟩
abbrev cX1_canTake : ByteArray := prog_1_method_21_code
def yX1_canTake : MethodName := ⟨RX1, "canTake", "(LGridDesk$Item;)Z"⟩
abbrev cX1_take : ByteArray := prog_1_method_22_code
def yX1_take : MethodName := ⟨RX1, "take", "(LGridDesk$Item;)V"⟩
abbrev cX1_drop : ByteArray := prog_1_method_23_code
def yX1_drop : MethodName := ⟨RX1, "drop", "(LGridDesk$Item;)V"⟩
abbrev cX1_valuesFit : ByteArray := prog_1_method_24_code
def yX1_valuesFit : MethodName := ⟨RX1, "valuesFit", "()Z"⟩
abbrev cX1_endItemsOfSet : ByteArray := prog_1_method_25_code
def yX1_endItemsOfSet : MethodName := ⟨RX1, "endItemsOfSet", "()V"⟩
abbrev cX2_init : ByteArray := prog_4_method_1_code
def yX2_init : MethodName := ⟨RX2, "<init>", "()V"⟩
abbrev cX2_isPosition : ByteArray := prog_4_method_2_code
def yX2_isPosition : MethodName := ⟨RX2, "isPosition", "(I)Z"⟩
abbrev cX2_isValue : ByteArray := prog_4_method_3_code
def yX2_isValue : MethodName := ⟨RX2, "isValue", "(J)Z"⟩
abbrev cX2_place : ByteArray := prog_4_method_4_code
def yX2_place : MethodName := ⟨RX2, "place", "(IJJ)Z"⟩
abbrev cX2_item : ByteArray := prog_4_method_5_code
def yX2_item : MethodName := ⟨RX2, "item", "()I"⟩
abbrev cX2_isThere : ByteArray := prog_4_method_6_code
def yX2_isThere : MethodName := ⟨RX2, "isThere", "(I)Z"⟩
abbrev cX2_find : ByteArray := prog_4_method_7_code
def yX2_find : MethodName := ⟨RX2, "find", "(II)I"⟩
abbrev cX2_netAt : ByteArray := prog_4_method_8_code
def yX2_netAt : MethodName := ⟨RX2, "netAt", "(II)J"⟩
abbrev cX2_net : ByteArray := prog_4_method_9_code
def yX2_net : MethodName := ⟨RX2, "net", "(IIJ)Z"⟩
abbrev cX2_go : ByteArray := prog_4_method_10_code
def yX2_go : MethodName := ⟨RX2, "go", "(I)Z"⟩
abbrev cX2_total : ByteArray := prog_4_method_11_code
def yX2_total : MethodName := ⟨RX2, "total", "(I)J"⟩
abbrev cX2_lastTaker : ByteArray := prog_4_method_12_code
def yX2_lastTaker : MethodName := ⟨RX2, "lastTaker", "(I)I"⟩
abbrev cX2_meet : ByteArray := prog_4_method_13_code
def yX2_meet : MethodName := ⟨RX2, "meet", "(II)Z"⟩
abbrev cX2_lacks : ByteArray := prog_4_method_14_code
def yX2_lacks : MethodName := ⟨RX2, "lacks", "(I)Z"⟩
abbrev cX2_solve : ByteArray := prog_4_method_15_code
def yX2_solve : MethodName := ⟨RX2, "solve", "()I"⟩
abbrev cX2_in : ByteArray := prog_4_method_16_code
def yX2_in : MethodName := ⟨RX2, "in", "(I)Z"⟩
abbrev cX2_perform : ByteArray := prog_4_method_17_code
def yX2_perform : MethodName := ⟨RX2, "perform", "()I"⟩
abbrev cX2_value : ByteArray := prog_4_method_18_code
def yX2_value : MethodName := ⟨RX2, "value", "(I)J"⟩
abbrev cX2_netOf : ByteArray := prog_4_method_19_code
def yX2_netOf : MethodName := ⟨RX2, "netOf", "(II)J"⟩
abbrev cX2_count : ByteArray := prog_4_method_20_code
def yX2_count : MethodName := ⟨RX2, "count", "(I)I"⟩
abbrev cX0_init : ByteArray := prog_2_method_1_code
def yX0_init : MethodName := ⟨RX0, "<init>", "()V"⟩
abbrev cX0_slotOf : ByteArray := prog_2_method_2_code
def yX0_slotOf : MethodName := ⟨RX0, "slotOf", "(I)I"⟩
abbrev cX0_amountFor : ByteArray := prog_2_method_3_code
def yX0_amountFor : MethodName := ⟨RX0, "amountFor", "(I)J"⟩
abbrev cX0_change : ByteArray := prog_2_method_4_code
def yX0_change : MethodName := ⟨RX0, "change", "(IJ)Z"⟩
abbrev cX0_addSlot : ByteArray := prog_2_method_5_code
def yX0_addSlot : MethodName := ⟨RX0, "addSlot", "(IJ)Z"⟩
abbrev cX0_freeSlot : ByteArray := prog_2_method_6_code
def yX0_freeSlot : MethodName := ⟨RX0, "freeSlot", "(I)V"⟩
abbrev vwCl : List vw_C := [(RX0, TX0, 5), (RX1, TX1, 8), (RX2, TX2, 8)]
abbrev RIt : String := RX0
abbrev RD : String := RX1
abbrev RM : String := RX2
abbrev TI : u_T := TX0
abbrev TD : u_T := TX1
abbrev TM : u_T := TX2
abbrev tyI := tyX0
abbrev tyD := tyX1
abbrev tyM := tyX2
abbrev ciI : Nat := 0
abbrev ciD : Nat := 1
abbrev ciM : Nat := 2
end
section
/-! WORDS, CONTEXT, CALLS: one list of words for all methods; what a walk stands on; a call of a method that only answers, a call of one that writes -/
def tIsA : Cond → Bool
  | .arrayClass _ => true
  | _ => false
def tIsN : Cond → Bool
  | .fieldLinkNest _ _ _ _ _ _ => true
  | .methodLinkNest _ _ _ _ => true
  | _ => false
def tGd (w : Cond) : Bool := (w.onTables && w.keeps) || tIsA w
/-- all words of the tables that stay -/
def tT : List Cond := lw_tbl.filter tGd
/-- the words of nest mates -/
def nW : List Cond := lw_tbl.filter tIsN
theorem tT_good : ∀ w ∈ tT, (w.onTables && w.keeps) = true ∨ ∃ ty, w = .arrayClass ty := by
  intro w hw
  have h := (List.mem_filter.mp hw).2
  unfold tGd at h
  rcases Bool.or_eq_true_iff.mp h with h | h
  · exact Or.inl h
  · cases w with
    | arrayClass ty => exact Or.inr ⟨ty, rfl⟩
    | _ => cases h
theorem tT_of {args : Array Value} {s : State} (h : ∀ w ∈ lw_tbl, w.before args s = true) : ∀ w ∈ tT, w.before args s = true := fun w hw => h w (List.mem_filter.mp hw).1
theorem nW_warm {s U : State} (hW : s.WarmedH U.vm) (h : ∀ w ∈ nW, va_Nw w s) : ∀ w ∈ nW, va_Nw w U := by
  intro w hw
  have h1 := h w hw
  have h2 := (List.mem_filter.mp hw).2
  cases w with
  | fieldLinkNest a i b n d k => exact va_Nw.warmF hW h1
  | methodLinkNest a i x k => exact va_Nw.warmM hW h1
  | _ => cases h2
theorem nW_same {u U : State} (e : u.vm = U.vm) (h : ∀ w ∈ nW, va_Nw w u) : ∀ w ∈ nW, va_Nw w U := by
  intro w hw
  have h1 := h w hw
  have h2 := (List.mem_filter.mp hw).2
  cases w with
  | fieldLinkNest a i b n d k => exact va_Nw.same rfl e h1
  | methodLinkNest a i x k => exact va_Nw.same rfl e h1
  | _ => cases h2
theorem in_I : ∀ w ∈ u_ws RIt TI 5, w ∈ tT := by decide +kernel
theorem in_D : ∀ w ∈ u_ws RD TD 8, w ∈ tT := by decide +kernel
theorem in_M : ∀ w ∈ u_ws RM TM 8, w ∈ tT := by decide +kernel
/-- a method's words: its own code first -/
abbrev tC (y : MethodName) (b : ByteArray) (mL : Nat) (ret : Option FieldType) : List Cond := Cond.code y b mL ret :: tT
abbrev tyK (K : Nat → ClassId) : List (ClassId × FieldType) := [(K 0, .long), (K 1, .int), (K 2, .boolean), (K 3, .object RIt)]
/-- what a walk stands on -/
def cx (own : String) (D : va_G) (K : Nat → ClassId) (p : Program) (s : State) (m : MethodId) (args : Array Value) (c : Code) (cc : ByteArray) : Prop :=
  p.tables.exec = Jvm.exec ∧ c.code = cc ∧ s.vm.findClass own = some m.cls ∧ (∀ w ∈ tT, w.before args s = true) ∧ va_K D vwCl (tyK K) s ∧ (∀ w ∈ nW, va_Nw w s) ∧ va_AO RIt s
/-- a start: the arguments, the heap, the tables -/
def kP (D : va_G) (K : Nat → ClassId) (H : Heap) (As : List Value) : Array Value → State → Prop := va_Pc As (fun U => U.heap = H ∧ va_K D vwCl (tyK K) U ∧ (∀ w ∈ nW, va_Nw w U) ∧ va_AO RIt U)
theorem kP_blind {D : va_G} {K : Nat → ClassId} {H : Heap} {As : List Value} : FrameBlind (kP D K H As) := by
  intro a U g mk q
  obtain ⟨q0, q1, q2, q3, q4⟩ := q
  exact ⟨q0, q1, va_K.moved (u := U) (U := U.calling g mk a) (Vm.Alike.refl U.vm) q2, nW_same (u := U) (U := U.calling g mk a) rfl q3, va_AO.moved (u := U) (U := U.calling g mk a) (Vm.Alike.refl U.vm) q4⟩
section BASE
variable {p : Program} {l : Launch} {e : Env} {Rm : Room} {s : State} {m : MethodId} {args : Array Value} {below : List Frame} {meth : Method} {c : Code} {H : Heap} {locs : List Loc} {cells slots : Nat} {Q : State → Prop} {cc : ByteArray} {pc : Nat} {ls : Array Slot} {rest st0 : List Value} {own : String} {D : va_G} {K : Nat → ClassId} {A : Nat → Prop} {H0 : Heap} {As : List Value}
theorem tp_i {x y : Int32} (h : x = y) (kk : W p l e Rm s m args below meth c H locs cells slots Q (F0 m pc ls (.int y :: rest))) : W p l e Rm s m args below meth c H locs cells slots Q (F0 m pc ls (.int x :: rest)) := by
  rw [h]; exact kk
theorem tp_l {x y : Int64} (h : x = y) (kk : W p l e Rm s m args below meth c H locs cells slots Q (F0 m pc ls (.long y :: rest))) : W p l e Rm s m args below meth c H locs cells slots Q (F0 m pc ls (.long x :: rest)) := by
  rw [h]; exact kk
theorem kP_S (C : cx own D K p s m args c cc) : PreS s H (kP D K H As) As := ⟨kP_blind, fun _ hU hW => ⟨rfl, hU, va_K.moved hW.alike C.2.2.2.2.1, nW_warm hW C.2.2.2.2.2.1, va_AO.moved hW.alike C.2.2.2.2.2.2⟩⟩
theorem kP_V {Cn : String} {b : Addr} (C : cx own D K p s m args c cc) (hr : ∃ cellB : Cell, H[b]? = some cellB ∧ cellB.vm.isStatics = false ∧ s.vm.findClass Cn = some cellB.cls) : PreV s H Cn b (kP D K H (.ref b :: As)) As := ⟨kP_blind, hr, fun _ hU hW => ⟨rfl, hU, va_K.moved hW.alike C.2.2.2.2.1, nW_warm hW C.2.2.2.2.2.1, va_AO.moved hW.alike C.2.2.2.2.2.2⟩⟩
/-- a call of a method that only answers -/
theorem pv {r : Value} {a : Array Value} (hr : va_Run p l e Rm s m args below meth c H locs cells slots 0 0 (F0 m pc ls st0) rest (k2_QcV r a) (fun _ => False)) (kk : W p l e Rm s m args below meth c H locs cells slots Q (F0 m (pc + 3) ls (r :: rest))) : W p l e Rm s m args below meth c H locs cells slots Q (F0 m pc ls st0) := by
  intro T hT X
  obtain ⟨v, st₀, t, T', L, h0, X', hL, e1, e2, ⟨hv, hh⟩, st⟩ := hr T hT X
  cases hv
  obtain ⟨t2, a1, b1⟩ := kk T' (by rw [e1, hh, h0]) (Stand.forget X' (fun q h => (hL q h).elim))
  exact ⟨t2, st t2 a1, b1⟩
/-- the end of a method that writes: an answer and a new world -/
abbrev qV {Sg : Type} (D : va_G) (A : Nat → Prop) (post : Sg → Prop) (f : Sg → va_W) : Array Value → State → Outcome → State → Prop := va_Qv post (fun u t => va_P D vwCl (f u) t.heap ∧ va_D A (f u)) A
abbrev qI {Sg : Type} (D : va_G) (A : Nat → Prop) (post : Int32 → Sg → Prop) (f : Sg → va_W) : Array Value → State → Outcome → State → Prop := va_Qi post (fun u t => va_P D vwCl (f u) t.heap ∧ va_D A (f u)) A
theorem wv {Sg : Type} {post : Sg → Prop} {f : Sg → va_W} {mc ms : Nat} {a : Array Value} (hr : va_Run p l e Rm s m args below meth c H locs cells slots mc ms (F0 m pc ls st0) rest (qV D A post f a) A) (hS : va_S A H0 H locs) (kk : ∀ (u : Sg) (H1 : Heap) (locs1 : List Loc), post u → va_P D vwCl (f u) H1 → va_D A (f u) → va_S A H0 H1 locs1 → W p l e Rm s m args below meth c H1 locs1 (cells + mc) (slots + ms) Q (F0 m (pc + 3) ls rest)) : W p l e Rm s m args below meth c H locs cells slots Q (F0 m pc ls st0) :=
  va_callv hr hS (fun _ _ h => h) (fun _ h => h) (fun u t H1 locs1 ht _ hp hB _ _ hS1 => kk u H1 locs1 hp (ht ▸ hB.1) hB.2 hS1)
theorem wi {Sg : Type} {post : Int32 → Sg → Prop} {f : Sg → va_W} {mc ms : Nat} {a : Array Value} (hr : va_Run p l e Rm s m args below meth c H locs cells slots mc ms (F0 m pc ls st0) rest (qI D A post f a) A) (hS : va_S A H0 H locs) (kk : ∀ (r : Int32) (u : Sg) (H1 : Heap) (locs1 : List Loc), post r u → va_P D vwCl (f u) H1 → va_D A (f u) → va_S A H0 H1 locs1 → W p l e Rm s m args below meth c H1 locs1 (cells + mc) (slots + ms) Q (F0 m (pc + 3) ls (.int r :: rest))) : W p l e Rm s m args below meth c H locs cells slots Q (F0 m pc ls st0) :=
  va_calli hr hS (fun _ _ h => h) (fun _ h => h) (fun r u t H1 locs1 ht _ hp hB _ _ hS1 => kk r u H1 locs1 hp (ht ▸ hB.1) hB.2 hS1)
/-- a loop with a counter, that reads -/
theorem lpW {U pcH : Nat} {I : Nat → Array Slot → Prop} (hs : ∀ (k : Nat) (ls : Array Slot), k ≤ U → I k ls → (k < U → ∀ ls' : Array Slot, I (k + 1) ls' → W p l e Rm s m args below meth c H locs cells slots Q (F0 m pcH ls' [])) → W p l e Rm s m args below meth c H locs cells slots Q (F0 m pcH ls [])) : ∀ (k : Nat) (ls : Array Slot), k ≤ U → I k ls → W p l e Rm s m args below meth c H locs cells slots Q (F0 m pcH ls []) := by
  have h : ∀ (f k : Nat) (ls : Array Slot), U - k ≤ f → k ≤ U → I k ls → W p l e Rm s m args below meth c H locs cells slots Q (F0 m pcH ls []) := by
    intro f
    induction f with
    | zero => intro k ls h1 h2 h3; exact hs k ls h2 h3 (fun q => absurd q (by omega))
    | succ f ih => intro k ls h1 h2 h3; exact hs k ls h2 h3 (fun q ls' h4 => ih (k + 1) ls' (by omega) (by omega) h4)
  intro k ls
  exact h (U - k) k ls (Nat.le_refl _)
/-- a loop with a counter, that writes -/
theorem lpM {U pcH : Nat} {I : Nat → Array Slot → Heap → List Loc → Prop} (hs : ∀ (k : Nat) (ls : Array Slot) (H : Heap) (locs : List Loc), k ≤ U → I k ls H locs → (k < U → ∀ (ls' : Array Slot) (H' : Heap) (locs' : List Loc), I (k + 1) ls' H' locs' → W p l e Rm s m args below meth c H' locs' cells slots Q (F0 m pcH ls' [])) → W p l e Rm s m args below meth c H locs cells slots Q (F0 m pcH ls [])) : ∀ (k : Nat) (ls : Array Slot) (H : Heap) (locs : List Loc), k ≤ U → I k ls H locs → W p l e Rm s m args below meth c H locs cells slots Q (F0 m pcH ls []) := by
  have h : ∀ (f k : Nat) (ls : Array Slot) (H : Heap) (locs : List Loc), U - k ≤ f → k ≤ U → I k ls H locs → W p l e Rm s m args below meth c H locs cells slots Q (F0 m pcH ls []) := by
    intro f
    induction f with
    | zero => intro k ls H locs h1 h2 h3; exact hs k ls H locs h2 h3 (fun q => absurd q (by omega))
    | succ f ih => intro k ls H locs h1 h2 h3; exact hs k ls H locs h2 h3 (fun q ls' H' locs' h4 => ih (k + 1) ls' H' locs' (by omega) (by omega) h4)
  intro k ls H locs
  exact h (U - k) k ls H locs (Nat.le_refl _)
/-- a loop with a measure, that writes -/
theorem lpQ {α : Type} {pcH : Nat} {I : α → Array Slot → Heap → List Loc → Prop} (μ : α → Nat) (hs : ∀ (a : α) (ls : Array Slot) (H : Heap) (locs : List Loc), I a ls H locs → (∀ (a' : α) (ls' : Array Slot) (H' : Heap) (locs' : List Loc), μ a' < μ a → I a' ls' H' locs' → W p l e Rm s m args below meth c H' locs' cells slots Q (F0 m pcH ls' [])) → W p l e Rm s m args below meth c H locs cells slots Q (F0 m pcH ls [])) : ∀ (a : α) (ls : Array Slot) (H : Heap) (locs : List Loc), I a ls H locs → W p l e Rm s m args below meth c H locs cells slots Q (F0 m pcH ls []) := by
  have h : ∀ (f : Nat) (a : α) (ls : Array Slot) (H : Heap) (locs : List Loc), μ a < f → I a ls H locs → W p l e Rm s m args below meth c H locs cells slots Q (F0 m pcH ls []) := by
    intro f
    induction f with
    | zero => intro a ls H locs h1; exact absurd h1 (Nat.not_lt_zero _)
    | succ f ih => intro a ls H locs h1 h2; exact hs a ls H locs h2 (fun a' ls' H' locs' h3 h4 => ih a' ls' H' locs' (by omega) h4)
  intro a ls H locs
  exact h (μ a + 1) a ls H locs (Nat.lt_succ_self _)
end BASE
/-- the room of a method whose calls go k deep -/
abbrev rmK (k mc ms : Nat) : Room := { frames := k, cells := mc, slots := ms, locals := 28 * k }
/-- room for calls k deep -/
def rmOk (Rm : Room) (k cells slots : Nat) : Prop := k ≤ Rm.frames ∧ 28 * k ≤ Rm.locals ∧ cells ≤ Rm.cells ∧ slots ≤ Rm.slots
theorem rmF {Rm : Room} {k cells slots j mL mc ms : Nat} (h : rmOk Rm k cells slots) (hj : j + 1 ≤ k) (hm : mL ≤ 9) : (rmK j mc ms).frames + 1 ≤ Rm.frames ∧ 8 + (mL + 11) + (rmK j mc ms).locals ≤ Rm.locals := by
  obtain ⟨h1, h2, -, -⟩ := h
  exact ⟨by show j + 1 ≤ Rm.frames; omega, by show 8 + (mL + 11) + 28 * j ≤ Rm.locals; omega⟩
theorem gdT {ws : List Cond} (h : ∀ w ∈ ws, w ∈ tT) : GoodIn tT (ws ++ tT) := by
  intro w hw
  rcases List.mem_append.mp hw with q | q
  · exact ⟨h w q, tT_good w (h w q)⟩
  · exact ⟨q, tT_good w q⟩
theorem gdC {y : MethodName} {b : ByteArray} {mL : Nat} {ret : Option FieldType} (h : Cond.code y b mL ret ∈ tT) : GoodIn tT (tC y b mL ret) := gdT (ws := [Cond.code y b mL ret]) (fun w q => by rw [List.mem_singleton.mp q]; exact h)
end
section
/-! THE MATHEMATICS: sums over items, good sets, and what both searches keep. No machine here. -/
def sm (f : Nat → Int) : Nat → Int
  | 0 => 0
  | k + 1 => sm f k + f k
theorem sm_succ (f : Nat → Int) (k : Nat) : sm f (k + 1) = sm f k + f k := rfl
theorem sm_le {f g : Nat → Int} {n : Nat} (h : ∀ k, k < n → f k ≤ g k) : sm f n ≤ sm g n := by
  induction n with
  | zero => exact Int.le_refl _
  | succ n ih =>
    have h1 := ih (fun k hk => h k (Nat.lt_succ_of_lt hk))
    have h2 := h n (Nat.lt_succ_self n)
    rw [sm_succ, sm_succ]
    omega
theorem sm_congr {f g : Nat → Int} {n : Nat} (h : ∀ k, k < n → f k = g k) : sm f n = sm g n := by
  induction n with
  | zero => rfl
  | succ n ih =>
    have h1 := ih (fun k hk => h k (Nat.lt_succ_of_lt hk))
    have h2 := h n (Nat.lt_succ_self n)
    rw [sm_succ, sm_succ, h1, h2]
theorem sm_add (f g : Nat → Int) (n : Nat) : sm (fun k => f k + g k) n = sm f n + sm g n := by
  induction n with
  | zero => rfl
  | succ n ih =>
    rw [sm_succ, sm_succ, sm_succ, ih]
    omega
theorem sm_zero {f : Nat → Int} {n : Nat} (h : ∀ k, k < n → f k = 0) : sm f n = 0 := by
  induction n with
  | zero => rfl
  | succ n ih =>
    have h1 := ih (fun k hk => h k (Nat.lt_succ_of_lt hk))
    have h2 := h n (Nat.lt_succ_self n)
    rw [sm_succ, h1, h2]
    rfl
theorem sm_nonneg {f : Nat → Int} {n : Nat} (h : ∀ k, k < n → 0 ≤ f k) : 0 ≤ sm f n := by
  induction n with
  | zero => exact Int.le_refl _
  | succ n ih =>
    have h1 := ih (fun k hk => h k (Nat.lt_succ_of_lt hk))
    have h2 := h n (Nat.lt_succ_self n)
    rw [sm_succ]
    omega
theorem sm_single {f : Nat → Int} {i : Nat} : ∀ n : Nat, i < n → sm (fun k => if k = i then f k else 0) n = f i := by
  intro n
  induction n with
  | zero => intro h; exact absurd h (Nat.not_lt_zero i)
  | succ n ih =>
    intro h
    rw [sm_succ]
    by_cases e : n = i
    · subst e
      rw [if_pos rfl, sm_zero (fun k hk => if_neg (Nat.ne_of_lt hk))]
      omega
    · rw [if_neg e, ih (by omega)]
      omega
theorem sm_upto {f : Nat → Int} {i : Nat} : ∀ n : Nat, i ≤ n → sm (fun k => if k < i then f k else 0) n = sm f i := by
  intro n
  induction n with
  | zero =>
    intro h
    have e : i = 0 := by omega
    subst e
    rfl
  | succ n ih =>
    intro h
    by_cases e : i = n + 1
    · subst e
      exact sm_congr (fun k hk => if_pos hk)
    · rw [sm_succ, if_neg (by omega), ih (by omega)]
      omega
/-- how many of the first k are in a set -/
def cn (S : Nat → Bool) : Nat → Nat
  | 0 => 0
  | k + 1 => cn S k + (if S k = true then 1 else 0)
theorem cn_succ (S : Nat → Bool) (k : Nat) : cn S (k + 1) = cn S k + (if S k = true then 1 else 0) := rfl
theorem cn_le (S : Nat → Bool) (n : Nat) : cn S n ≤ n := by
  induction n with
  | zero => exact Nat.le_refl _
  | succ n ih =>
    rw [cn_succ]
    split <;> omega
theorem cn_congr {S T : Nat → Bool} {n : Nat} (h : ∀ k, k < n → S k = T k) : cn S n = cn T n := by
  induction n with
  | zero => rfl
  | succ n ih =>
    rw [cn_succ, cn_succ, ih (fun k hk => h k (Nat.lt_succ_of_lt hk)), h n (Nat.lt_succ_self n)]
theorem cn_off {S : Nat → Bool} {t : Nat} : ∀ n : Nat, t < n → S t = true → cn (va_up S t false) n + 1 = cn S n := by
  intro n
  induction n with
  | zero => intro h; exact absurd h (Nat.not_lt_zero t)
  | succ n ih =>
    intro h hS
    rw [cn_succ, cn_succ]
    by_cases e : n = t
    · subst e
      rw [va_up_self, hS, if_pos rfl, if_neg (by decide), cn_congr (fun k hk => va_up_ne S false (Nat.ne_of_lt hk))]
    · have := ih (by omega) hS
      rw [va_up_ne S false e]
      omega
theorem cn_tail {S : Nat → Bool} {n : Nat} : ∀ m : Nat, n ≤ m → (∀ k, n ≤ k → k < m → S k = false) → cn S m = cn S n := by
  intro m
  induction m with
  | zero =>
    intro h _
    have e : n = 0 := by omega
    subst e
    rfl
  | succ m ih =>
    intro h hf
    by_cases e : n = m + 1
    · subst e; rfl
    · rw [cn_succ, hf m (by omega) (Nat.lt_succ_self m), if_neg (by decide), ih (by omega) (fun k h1 h2 => hf k h1 (by omega))]
      rfl
theorem cn_mono {S T : Nat → Bool} {n : Nat} (h : ∀ k, k < n → S k = true → T k = true) : cn S n ≤ cn T n := by
  induction n with
  | zero => exact Nat.le_refl _
  | succ n ih =>
    have h1 := ih (fun k hk => h k (Nat.lt_succ_of_lt hk))
    have h2 := h n (Nat.lt_succ_self n)
    rw [cn_succ, cn_succ]
    by_cases e : S n = true
    · rw [if_pos e, if_pos (h2 e)]; omega
    · rw [if_neg e]; omega
theorem cn_sub {S T : Nat → Bool} {n : Nat} (h : ∀ k, k < n → S k = true → T k = true) : cn (fun k => T k && !S k) n + cn S n = cn T n := by
  induction n with
  | zero => rfl
  | succ n ih =>
    have h1 := ih (fun k hk => h k (Nat.lt_succ_of_lt hk))
    have h2 := h n (Nat.lt_succ_self n)
    rw [cn_succ, cn_succ, cn_succ]
    cases hs : S n with
    | false =>
      cases ht : T n with
      | false => simp; omega
      | true => simp; omega
    | true =>
      rw [h2 hs]
      simp
      omega
theorem cn_pos {S : Nat → Bool} {t n : Nat} (ht : t < n) (h : S t = true) : 0 < cn S n := by
  have := cn_off n ht h
  omega
/-- an item's part at a position: all of it, what it gives, what it takes -/
def gd_T (nv : Nat → Nat → Int) (S : Nat → Bool) (p k : Nat) : Int := if S k = true then nv k p else 0
def gd_G (nv : Nat → Nat → Int) (S : Nat → Bool) (p k : Nat) : Int := if S k = true ∧ 0 < nv k p then nv k p else 0
def gd_K (nv : Nat → Nat → Int) (S : Nat → Bool) (p k : Nat) : Int := if S k = true ∧ nv k p < 0 then nv k p else 0
theorem gd_split (nv : Nat → Nat → Int) (S : Nat → Bool) (p n : Nat) : sm (gd_T nv S p) n = sm (gd_G nv S p) n + sm (gd_K nv S p) n := by
  rw [← sm_add]
  refine sm_congr (fun k _ => ?_)
  unfold gd_T gd_G gd_K
  by_cases hs : S k = true
  · rw [if_pos hs]
    by_cases h1 : 0 < nv k p
    · rw [if_pos ⟨hs, h1⟩, if_neg (fun q => by have := q.2; omega)]; omega
    · rw [if_neg (fun q => h1 q.2)]
      by_cases h2 : nv k p < 0
      · rw [if_pos ⟨hs, h2⟩]; omega
      · rw [if_neg (fun q => h2 q.2)]; omega
  · rw [if_neg hs, if_neg (fun q => hs q.1), if_neg (fun q => hs q.1)]; rfl
def gd_closed (n : Nat) (th : Nat → Bool) (nv : Nat → Nat → Int) (S : Nat → Bool) : Prop := ∀ i j p : Nat, i < n → j < i → p < 300 → S i = true → th j = true → nv i p < 0 → nv j p < 0 → S j = true
def gd_good (n : Nat) (th : Nat → Bool) (nv : Nat → Nat → Int) (va fl : Nat → Int) (S : Nat → Bool) : Prop := (∀ i, i < n → S i = true → th i = true) ∧ gd_closed n th nv S ∧ ∀ p, p < 300 → fl p ≤ va p + sm (gd_T nv S p) n
/-- every good set lies in S -/
def gd_sub (n : Nat) (th : Nat → Bool) (nv : Nat → Nat → Int) (va fl : Nat → Int) (S : Nat → Bool) : Prop := ∀ G, gd_good n th nv va fl G → ∀ i, i < n → G i = true → S i = true
theorem gd_unique {n : Nat} {th : Nat → Bool} {nv : Nat → Nat → Int} {va fl : Nat → Int} {S T : Nat → Bool} (h1 : gd_good n th nv va fl S) (h2 : gd_sub n th nv va fl S) (h3 : gd_good n th nv va fl T) (h4 : gd_sub n th nv va fl T) : ∀ i, i < n → S i = T i := by
  intro i hi
  have a := h2 T h3 i hi
  have b := h4 S h1 i hi
  cases hs : S i with
  | true => exact (b hs).symm
  | false =>
    cases ht : T i with
    | false => rfl
    | true => rw [a ht] at hs; cases hs
/-- the good sets and what is asked of them don't depend on what lies beyond n and 300 -/
theorem gd_good_congr {n : Nat} {th th' : Nat → Bool} {nv nv' : Nat → Nat → Int} {va va' fl fl' : Nat → Int} {S S' : Nat → Bool} (ht : ∀ i, i < n → th i = th' i) (hn : ∀ i p, i < n → p < 300 → nv i p = nv' i p) (hv : ∀ p, p < 300 → va p = va' p) (hf : ∀ p, p < 300 → fl p = fl' p) (hS : ∀ i, i < n → S i = S' i) (h : gd_good n th nv va fl S) : gd_good n th' nv' va' fl' S' := by
  obtain ⟨h1, h2, h3⟩ := h
  refine ⟨fun i hi hs => ?_, fun i j p hi hj hp hs hth h4 h5 => ?_, fun p hp => ?_⟩
  · rw [← ht i hi]
    exact h1 i hi (by rw [hS i hi]; exact hs)
  · rw [← hS j (by omega)]
    exact h2 i j p hi hj hp (by rw [hS i hi]; exact hs) (by rw [ht j (by omega)]; exact hth) (by rw [hn i p hi hp]; exact h4) (by rw [hn j p (by omega) hp]; exact h5)
  · rw [← hv p hp, ← hf p hp, ← sm_congr (f := gd_T nv S p) (g := gd_T nv' S' p) (fun k hk => by unfold gd_T; rw [hS k hk, hn k p hk hp])]
    exact h3 p hp
theorem gd_sub_congr {n : Nat} {th th' : Nat → Bool} {nv nv' : Nat → Nat → Int} {va va' fl fl' : Nat → Int} {S S' : Nat → Bool} (ht : ∀ i, i < n → th i = th' i) (hn : ∀ i p, i < n → p < 300 → nv i p = nv' i p) (hv : ∀ p, p < 300 → va p = va' p) (hf : ∀ p, p < 300 → fl p = fl' p) (hS : ∀ i, i < n → S i = S' i) (h : gd_sub n th nv va fl S) : gd_sub n th' nv' va' fl' S' := by
  intro G hG i hi hg
  rw [← hS i hi]
  exact h G (gd_good_congr (fun i hi => (ht i hi).symm) (fun i p hi hp => (hn i p hi hp).symm) (fun p hp => (hv p hp).symm) (fun p hp => (hf p hp).symm) (fun i hi => rfl) hG) i hi hg
theorem gd_sub_off {n : Nat} {th : Nat → Bool} {nv : Nat → Nat → Int} {va fl : Nat → Int} {S : Nat → Bool} {t : Nat} (h : gd_sub n th nv va fl S) (hx : ∀ G, gd_good n th nv va fl G → G t = true → False) : gd_sub n th nv va fl (va_up S t false) := by
  intro G hG i hi hg
  by_cases e : i = t
  · subst e
    exact (hx G hG hg).elim
  · rw [va_up_ne S false e]
    exact h G hG i hi hg
/-- the reference's first step: the last taker of a position that comes below its floor -/
theorem gd_last {n : Nat} {th : Nat → Bool} {nv : Nat → Nat → Int} {va fl : Nat → Int} {S : Nat → Bool} {t p : Nat} (hS : ∀ i, i < n → S i = true → th i = true) (h : gd_sub n th nv va fl S) (hp : p < 300) (hlow : va p + sm (gd_T nv S p) n < fl p) (ht : t < n) (htk : nv t p < 0) (hlast : ∀ j, t < j → j < n → S j = true → nv j p < 0 → False) : gd_sub n th nv va fl (va_up S t false) := by
  refine gd_sub_off h (fun G hG hGt => ?_)
  have h1 : sm (gd_T nv G p) n ≤ sm (gd_T nv S p) n := by
    refine sm_le (fun k hk => ?_)
    unfold gd_T
    by_cases hg : G k = true
    · rw [if_pos hg, if_pos (h G hG k hk hg)]
      exact Int.le_refl _
    · rw [if_neg hg]
      by_cases hs : S k = true
      · rw [if_pos hs]
        by_cases hneg : nv k p < 0
        · rcases Nat.lt_trichotomy k t with q | q | q
          · exact absurd (hG.2.1 t k p ht q hp hGt (hS k hk hs) htk hneg) hg
          · subst q; exact absurd hGt hg
          · exact (hlast k q hk hs hneg).elim
        · omega
      · rw [if_neg hs]
        exact Int.le_refl _
  have h2 := hG.2.2 p hp
  omega
/-- the reference's second step: an item that lacks one before it -/
theorem gd_lack {n : Nat} {th : Nat → Bool} {nv : Nat → Nat → Int} {va fl : Nat → Int} {S : Nat → Bool} {i j p : Nat} (h : gd_sub n th nv va fl S) (hp : p < 300) (hi : i < n) (hj : j < i) (hth : th j = true) (hns : ¬ S j = true) (h1 : nv i p < 0) (h2 : nv j p < 0) : gd_sub n th nv va fl (va_up S i false) :=
  gd_sub_off h (fun G hG hg => hns (h G hG j (by omega) (hG.2.1 i j p hi hj hp hg hth h1 h2)))
/-- a position below its floor has a taker in the set -/
theorem gd_taker {n : Nat} {nv : Nat → Nat → Int} {va fl : Nat → Int} {S : Nat → Bool} {p : Nat} (hvf : fl p ≤ va p) (hlow : va p + sm (gd_T nv S p) n < fl p) (hno : ∀ t, t < n → S t = true → nv t p < 0 → False) : False := by
  have : 0 ≤ sm (gd_T nv S p) n := by
    refine sm_nonneg (fun k hk => ?_)
    unfold gd_T
    by_cases hs : S k = true
    · rw [if_pos hs]
      by_cases hneg : nv k p < 0
      · exact (hno k hk hs hneg).elim
      · omega
    · rw [if_neg hs]
      exact Int.le_refl _
  omega
/-- the class's sweep, at item i: the values with all that C gives and what the ones of S before i take; blocked as it says -/
def gd_can (th : Nat → Bool) (nv : Nat → Nat → Int) (fl : Nat → Int) (S : Nat → Bool) (af : Nat → Int) (i : Nat) : Prop := ∀ p, p < 300 → nv i p < 0 → (∀ j, j < i → th j = true → S j = false → nv j p < 0 → False) ∧ fl p ≤ af p + nv i p
theorem gd_drop {n : Nat} {th : Nat → Bool} {nv : Nat → Nat → Int} {va fl : Nat → Int} {C S : Nat → Bool} {af : Nat → Int} {i : Nat} (hS : ∀ k, k < n → S k = true → th k = true) (hSC : ∀ k, k < n → S k = true → C k = true) (h : gd_sub n th nv va fl S) (hi : i < n) (haf : ∀ p, p < 300 → af p = va p + sm (gd_G nv C p) n + sm (gd_K nv S p) i) (hno : ¬ gd_can th nv fl S af i) : gd_sub n th nv va fl (va_up S i false) := by
  refine gd_sub_off h (fun G hG hGi => hno (fun p hp htk => ⟨fun j hj hth hns hjt => ?_, ?_⟩))
  · have := h G hG j (by omega) (hG.2.1 i j p hi hj hp hGi hth htk hjt)
    rw [hns] at this
    cases this
  · have h2 := hG.2.2 p hp
    have h1 : sm (gd_T nv G p) n ≤ sm (fun k => (gd_G nv C p k + (if k < i then gd_K nv S p k else 0)) + (if k = i then nv k p else 0)) n := by
      refine sm_le (fun k hk => ?_)
      unfold gd_T gd_G gd_K
      by_cases hg : G k = true
      · have hs := h G hG k hk hg
        have hc := hSC k hk hs
        rw [if_pos hg]
        by_cases hpos : 0 < nv k p
        · rw [if_pos ⟨hc, hpos⟩]
          by_cases e : k = i
          · subst e; omega
          · rw [if_neg e]
            by_cases hlt : k < i
            · rw [if_pos hlt, if_neg (fun q => by have := q.2; omega)]; omega
            · rw [if_neg hlt]; omega
        · rw [if_neg (fun q => hpos q.2)]
          by_cases e : k = i
          · subst e
            rw [if_neg (Nat.lt_irrefl k), if_pos rfl]; omega
          · rw [if_neg e]
            by_cases hlt : k < i
            · rw [if_pos hlt]
              by_cases hneg : nv k p < 0
              · rw [if_pos ⟨hs, hneg⟩]; omega
              · rw [if_neg (fun q => hneg q.2)]; omega
            · rw [if_neg hlt]; omega
      · rw [if_neg hg]
        have e : ¬ k = i := fun q => hg (by rw [q]; exact hGi)
        rw [if_neg e]
        have hz : (if k < i then (if S k = true ∧ nv k p < 0 then nv k p else 0) else 0) = 0 := by
          by_cases hlt : k < i
          · rw [if_pos hlt]
            by_cases hq : S k = true ∧ nv k p < 0
            · exact absurd (hG.2.1 i k p hi hlt hp hGi (hS k hk hq.1) htk hq.2) hg
            · rw [if_neg hq]
          · rw [if_neg hlt]
        rw [hz]
        by_cases hq : C k = true ∧ 0 < nv k p
        · rw [if_pos hq]; have := hq.2; omega
        · rw [if_neg hq]; omega
    rw [sm_add, sm_add, sm_upto n (Nat.le_of_lt hi), sm_single (f := fun k => nv k p) n hi] at h1
    have h3 := haf p hp
    omega
/-- a sweep that drops none: the set is good -/
theorem gd_sweep {n : Nat} {th : Nat → Bool} {nv : Nat → Nat → Int} {va fl : Nat → Int} {C : Nat → Bool} (hC : ∀ k, k < n → C k = true → th k = true) (hvf : ∀ p, p < 300 → fl p ≤ va p) (hcan : ∀ i, i < n → C i = true → gd_can th nv fl C (fun p => va p + sm (gd_G nv C p) n + sm (gd_K nv C p) i) i) : gd_good n th nv va fl C := by
  refine ⟨hC, fun i j p hi hj hp hs hth h1 h2 => ?_, fun p hp => ?_⟩
  · cases hc : C j with
    | true => rfl
    | false => exact ((hcan i hi hs p hp h1).1 j hj hth hc h2).elim
  · rw [gd_split]
    have hg : 0 ≤ sm (gd_G nv C p) n := sm_nonneg (fun k _ => by
      unfold gd_G
      by_cases hq : C k = true ∧ 0 < nv k p
      · rw [if_pos hq]; have := hq.2; omega
      · rw [if_neg hq]; omega)
    have key : ∀ i, i ≤ n → fl p ≤ va p + sm (gd_G nv C p) n + sm (gd_K nv C p) i := by
      intro i
      induction i with
      | zero =>
        intro _
        have := hvf p hp
        show fl p ≤ va p + sm (gd_G nv C p) n + 0
        omega
      | succ i ih =>
        intro hi
        have h1 := ih (by omega)
        rw [sm_succ]
        by_cases hq : C i = true ∧ nv i p < 0
        · have h2 := (hcan i (by omega) hq.1 p hp hq.2).2
          have e : gd_K nv C p i = nv i p := if_pos hq
          rw [e]
          have h2 : fl p ≤ va p + sm (gd_G nv C p) n + sm (gd_K nv C p) i + nv i p := h2
          omega
        · have e : gd_K nv C p i = 0 := if_neg hq
          rw [e]
          omega
    have := key n (Nat.le_refl n)
    omega
/-- the reference's end: no position below its floor, none lacks -/
theorem gd_done {n : Nat} {th : Nat → Bool} {nv : Nat → Nat → Int} {va fl : Nat → Int} {S : Nat → Bool} (hS : ∀ k, k < n → S k = true → th k = true) (h1 : ∀ p, p < 300 → fl p ≤ va p + sm (gd_T nv S p) n) (h2 : ∀ i, i < n → S i = true → ∀ j, j < i → th j = true → S j = false → ∀ p, p < 300 → nv i p < 0 → nv j p < 0 → False) : gd_good n th nv va fl S := by
  refine ⟨hS, fun i j p hi hj hp hs hth h3 h4 => ?_, h1⟩
  cases hc : S j with
  | true => rfl
  | false => exact (h2 i hi hs j hj hth hc p hp h3 h4).elim
end
section
/-! SLOTS: an item's nets in slots; the first slot of a position; what the slots say of a position -/
def bI (b : Bool) : Int32 := if b = true then 1 else 0
theorem bI_t : bI true = 1 := rfl
theorem bI_f : bI false = 0 := rfl
theorem bI_z (b : Bool) : (bI b = 0) ↔ b = false := by cases b <;> decide
theorem bI_nz (b : Bool) : (¬ bI b = 0) ↔ b = true := by cases b <;> decide
theorem bI_nar (b : Bool) : vp_nar .boolean (bI b) = bI b := by cases b <;> decide
theorem bI_narrow (b : Bool) : narrow .boolean (.int (bI b)) = .int (bI b) := by cases b <;> decide
theorem bI_fits (b : Bool) : fits .boolean (.int (bI b)) = true := by cases b <;> decide
theorem bI_inj {a b : Bool} : bI a = bI b ↔ a = b := by cases a <;> cases b <;> decide
/-- the first place from k on, of n, that q says; else the end -/
def fs (q : Nat → Bool) : Nat → Nat → Nat
  | 0, k => k
  | n + 1, k => if q k = true then k else fs q n (k + 1)
theorem fs_ge (q : Nat → Bool) : ∀ n k : Nat, k ≤ fs q n k := by
  intro n
  induction n with
  | zero => intro k; exact Nat.le_refl k
  | succ n ih =>
    intro k
    unfold fs
    split
    · exact Nat.le_refl k
    · exact Nat.le_trans (Nat.le_succ k) (ih (k + 1))
theorem fs_le (q : Nat → Bool) : ∀ n k : Nat, fs q n k ≤ k + n := by
  intro n
  induction n with
  | zero => intro k; exact Nat.le_refl k
  | succ n ih =>
    intro k
    unfold fs
    split
    · omega
    · have := ih (k + 1); omega
theorem fs_hit (q : Nat → Bool) : ∀ n k : Nat, fs q n k < k + n → q (fs q n k) = true := by
  intro n
  induction n with
  | zero => intro k h; exact absurd h (by unfold fs; omega)
  | succ n ih =>
    intro k h
    unfold fs at h ⊢
    by_cases e : q k = true
    · rw [if_pos e]; exact e
    · rw [if_neg e] at h ⊢
      exact ih (k + 1) (by omega)
theorem fs_miss (q : Nat → Bool) : ∀ n k j : Nat, k ≤ j → j < fs q n k → q j = false := by
  intro n
  induction n with
  | zero => intro k j h1 h2; unfold fs at h2; omega
  | succ n ih =>
    intro k j h1 h2
    unfold fs at h2
    by_cases e : q k = true
    · rw [if_pos e] at h2; omega
    · rw [if_neg e] at h2
      by_cases ej : j = k
      · subst ej
        cases hq : q j with
        | false => rfl
        | true => exact absurd hq e
      · exact ih (k + 1) j (by omega) h2
theorem fs_congr {q r : Nat → Bool} : ∀ n k : Nat, (∀ j, k ≤ j → j < k + n → q j = r j) → fs q n k = fs r n k := by
  intro n
  induction n with
  | zero => intro k _; rfl
  | succ n ih =>
    intro k h
    unfold fs
    rw [h k (Nat.le_refl k) (by omega), ih (k + 1) (fun j h1 h2 => h j (by omega) (by omega))]
/-- moved by an offset -/
theorem fs_shift {q r : Nat → Bool} (o : Nat) : ∀ n k : Nat, (∀ j, k ≤ j → j < k + n → q (o + j) = r j) → fs q n (o + k) = o + fs r n k := by
  intro n
  induction n with
  | zero => intro k _; rfl
  | succ n ih =>
    intro k h
    unfold fs
    rw [h k (Nat.le_refl k) (by omega)]
    by_cases e : r k = true
    · rw [if_pos e, if_pos e]
    · rw [if_neg e, if_neg e]
      exact ih (k + 1) (fun j h1 h2 => h j (by omega) (by omega))
/-- the net that the slots say -/
def ntq (q : Nat → Bool) (u : Nat) (am : Nat → Int64) : Int64 := if fs q u 0 < u then am (fs q u 0) else 0
def sl_v (ps : Nat → Nat) (am : Nat → Int64) (u p : Nat) : Int := sm (fun k => if ps k = p then (am k).toInt else 0) u
def sl_ok (ps : Nat → Nat) (am : Nat → Int64) (u : Nat) : Prop := u ≤ 16 ∧ (∀ k, k < u → ps k < 300) ∧ (∀ a b, a < u → b < u → ps a = ps b → a = b) ∧ ∀ k, k < u → ¬ am k = 0 ∧ -1000000000000000 ≤ (am k).toInt ∧ (am k).toInt ≤ 1000000000000000
theorem sl_F {ps : Nat → Nat} {g : Nat → Int} {u p : Nat} (F : Int → Int) (h0 : F 0 = 0) (hd : ∀ a b, a < u → b < u → ps a = ps b → a = b) : sm (fun k => if ps k = p then F (g k) else 0) u = F (sm (fun k => if ps k = p then g k else 0) u) := by
  by_cases h : ∃ k, k < u ∧ ps k = p
  · obtain ⟨k, hk, e⟩ := h
    have h1 : ∀ f : Nat → Int, sm (fun j => if ps j = p then f j else 0) u = f k := by
      intro f
      rw [← sm_single (f := f) u hk]
      refine sm_congr (fun j hj => ?_)
      by_cases ej : j = k
      · subst ej; rw [if_pos e, if_pos rfl]
      · rw [if_neg ej, if_neg (fun q => ej (hd j k hj hk (by rw [q, e])))]
    rw [h1, h1]
  · have hn : ∀ k, k < u → ¬ ps k = p := fun k hk q => h ⟨k, hk, q⟩
    rw [sm_zero (fun k hk => if_neg (hn k hk)), sm_zero (fun k hk => if_neg (hn k hk)), h0]
theorem sl_at {ps : Nat → Nat} {am : Nat → Int64} {u k : Nat} (hd : ∀ a b, a < u → b < u → ps a = ps b → a = b) (hk : k < u) : sl_v ps am u (ps k) = (am k).toInt := by
  unfold sl_v
  rw [← sm_single (f := fun j => (am j).toInt) u hk]
  refine sm_congr (fun j hj => ?_)
  by_cases ej : j = k
  · subst ej; rw [if_pos rfl, if_pos rfl]
  · rw [if_neg ej, if_neg (fun q => ej (hd j k hj hk q))]
theorem sl_none {ps : Nat → Nat} {am : Nat → Int64} {u p : Nat} (h : ∀ k, k < u → ¬ ps k = p) : sl_v ps am u p = 0 := sm_zero (fun k hk => if_neg (h k hk))
theorem sl_nt {ps : Nat → Nat} {am : Nat → Int64} {u p : Nat} {q : Nat → Bool} (hd : ∀ a b, a < u → b < u → ps a = ps b → a = b) (hq : ∀ k, k < u → (q k = true ↔ ps k = p)) : (ntq q u am).toInt = sl_v ps am u p := by
  unfold ntq
  have h1 := fs_le q u 0
  by_cases h : fs q u 0 < u
  · rw [if_pos h]
    have h2 := (hq _ h).mp (fs_hit q u 0 (by omega))
    rw [← h2, sl_at hd h]
  · rw [if_neg h, sl_none (fun k hk e => ?_)]
    · rfl
    · have := fs_miss q u 0 k (Nat.zero_le k) (by omega)
      rw [(hq k hk).mpr e] at this
      cases this
theorem sl_bound {ps : Nat → Nat} {am : Nat → Int64} {u p : Nat} (h : sl_ok ps am u) : -1000000000000000 ≤ sl_v ps am u p ∧ sl_v ps am u p ≤ 1000000000000000 := by
  by_cases hx : ∃ k, k < u ∧ ps k = p
  · obtain ⟨k, hk, e⟩ := hx
    rw [← e, sl_at h.2.2.1 hk]
    exact (h.2.2.2 k hk).2
  · rw [sl_none (fun k hk q => hx ⟨k, hk, q⟩)]
    omega
theorem sl_hit {ps : Nat → Nat} {am : Nat → Int64} {u p : Nat} (h : ¬ sl_v ps am u p = 0) : ∃ k, k < u ∧ ps k = p := by
  apply Classical.byContradiction
  intro hx
  exact h (sl_none (fun k hk q => hx ⟨k, hk, q⟩))
theorem sl_congr {ps ps' : Nat → Nat} {am am' : Nat → Int64} {u p : Nat} (h1 : ∀ k, k < u → ps k = ps' k) (h2 : ∀ k, k < u → am k = am' k) : sl_v ps am u p = sl_v ps' am' u p := sm_congr (fun k hk => by rw [h1 k hk, h2 k hk])
theorem i64_add {a b : Int64} (h1 : -9223372036854775808 ≤ a.toInt + b.toInt) (h2 : a.toInt + b.toInt < 9223372036854775808) : (a + b).toInt = a.toInt + b.toInt := by
  rw [Int64.toInt_add]
  exact Int.bmod_eq_of_le (by omega) (by omega)
theorem i64_z {a : Int64} : a = 0 ↔ a.toInt = 0 := by
  rw [← Int64.toInt_inj]
  exact Iff.rfl
theorem i64_lt {a b : Int64} : a < b ↔ a.toInt < b.toInt := Int64.lt_iff_toInt_lt
theorem i64_le {a b : Int64} : a ≤ b ↔ a.toInt ≤ b.toInt := Int64.le_iff_toInt_le
/-- a sum of at most 200 parts of at most 10^15 -/
theorem sm_bound {f : Nat → Int} {n : Nat} (h : ∀ k, k < n → -1000000000000000 ≤ f k ∧ f k ≤ 1000000000000000) : -(1000000000000000 * (n : Int)) ≤ sm f n ∧ sm f n ≤ 1000000000000000 * (n : Int) := by
  induction n with
  | zero => exact ⟨by simp [sm], by simp [sm]⟩
  | succ n ih =>
    have h1 := ih (fun k hk => h k (Nat.lt_succ_of_lt hk))
    have h2 := h n (Nat.lt_succ_self n)
    rw [sm_succ]
    omega
end
