section
-- ===== PART A: goes FIRST, ahead of the names: the tables' words, and 'selects' of the private methods out of them =====
/-- a private method of a class that the tables say can be made, by its rows of tables_1 -/
def lw_okq (q : MethodName × Nat) : Prop := (q.1.cls ≠ "java/lang/invoke/MethodHandle" ∧ q.1.cls ≠ "java/lang/invoke/VarHandle") ∧ Cond.instantiable q.1.cls q.2 ∈ tables_1 ∧ Cond.privateMethod q.1 ∈ tables_1 ∧ Cond.instanceMethod q.1 ∈ tables_1
theorem lw_p0 : lw_okq (⟨"ToolRoom", "refuse", "(I)I"⟩, 10) := ⟨⟨by decide +kernel, by decide +kernel⟩, List.mem_of_getElem? (i := 13) (by decide +kernel), List.mem_of_getElem? (i := 121) (by decide +kernel), List.mem_of_getElem? (i := 122) (by decide +kernel)⟩
theorem lw_p1 : lw_okq (⟨"ToolRoom", "done", "(I)I"⟩, 10) := ⟨⟨by decide +kernel, by decide +kernel⟩, List.mem_of_getElem? (i := 13) (by decide +kernel), List.mem_of_getElem? (i := 193) (by decide +kernel), List.mem_of_getElem? (i := 194) (by decide +kernel)⟩
theorem lw_p2 : lw_okq (⟨"ToolRoom", "fail", "(I)I"⟩, 10) := ⟨⟨by decide +kernel, by decide +kernel⟩, List.mem_of_getElem? (i := 13) (by decide +kernel), List.mem_of_getElem? (i := 228) (by decide +kernel), List.mem_of_getElem? (i := 229) (by decide +kernel)⟩
theorem lw_p3 : lw_okq (⟨"ToolRoom", "refuseWithZero", "(I)I"⟩, 10) := ⟨⟨by decide +kernel, by decide +kernel⟩, List.mem_of_getElem? (i := 13) (by decide +kernel), List.mem_of_getElem? (i := 244) (by decide +kernel), List.mem_of_getElem? (i := 245) (by decide +kernel)⟩
theorem lw_p4 : lw_okq (⟨"ToolRoom", "failWithZero", "(I)I"⟩, 10) := ⟨⟨by decide +kernel, by decide +kernel⟩, List.mem_of_getElem? (i := 13) (by decide +kernel), List.mem_of_getElem? (i := 248) (by decide +kernel), List.mem_of_getElem? (i := 249) (by decide +kernel)⟩
theorem lw_p5 : lw_okq (⟨"ToolRoom", "edgeOf", "(LToolRoom$Tool;)I"⟩, 10) := ⟨⟨by decide +kernel, by decide +kernel⟩, List.mem_of_getElem? (i := 13) (by decide +kernel), List.mem_of_getElem? (i := 267) (by decide +kernel), List.mem_of_getElem? (i := 268) (by decide +kernel)⟩
theorem lw_p6 : lw_okq (⟨"ToolRoom", "shiftOnce", "(IILToolRoom$Row;I)I"⟩, 10) := ⟨⟨by decide +kernel, by decide +kernel⟩, List.mem_of_getElem? (i := 13) (by decide +kernel), List.mem_of_getElem? (i := 299) (by decide +kernel), List.mem_of_getElem? (i := 300) (by decide +kernel)⟩
theorem lw_p7 : lw_okq (⟨"ToolRoom", "holderOrNull", "(II)LToolRoom$Holder;"⟩, 10) := ⟨⟨by decide +kernel, by decide +kernel⟩, List.mem_of_getElem? (i := 13) (by decide +kernel), List.mem_of_getElem? (i := 325) (by decide +kernel), List.mem_of_getElem? (i := 326) (by decide +kernel)⟩
theorem lw_p8 : lw_okq (⟨"ToolRoomModel", "refuses", "(I)I"⟩, 21) := ⟨⟨by decide +kernel, by decide +kernel⟩, List.mem_of_getElem? (i := 416) (by decide +kernel), List.mem_of_getElem? (i := 493) (by decide +kernel), List.mem_of_getElem? (i := 494) (by decide +kernel)⟩
theorem lw_p9 : lw_okq (⟨"ToolRoomModel", "says", "(I)I"⟩, 21) := ⟨⟨by decide +kernel, by decide +kernel⟩, List.mem_of_getElem? (i := 416) (by decide +kernel), List.mem_of_getElem? (i := 497) (by decide +kernel), List.mem_of_getElem? (i := 498) (by decide +kernel)⟩
theorem lw_p10 : lw_okq (⟨"ToolRoomModel", "fails", "(I)I"⟩, 21) := ⟨⟨by decide +kernel, by decide +kernel⟩, List.mem_of_getElem? (i := 416) (by decide +kernel), List.mem_of_getElem? (i := 517) (by decide +kernel), List.mem_of_getElem? (i := 518) (by decide +kernel)⟩
theorem lw_p11 : lw_okq (⟨"ToolRoomModel", "weight", "(I)I"⟩, 21) := ⟨⟨by decide +kernel, by decide +kernel⟩, List.mem_of_getElem? (i := 416) (by decide +kernel), List.mem_of_getElem? (i := 536) (by decide +kernel), List.mem_of_getElem? (i := 537) (by decide +kernel)⟩
theorem lw_p12 : lw_okq (⟨"ToolRoomModel", "used", "(II)I"⟩, 21) := ⟨⟨by decide +kernel, by decide +kernel⟩, List.mem_of_getElem? (i := 416) (by decide +kernel), List.mem_of_getElem? (i := 548) (by decide +kernel), List.mem_of_getElem? (i := 549) (by decide +kernel)⟩
theorem lw_p13 : lw_okq (⟨"ToolRoomModel", "sizeOf", "(II)I"⟩, 21) := ⟨⟨by decide +kernel, by decide +kernel⟩, List.mem_of_getElem? (i := 416) (by decide +kernel), List.mem_of_getElem? (i := 567) (by decide +kernel), List.mem_of_getElem? (i := 568) (by decide +kernel)⟩
theorem lw_p14 : lw_okq (⟨"ToolRoomModel", "isOf", "(II)Z"⟩, 21) := ⟨⟨by decide +kernel, by decide +kernel⟩, List.mem_of_getElem? (i := 416) (by decide +kernel), List.mem_of_getElem? (i := 594) (by decide +kernel), List.mem_of_getElem? (i := 595) (by decide +kernel)⟩
theorem lw_p15 : lw_okq (⟨"ToolRoomModel", "lacksCell", "(III)I"⟩, 21) := ⟨⟨by decide +kernel, by decide +kernel⟩, List.mem_of_getElem? (i := 416) (by decide +kernel), List.mem_of_getElem? (i := 614) (by decide +kernel), List.mem_of_getElem? (i := 615) (by decide +kernel)⟩
def lw_privs_1 : List (MethodName × Nat) := [(⟨"ToolRoom", "refuse", "(I)I"⟩, 10), (⟨"ToolRoom", "done", "(I)I"⟩, 10), (⟨"ToolRoom", "fail", "(I)I"⟩, 10), (⟨"ToolRoom", "refuseWithZero", "(I)I"⟩, 10), (⟨"ToolRoom", "failWithZero", "(I)I"⟩, 10), (⟨"ToolRoom", "edgeOf", "(LToolRoom$Tool;)I"⟩, 10), (⟨"ToolRoom", "shiftOnce", "(IILToolRoom$Row;I)I"⟩, 10), (⟨"ToolRoom", "holderOrNull", "(II)LToolRoom$Holder;"⟩, 10), (⟨"ToolRoomModel", "refuses", "(I)I"⟩, 21), (⟨"ToolRoomModel", "says", "(I)I"⟩, 21), (⟨"ToolRoomModel", "fails", "(I)I"⟩, 21), (⟨"ToolRoomModel", "weight", "(I)I"⟩, 21), (⟨"ToolRoomModel", "used", "(II)I"⟩, 21), (⟨"ToolRoomModel", "sizeOf", "(II)I"⟩, 21), (⟨"ToolRoomModel", "isOf", "(II)Z"⟩, 21), (⟨"ToolRoomModel", "lacksCell", "(III)I"⟩, 21)]
theorem lw_r1 : ∀ q ∈ lw_privs_1, lw_okq q := List.forall_mem_cons.mpr ⟨lw_p0, List.forall_mem_cons.mpr ⟨lw_p1, List.forall_mem_cons.mpr ⟨lw_p2, List.forall_mem_cons.mpr ⟨lw_p3, List.forall_mem_cons.mpr ⟨lw_p4, List.forall_mem_cons.mpr ⟨lw_p5, List.forall_mem_cons.mpr ⟨lw_p6, List.forall_mem_cons.mpr ⟨lw_p7, List.forall_mem_cons.mpr ⟨lw_p8, List.forall_mem_cons.mpr ⟨lw_p9, List.forall_mem_cons.mpr ⟨lw_p10, List.forall_mem_cons.mpr ⟨lw_p11, List.forall_mem_cons.mpr ⟨lw_p12, List.forall_mem_cons.mpr ⟨lw_p13, List.forall_mem_cons.mpr ⟨lw_p14, List.forall_mem_cons.mpr ⟨lw_p15, fun _ h => absurd h List.not_mem_nil⟩⟩⟩⟩⟩⟩⟩⟩⟩⟩⟩⟩⟩⟩⟩⟩
def lw_privs : List (MethodName × Nat) := lw_privs_1
def lw_tbl : List Cond := k2_sels lw_privs ++ tables_1
theorem lw_privs_ok : ∀ q ∈ lw_privs, lw_okq q := lw_r1
-- ===== end of PART A; then your names; then what follows =====
/-! ===== BEGIN words of one list among another's, by their places ===== -/
/-! ===== END ===== -/

/-! ===== BEGIN printed: names, fields, word lists, decode rows ===== -/
def RX0 : String := "ToolRoom$Blade"
def TX0 : u_T := fun k => match k with
  | 0 => ("ToolRoom$Tool", "wear", "I", false)
  | 1 => ("ToolRoom$Tool", "hasCard", "Z", false)
  | 2 => ("ToolRoom$Tool", "name", "I", false)
  | _ => ("ToolRoom$Blade", "edge", "I", false)
def tyX0 : Nat → FieldType := fun k => match k with
  | 0 => .int
  | 1 => .boolean
  | 2 => .int
  | _ => .int
abbrev wsX00 : List Cond := u_ws RX0 TX0 4
theorem nmX0 : ∀ a, a < 4 → ∀ b, b < 4 → a ≠ b → (TX0 a).2.1 ≠ (TX0 b).2.1 := by decide +kernel
theorem tyX0_ok : ∀ k, k < 4 → parseFieldDescriptor (TX0 k).2.2.1 = some (tyX0 k) := by decide +kernel
abbrev cX0_init : ByteArray := prog_2_method_1_code
def yX0_init : MethodName := ⟨RX0, "<init>", "()V"⟩
abbrev cX0_kindNumber : ByteArray := prog_2_method_2_code
def yX0_kindNumber : MethodName := ⟨RX0, "kindNumber", "()I"⟩
abbrev cX0_weight : ByteArray := prog_2_method_3_code
def yX0_weight : MethodName := ⟨RX0, "weight", "()I"⟩
abbrev cX0_work : ByteArray := prog_2_method_4_code
def yX0_work : MethodName := ⟨RX0, "work", "(I)I"⟩
def RX1 : String := "ToolRoom$FileBlade"
def TX1 : u_T := fun k => match k with
  | 0 => ("ToolRoom$Blade", "edge", "I", false)
  | 1 => ("ToolRoom$Tool", "wear", "I", false)
  | 2 => ("ToolRoom$Tool", "hasCard", "Z", false)
  | _ => ("ToolRoom$Tool", "name", "I", false)
def tyX1 : Nat → FieldType := fun k => match k with
  | 0 => .int
  | 1 => .int
  | 2 => .boolean
  | _ => .int
abbrev wsX10 : List Cond := u_ws RX1 TX1 4
theorem nmX1 : ∀ a, a < 4 → ∀ b, b < 4 → a ≠ b → (TX1 a).2.1 ≠ (TX1 b).2.1 := by decide +kernel
theorem tyX1_ok : ∀ k, k < 4 → parseFieldDescriptor (TX1 k).2.2.1 = some (tyX1 k) := by decide +kernel
abbrev cX1_init : ByteArray := prog_3_method_1_code
def yX1_init : MethodName := ⟨RX1, "<init>", "()V"⟩
abbrev cX1_kindNumber : ByteArray := prog_3_method_2_code
def yX1_kindNumber : MethodName := ⟨RX1, "kindNumber", "()I"⟩
abbrev cX1_weight : ByteArray := prog_3_method_3_code
def yX1_weight : MethodName := ⟨RX1, "weight", "()I"⟩
abbrev cX1_work : ByteArray := prog_3_method_4_code
def yX1_work : MethodName := ⟨RX1, "work", "(I)I"⟩
def RX2 : String := "ToolRoom$Gauge"
def TX2 : u_T := fun k => match k with
  | 0 => ("ToolRoom$Tool", "wear", "I", false)
  | 1 => ("ToolRoom$Tool", "hasCard", "Z", false)
  | _ => ("ToolRoom$Tool", "name", "I", false)
def tyX2 : Nat → FieldType := fun k => match k with
  | 0 => .int
  | 1 => .boolean
  | _ => .int
abbrev wsX20 : List Cond := u_ws RX2 TX2 3
theorem nmX2 : ∀ a, a < 3 → ∀ b, b < 3 → a ≠ b → (TX2 a).2.1 ≠ (TX2 b).2.1 := by decide +kernel
theorem tyX2_ok : ∀ k, k < 3 → parseFieldDescriptor (TX2 k).2.2.1 = some (tyX2 k) := by decide +kernel
abbrev cX2_init : ByteArray := prog_4_method_1_code
def yX2_init : MethodName := ⟨RX2, "<init>", "()V"⟩
abbrev cX2_kindNumber : ByteArray := prog_4_method_2_code
def yX2_kindNumber : MethodName := ⟨RX2, "kindNumber", "()I"⟩
abbrev cX2_weight : ByteArray := prog_4_method_3_code
def yX2_weight : MethodName := ⟨RX2, "weight", "()I"⟩
abbrev cX2_work : ByteArray := prog_4_method_4_code
def yX2_work : MethodName := ⟨RX2, "work", "(I)I"⟩
def RX3 : String := "ToolRoom$Grid"
def TX3 : u_T := fun k => match k with
  | 0 => ("ToolRoom$Holder", "size", "I", false)
  | _ => ("ToolRoom$Grid", "rows", "[LToolRoom$Row;", true)
def tyX3 : Nat → FieldType := fun k => match k with
  | 0 => .int
  | _ => .array (.object "ToolRoom$Row")
abbrev wsX30 : List Cond := u_ws RX3 TX3 2
theorem nmX3 : ∀ a, a < 2 → ∀ b, b < 2 → a ≠ b → (TX3 a).2.1 ≠ (TX3 b).2.1 := by decide +kernel
theorem tyX3_ok : ∀ k, k < 2 → parseFieldDescriptor (TX3 k).2.2.1 = some (tyX3 k) := by decide +kernel
abbrev cX3_init : ByteArray := prog_5_method_1_code
def yX3_init : MethodName := ⟨RX3, "<init>", "()V"⟩
abbrev cX3_renew : ByteArray := prog_5_method_2_code
def yX3_renew : MethodName := ⟨RX3, "renew", "(II)V"⟩
def RX4 : String := "ToolRoom$Hammer"
def TX4 : u_T := fun k => match k with
  | 0 => ("ToolRoom$Tool", "wear", "I", false)
  | 1 => ("ToolRoom$Tool", "hasCard", "Z", false)
  | _ => ("ToolRoom$Tool", "name", "I", false)
def tyX4 : Nat → FieldType := fun k => match k with
  | 0 => .int
  | 1 => .boolean
  | _ => .int
abbrev wsX40 : List Cond := u_ws RX4 TX4 3
theorem nmX4 : ∀ a, a < 3 → ∀ b, b < 3 → a ≠ b → (TX4 a).2.1 ≠ (TX4 b).2.1 := by decide +kernel
theorem tyX4_ok : ∀ k, k < 3 → parseFieldDescriptor (TX4 k).2.2.1 = some (tyX4 k) := by decide +kernel
abbrev cX4_init : ByteArray := prog_6_method_1_code
def yX4_init : MethodName := ⟨RX4, "<init>", "()V"⟩
abbrev cX4_kindNumber : ByteArray := prog_6_method_2_code
def yX4_kindNumber : MethodName := ⟨RX4, "kindNumber", "()I"⟩
abbrev cX4_weight : ByteArray := prog_6_method_3_code
def yX4_weight : MethodName := ⟨RX4, "weight", "()I"⟩
abbrev cX4_work : ByteArray := prog_6_method_4_code
def yX4_work : MethodName := ⟨RX4, "work", "(I)I"⟩
def RX5 : String := "ToolRoom$Holder"
def TX5 : u_T := fun k => match k with
  | _ => ("", "", "", false)
def tyX5 : Nat → FieldType := fun k => match k with
  | _ => .int
abbrev wsX50 : List Cond := u_ws RX5 TX5 0
theorem nmX5 : ∀ a, a < 0 → ∀ b, b < 0 → a ≠ b → (TX5 a).2.1 ≠ (TX5 b).2.1 := by decide +kernel
theorem tyX5_ok : ∀ k, k < 0 → parseFieldDescriptor (TX5 k).2.2.1 = some (tyX5 k) := by decide +kernel
abbrev cX5_init : ByteArray := prog_7_method_1_code
def yX5_init : MethodName := ⟨RX5, "<init>", "()V"⟩
abbrev cX5_isMissing : ByteArray := prog_7_method_2_code
def yX5_isMissing : MethodName := ⟨RX5, "isMissing", "()Z"⟩
abbrev cX5_vanish : ByteArray := prog_7_method_3_code
def yX5_vanish : MethodName := ⟨RX5, "vanish", "()Z"⟩
def RX6 : String := "ToolRoom$Rack"
def TX6 : u_T := fun k => match k with
  | 0 => ("ToolRoom$Holder", "size", "I", false)
  | 1 => ("ToolRoom$Rack", "places", "[LToolRoom$Tool;", true)
  | _ => ("ToolRoom$Rack", "sort", "I", false)
def tyX6 : Nat → FieldType := fun k => match k with
  | 0 => .int
  | 1 => .array (.object "ToolRoom$Tool")
  | _ => .int
abbrev wsX60 : List Cond := u_ws RX6 TX6 3
theorem nmX6 : ∀ a, a < 3 → ∀ b, b < 3 → a ≠ b → (TX6 a).2.1 ≠ (TX6 b).2.1 := by decide +kernel
theorem tyX6_ok : ∀ k, k < 3 → parseFieldDescriptor (TX6 k).2.2.1 = some (tyX6 k) := by decide +kernel
abbrev cX6_init : ByteArray := prog_8_method_1_code
def yX6_init : MethodName := ⟨RX6, "<init>", "()V"⟩
abbrev cX6_renew : ByteArray := prog_8_method_2_code
def yX6_renew : MethodName := ⟨RX6, "renew", "(II)V"⟩
def RX7 : String := "ToolRoom$Row"
def TX7 : u_T := fun k => match k with
  | 0 => ("ToolRoom$Holder", "size", "I", false)
  | _ => ("ToolRoom$Row", "numbers", "[I", true)
def tyX7 : Nat → FieldType := fun k => match k with
  | 0 => .int
  | _ => .array .int
abbrev wsX70 : List Cond := u_ws RX7 TX7 2
theorem nmX7 : ∀ a, a < 2 → ∀ b, b < 2 → a ≠ b → (TX7 a).2.1 ≠ (TX7 b).2.1 := by decide +kernel
theorem tyX7_ok : ∀ k, k < 2 → parseFieldDescriptor (TX7 k).2.2.1 = some (tyX7 k) := by decide +kernel
abbrev cX7_init : ByteArray := prog_9_method_1_code
def yX7_init : MethodName := ⟨RX7, "<init>", "(I)V"⟩
abbrev cX7_renew : ByteArray := prog_9_method_2_code
def yX7_renew : MethodName := ⟨RX7, "renew", "(I)V"⟩
def RX8 : String := "ToolRoom$Tool"
def TX8 : u_T := fun k => match k with
  | _ => ("", "", "", false)
def tyX8 : Nat → FieldType := fun k => match k with
  | _ => .int
abbrev wsX80 : List Cond := u_ws RX8 TX8 0
theorem nmX8 : ∀ a, a < 0 → ∀ b, b < 0 → a ≠ b → (TX8 a).2.1 ≠ (TX8 b).2.1 := by decide +kernel
theorem tyX8_ok : ∀ k, k < 0 → parseFieldDescriptor (TX8 k).2.2.1 = some (tyX8 k) := by decide +kernel
abbrev cX8_init : ByteArray := prog_10_method_1_code
def yX8_init : MethodName := ⟨RX8, "<init>", "()V"⟩
def RX9 : String := "ToolRoom"
def TX9 : u_T := fun k => match k with
  | 0 => ("ToolRoom", "hooks", "[LToolRoom$Tool;", true)
  | 1 => ("ToolRoom", "trays", "[LToolRoom$Row;", true)
  | 2 => ("ToolRoom", "racks", "[LToolRoom$Rack;", true)
  | 3 => ("ToolRoom", "grids", "[LToolRoom$Grid;", true)
  | 4 => ("ToolRoom", "alarmIsThere", "[Z", true)
  | 5 => ("ToolRoom", "alarmNumbers", "[I", true)
  | 6 => ("ToolRoom", "met", "[I", true)
  | 7 => ("ToolRoom", "latest", "I", false)
  | 8 => ("ToolRoom", "uses", "I", false)
  | _ => ("ToolRoom", "reason", "I", false)
def tyX9 : Nat → FieldType := fun k => match k with
  | 0 => .array (.object "ToolRoom$Tool")
  | 1 => .array (.object "ToolRoom$Row")
  | 2 => .array (.object "ToolRoom$Rack")
  | 3 => .array (.object "ToolRoom$Grid")
  | 4 => .array .boolean
  | 5 => .array .int
  | 6 => .array .int
  | 7 => .int
  | 8 => .int
  | _ => .int
abbrev wsX90 : List Cond := u_ws RX9 TX9 10
theorem nmX9 : ∀ a, a < 10 → ∀ b, b < 10 → a ≠ b → (TX9 a).2.1 ≠ (TX9 b).2.1 := by decide +kernel
theorem tyX9_ok : ∀ k, k < 10 → parseFieldDescriptor (TX9 k).2.2.1 = some (tyX9 k) := by decide +kernel
abbrev cX9_init : ByteArray := prog_1_method_1_code
def yX9_init : MethodName := ⟨RX9, "<init>", "()V"⟩
abbrev cX9_tool : ByteArray := prog_1_method_2_code
def yX9_tool : MethodName := ⟨RX9, "tool", "(II)I"⟩
abbrev cX9_hang : ByteArray := prog_1_method_3_code
def yX9_hang : MethodName := ⟨RX9, "hang", "(II)I"⟩
abbrev cX9_unhang : ByteArray := prog_1_method_4_code
def yX9_unhang : MethodName := ⟨RX9, "unhang", "(I)I"⟩
abbrev cX9_kind : ByteArray := prog_1_method_5_code
def yX9_kind : MethodName := ⟨RX9, "kind", "(I)I"⟩
abbrev cX9_card : ByteArray := prog_1_method_6_code
def yX9_card : MethodName := ⟨RX9, "card", "(II)I"⟩
abbrev cX9_uncard : ByteArray := prog_1_method_7_code
def yX9_uncard : MethodName := ⟨RX9, "uncard", "(I)I"⟩
abbrev cX9_rename : ByteArray := prog_1_method_8_code
def yX9_rename : MethodName := ⟨RX9, "rename", "(II)I"⟩
abbrev cX9_of : ByteArray := prog_1_method_9_code
def yX9_of : MethodName := ⟨RX9, "of", "(II)I"⟩
abbrev cX9_edgeOf : ByteArray := prog_1_method_10_code
def yX9_edgeOf : MethodName := ⟨RX9, "edgeOf", "(LToolRoom$Tool;)I"⟩
abbrev cX9_hone : ByteArray := prog_1_method_11_code
def yX9_hone : MethodName := ⟨RX9, "hone", "(II)I"⟩
abbrev cX9_use : ByteArray := prog_1_method_12_code
def yX9_use : MethodName := ⟨RX9, "use", "(II)I"⟩
abbrev cX9_shift : ByteArray := prog_1_method_13_code
def yX9_shift : MethodName := ⟨RX9, "shift", "(IIII)I"⟩
abbrev cX9_shiftOnce : ByteArray := prog_1_method_14_code
def yX9_shiftOnce : MethodName := ⟨RX9, "shiftOnce", "(IILToolRoom$Row;I)I"⟩
abbrev cX9_newTool : ByteArray := prog_1_method_15_code
def yX9_newTool : MethodName := ⟨RX9, "newTool", "(I)LToolRoom$Tool;"⟩
abbrev cX9_tray : ByteArray := prog_1_method_16_code
def yX9_tray : MethodName := ⟨RX9, "tray", "(II)I"⟩
abbrev cX9_lose : ByteArray := prog_1_method_17_code
def yX9_lose : MethodName := ⟨RX9, "lose", "(II)I"⟩
abbrev cX9_put : ByteArray := prog_1_method_18_code
def yX9_put : MethodName := ⟨RX9, "put", "(III)I"⟩
abbrev cX9_get : ByteArray := prog_1_method_19_code
def yX9_get : MethodName := ⟨RX9, "get", "(II)I"⟩
abbrev cX9_length : ByteArray := prog_1_method_20_code
def yX9_length : MethodName := ⟨RX9, "length", "(II)I"⟩
abbrev cX9_rack : ByteArray := prog_1_method_21_code
def yX9_rack : MethodName := ⟨RX9, "rack", "(III)I"⟩
abbrev cX9_lay : ByteArray := prog_1_method_22_code
def yX9_lay : MethodName := ⟨RX9, "lay", "(III)I"⟩
abbrev cX9_fetch : ByteArray := prog_1_method_23_code
def yX9_fetch : MethodName := ⟨RX9, "fetch", "(IIII)I"⟩
abbrev cX9_grid : ByteArray := prog_1_method_24_code
def yX9_grid : MethodName := ⟨RX9, "grid", "(III)I"⟩
abbrev cX9_strike : ByteArray := prog_1_method_25_code
def yX9_strike : MethodName := ⟨RX9, "strike", "(II)I"⟩
abbrev cX9_mark : ByteArray := prog_1_method_26_code
def yX9_mark : MethodName := ⟨RX9, "mark", "(IIII)I"⟩
abbrev cX9_cell : ByteArray := prog_1_method_27_code
def yX9_cell : MethodName := ⟨RX9, "cell", "(III)I"⟩
abbrev cX9_holderOrNull : ByteArray := prog_1_method_28_code
def yX9_holderOrNull : MethodName := ⟨RX9, "holderOrNull", "(II)LToolRoom$Holder;"⟩
abbrev cX9_failureAt : ByteArray := prog_1_method_29_code
def yX9_failureAt : MethodName := ⟨RX9, "failureAt", "(LToolRoom$Holder;I)I"⟩
abbrev cX9_failureAtCell : ByteArray := prog_1_method_30_code
def yX9_failureAtCell : MethodName := ⟨RX9, "failureAtCell", "(LToolRoom$Grid;II)I"⟩
abbrev cX9_isOfSort : ByteArray := prog_1_method_31_code
def yX9_isOfSort : MethodName := ⟨RX9, "isOfSort", "(LToolRoom$Tool;I)Z"⟩
abbrev cX9_alarm : ByteArray := prog_1_method_32_code
def yX9_alarm : MethodName := ⟨RX9, "alarm", "(II)I"⟩
abbrev cX9_calm : ByteArray := prog_1_method_33_code
def yX9_calm : MethodName := ⟨RX9, "calm", "(I)I"⟩
abbrev cX9_let : ByteArray := prog_1_method_34_code
def yX9_let : MethodName := ⟨RX9, "let", "(I)I"⟩
abbrev cX9_why : ByteArray := prog_1_method_35_code
def yX9_why : MethodName := ⟨RX9, "why", "()I"⟩
abbrev cX9_count : ByteArray := prog_1_method_36_code
def yX9_count : MethodName := ⟨RX9, "count", "(I)I"⟩
abbrev cX9_done : ByteArray := prog_1_method_37_code
def yX9_done : MethodName := ⟨RX9, "done", "(I)I"⟩
abbrev cX9_refuse : ByteArray := prog_1_method_38_code
def yX9_refuse : MethodName := ⟨RX9, "refuse", "(I)I"⟩
abbrev cX9_fail : ByteArray := prog_1_method_39_code
def yX9_fail : MethodName := ⟨RX9, "fail", "(I)I"⟩
abbrev cX9_refuseWithZero : ByteArray := prog_1_method_40_code
def yX9_refuseWithZero : MethodName := ⟨RX9, "refuseWithZero", "(I)I"⟩
abbrev cX9_failWithZero : ByteArray := prog_1_method_41_code
def yX9_failWithZero : MethodName := ⟨RX9, "failWithZero", "(I)I"⟩
abbrev cX9_isWithin : ByteArray := prog_1_method_42_code
def yX9_isWithin : MethodName := ⟨RX9, "isWithin", "(II)Z"⟩
def RX10 : String := "ToolRoomModel"
def TX10 : u_T := fun k => match k with
  | 0 => ("ToolRoomModel", "hooks", "[I", true)
  | 1 => ("ToolRoomModel", "tools", "I", false)
  | 2 => ("ToolRoomModel", "kinds", "[I", true)
  | 3 => ("ToolRoomModel", "wears", "[I", true)
  | 4 => ("ToolRoomModel", "edges", "[I", true)
  | 5 => ("ToolRoomModel", "carded", "[Z", true)
  | 6 => ("ToolRoomModel", "names", "[I", true)
  | 7 => ("ToolRoomModel", "traySize", "[I", true)
  | 8 => ("ToolRoomModel", "trays", "[I", true)
  | 9 => ("ToolRoomModel", "rackSize", "[I", true)
  | 10 => ("ToolRoomModel", "rackSort", "[I", true)
  | 11 => ("ToolRoomModel", "racks", "[I", true)
  | 12 => ("ToolRoomModel", "gridSize", "[I", true)
  | 13 => ("ToolRoomModel", "rowSize", "[I", true)
  | 14 => ("ToolRoomModel", "cells", "[I", true)
  | 15 => ("ToolRoomModel", "isAlarm", "[Z", true)
  | 16 => ("ToolRoomModel", "numbers", "[I", true)
  | 17 => ("ToolRoomModel", "why", "I", false)
  | 18 => ("ToolRoomModel", "latest", "I", false)
  | 19 => ("ToolRoomModel", "met", "[I", true)
  | _ => ("ToolRoomModel", "uses", "I", false)
def tyX10 : Nat → FieldType := fun k => match k with
  | 0 => .array .int
  | 1 => .int
  | 2 => .array .int
  | 3 => .array .int
  | 4 => .array .int
  | 5 => .array .boolean
  | 6 => .array .int
  | 7 => .array .int
  | 8 => .array .int
  | 9 => .array .int
  | 10 => .array .int
  | 11 => .array .int
  | 12 => .array .int
  | 13 => .array .int
  | 14 => .array .int
  | 15 => .array .boolean
  | 16 => .array .int
  | 17 => .int
  | 18 => .int
  | 19 => .array .int
  | _ => .int
abbrev wsX100 : List Cond := u_ws RX10 TX10 21
theorem nmX10 : ∀ a, a < 21 → ∀ b, b < 21 → a ≠ b → (TX10 a).2.1 ≠ (TX10 b).2.1 := by decide +kernel
theorem tyX10_ok : ∀ k, k < 21 → parseFieldDescriptor (TX10 k).2.2.1 = some (tyX10 k) := by decide +kernel
abbrev cX10_init : ByteArray := prog_12_method_2_code
def yX10_init : MethodName := ⟨RX10, "<init>", "()V"⟩
abbrev cX10_in : ByteArray := prog_12_method_3_code
def yX10_in : MethodName := ⟨RX10, "in", "(III)Z"⟩
abbrev cX10_says : ByteArray := prog_12_method_4_code
def yX10_says : MethodName := ⟨RX10, "says", "(I)I"⟩
abbrev cX10_refuses : ByteArray := prog_12_method_5_code
def yX10_refuses : MethodName := ⟨RX10, "refuses", "(I)I"⟩
abbrev cX10_fails : ByteArray := prog_12_method_6_code
def yX10_fails : MethodName := ⟨RX10, "fails", "(I)I"⟩
abbrev cX10_tool : ByteArray := prog_12_method_7_code
def yX10_tool : MethodName := ⟨RX10, "tool", "(II)I"⟩
abbrev cX10_hang : ByteArray := prog_12_method_8_code
def yX10_hang : MethodName := ⟨RX10, "hang", "(II)I"⟩
abbrev cX10_unhang : ByteArray := prog_12_method_9_code
def yX10_unhang : MethodName := ⟨RX10, "unhang", "(I)I"⟩
abbrev cX10_kind : ByteArray := prog_12_method_10_code
def yX10_kind : MethodName := ⟨RX10, "kind", "(I)I"⟩
abbrev cX10_card : ByteArray := prog_12_method_11_code
def yX10_card : MethodName := ⟨RX10, "card", "(II)I"⟩
abbrev cX10_uncard : ByteArray := prog_12_method_12_code
def yX10_uncard : MethodName := ⟨RX10, "uncard", "(I)I"⟩
abbrev cX10_rename : ByteArray := prog_12_method_13_code
def yX10_rename : MethodName := ⟨RX10, "rename", "(II)I"⟩
abbrev cX10_isBlade : ByteArray := prog_12_method_14_code
def yX10_isBlade : MethodName := ⟨RX10, "isBlade", "(I)Z"⟩
abbrev cX10_weight : ByteArray := prog_12_method_15_code
def yX10_weight : MethodName := ⟨RX10, "weight", "(I)I"⟩
abbrev cX10_of : ByteArray := prog_12_method_16_code
def yX10_of : MethodName := ⟨RX10, "of", "(II)I"⟩
abbrev cX10_hone : ByteArray := prog_12_method_17_code
def yX10_hone : MethodName := ⟨RX10, "hone", "(II)I"⟩
abbrev cX10_used : ByteArray := prog_12_method_18_code
def yX10_used : MethodName := ⟨RX10, "used", "(II)I"⟩
abbrev cX10_use : ByteArray := prog_12_method_19_code
def yX10_use : MethodName := ⟨RX10, "use", "(II)I"⟩
abbrev cX10_shift : ByteArray := prog_12_method_20_code
def yX10_shift : MethodName := ⟨RX10, "shift", "(IIII)I"⟩
abbrev cX10_tray : ByteArray := prog_12_method_21_code
def yX10_tray : MethodName := ⟨RX10, "tray", "(II)I"⟩
abbrev cX10_isThing : ByteArray := prog_12_method_22_code
def yX10_isThing : MethodName := ⟨RX10, "isThing", "(II)Z"⟩
abbrev cX10_sizeOf : ByteArray := prog_12_method_23_code
def yX10_sizeOf : MethodName := ⟨RX10, "sizeOf", "(II)I"⟩
abbrev cX10_lose : ByteArray := prog_12_method_24_code
def yX10_lose : MethodName := ⟨RX10, "lose", "(II)I"⟩
abbrev cX10_lacks : ByteArray := prog_12_method_25_code
def yX10_lacks : MethodName := ⟨RX10, "lacks", "(II)I"⟩
abbrev cX10_put : ByteArray := prog_12_method_26_code
def yX10_put : MethodName := ⟨RX10, "put", "(III)I"⟩
abbrev cX10_get : ByteArray := prog_12_method_27_code
def yX10_get : MethodName := ⟨RX10, "get", "(II)I"⟩
abbrev cX10_length : ByteArray := prog_12_method_28_code
def yX10_length : MethodName := ⟨RX10, "length", "(II)I"⟩
abbrev cX10_rack : ByteArray := prog_12_method_29_code
def yX10_rack : MethodName := ⟨RX10, "rack", "(III)I"⟩
abbrev cX10_isOf : ByteArray := prog_12_method_30_code
def yX10_isOf : MethodName := ⟨RX10, "isOf", "(II)Z"⟩
abbrev cX10_lay : ByteArray := prog_12_method_31_code
def yX10_lay : MethodName := ⟨RX10, "lay", "(III)I"⟩
abbrev cX10_fetch : ByteArray := prog_12_method_32_code
def yX10_fetch : MethodName := ⟨RX10, "fetch", "(IIII)I"⟩
abbrev cX10_grid : ByteArray := prog_12_method_33_code
def yX10_grid : MethodName := ⟨RX10, "grid", "(III)I"⟩
abbrev cX10_strike : ByteArray := prog_12_method_34_code
def yX10_strike : MethodName := ⟨RX10, "strike", "(II)I"⟩
abbrev cX10_lacksCell : ByteArray := prog_12_method_35_code
def yX10_lacksCell : MethodName := ⟨RX10, "lacksCell", "(III)I"⟩
abbrev cX10_mark : ByteArray := prog_12_method_36_code
def yX10_mark : MethodName := ⟨RX10, "mark", "(IIII)I"⟩
abbrev cX10_cell : ByteArray := prog_12_method_37_code
def yX10_cell : MethodName := ⟨RX10, "cell", "(III)I"⟩
abbrev cX10_alarm : ByteArray := prog_12_method_38_code
def yX10_alarm : MethodName := ⟨RX10, "alarm", "(II)I"⟩
abbrev cX10_calm : ByteArray := prog_12_method_39_code
def yX10_calm : MethodName := ⟨RX10, "calm", "(I)I"⟩
abbrev cX10_let : ByteArray := prog_12_method_40_code
def yX10_let : MethodName := ⟨RX10, "let", "(I)I"⟩
abbrev cX10_why : ByteArray := prog_12_method_41_code
def yX10_why : MethodName := ⟨RX10, "why", "()I"⟩
abbrev cX10_count : ByteArray := prog_12_method_42_code
def yX10_count : MethodName := ⟨RX10, "count", "(I)I"⟩
def RL : String := "ToolRoomLaw"
abbrev cL_law : ByteArray := code
def yL_law : MethodName := ⟨RL, "law", "([I)Z"⟩
abbrev vwCl : List vw_C := [(RX0, TX0, 4), (RX1, TX1, 4), (RX2, TX2, 3), (RX3, TX3, 2), (RX4, TX4, 3), (RX6, TX6, 3), (RX7, TX7, 2), (RX9, TX9, 10), (RX10, TX10, 21)]
end
section
def wl : List Cond := lw_tbl.filter goodWord
theorem wl_in : ∀ w ∈ wl, w ∈ lw_tbl := fun w h => (List.mem_filter.mp h).1
theorem wl_good : ∀ w ∈ wl, (w.onTables && w.keeps) = true ∨ ∃ ty, w = .arrayClass ty := fun w h => good_of_word (List.mem_filter.mp h).2
theorem wl_of {w : Cond} {i : Nat} (h : tables_1[i]? = some w) (g : goodWord w = true) : w ∈ wl := List.mem_filter.mpr ⟨List.mem_append_right _ (List.mem_of_getElem? h), g⟩
theorem wl_sel {w : Cond} {i : Nat} (h : (k2_sels lw_privs)[i]? = some w) (g : goodWord w = true) : w ∈ wl := List.mem_filter.mpr ⟨List.mem_append_left _ (List.mem_of_getElem? h), g⟩
theorem tb_0 : Cond.initialized RL ∈ wl := wl_of (i := 0) (by decide +kernel) rfl
theorem tb_1 : Cond.initialized RX9 ∈ wl := wl_of (i := 1) (by decide +kernel) rfl
theorem tb_2 : Cond.initialized RX5 ∈ wl := wl_of (i := 2) (by decide +kernel) rfl
theorem tb_3 : Cond.initialized RX7 ∈ wl := wl_of (i := 3) (by decide +kernel) rfl
theorem tb_4 : Cond.initialized RX6 ∈ wl := wl_of (i := 4) (by decide +kernel) rfl
theorem tb_5 : Cond.initialized RX3 ∈ wl := wl_of (i := 5) (by decide +kernel) rfl
theorem tb_6 : Cond.initialized RX10 ∈ wl := wl_of (i := 6) (by decide +kernel) rfl
theorem tb_7 : Cond.initialized RX8 ∈ wl := wl_of (i := 7) (by decide +kernel) rfl
theorem tb_8 : Cond.initialized RX4 ∈ wl := wl_of (i := 8) (by decide +kernel) rfl
theorem tb_9 : Cond.initialized RX0 ∈ wl := wl_of (i := 9) (by decide +kernel) rfl
theorem tb_10 : Cond.initialized RX1 ∈ wl := wl_of (i := 10) (by decide +kernel) rfl
theorem tb_11 : Cond.initialized RX2 ∈ wl := wl_of (i := 11) (by decide +kernel) rfl
theorem tb_12 : Cond.classLink RL 7 RX9 ∈ wl := wl_of (i := 12) (by decide +kernel) rfl
theorem tb_13 : Cond.instantiable RX9 10 ∈ wl := wl_of (i := 13) (by decide +kernel) rfl
theorem tb_14 : Cond.methodLink RL 9 yX9_init ∈ wl := wl_of (i := 14) (by decide +kernel) rfl
theorem tb_15 : Cond.instanceMethod yX9_init ∈ wl := wl_of (i := 15) (by decide +kernel) rfl
theorem tb_16 : Cond.code yX9_init cX9_init 2 (none : Option FieldType) ∈ wl := wl_of (i := 16) (by decide +kernel) rfl
theorem tb_17 : Cond.methodLink RX9 1 objectInit ∈ wl := wl_of (i := 17) (by decide +kernel) rfl
theorem tb_18 : Cond.instanceMethod objectInit ∈ wl := wl_of (i := 18) (by decide +kernel) rfl
theorem tb_19 : Cond.code objectInit object_method_1_code 1 (none : Option FieldType) ∈ wl := wl_of (i := 19) (by decide +kernel) rfl
theorem tb_20 : Cond.classLink RX9 9 RX8 ∈ wl := wl_of (i := 20) (by decide +kernel) rfl
theorem tb_22 : Cond.classLink RX9 15 RX7 ∈ wl := wl_of (i := 22) (by decide +kernel) rfl
theorem tb_24 : Cond.classLink RX9 21 RX6 ∈ wl := wl_of (i := 24) (by decide +kernel) rfl
theorem tb_26 : Cond.classLink RX9 27 RX3 ∈ wl := wl_of (i := 26) (by decide +kernel) rfl
theorem tb_28 : Cond.instantiable RX7 2 ∈ wl := wl_of (i := 28) (by decide +kernel) rfl
theorem tb_29 : Cond.methodLink RX9 54 yX7_init ∈ wl := wl_of (i := 29) (by decide +kernel) rfl
theorem tb_30 : Cond.instanceMethod yX7_init ∈ wl := wl_of (i := 30) (by decide +kernel) rfl
theorem tb_31 : Cond.code yX7_init cX7_init 2 (none : Option FieldType) ∈ wl := wl_of (i := 31) (by decide +kernel) rfl
theorem tb_33 : Cond.instanceMethod yX5_init ∈ wl := wl_of (i := 33) (by decide +kernel) rfl
theorem tb_34 : Cond.code yX5_init cX5_init 1 (none : Option FieldType) ∈ wl := wl_of (i := 34) (by decide +kernel) rfl
theorem tb_35 : Cond.methodLink RX5 1 objectInit ∈ wl := wl_of (i := 35) (by decide +kernel) rfl
theorem tb_36 : Cond.fieldLink RX7 7 "ToolRoom$Row" "numbers" "[I" ∈ wl := wl_of (i := 36) (by decide +kernel) rfl
theorem tb_37 : Cond.fieldLink RX9 120 "ToolRoom$Row" "numbers" "[I" ∈ wl := wl_of (i := 37) (by decide +kernel) rfl
theorem tb_38 : Cond.fieldLink RX5 9 "ToolRoom$Holder" "size" "I" ∈ wl := wl_of (i := 38) (by decide +kernel) rfl
theorem tb_39 : Cond.fieldLink RX3 23 "ToolRoom$Grid" "size" "I" ∈ wl := wl_of (i := 39) (by decide +kernel) rfl
theorem tb_40 : Cond.sameField "ToolRoom$Grid" "ToolRoom$Holder" "size" "I" ∈ wl := wl_of (i := 40) (by decide +kernel) rfl
theorem tb_41 : Cond.fieldLink RX7 13 "ToolRoom$Row" "size" "I" ∈ wl := wl_of (i := 41) (by decide +kernel) rfl
theorem tb_42 : Cond.sameField "ToolRoom$Row" "ToolRoom$Holder" "size" "I" ∈ wl := wl_of (i := 42) (by decide +kernel) rfl
theorem tb_43 : Cond.fieldLink RX6 21 "ToolRoom$Rack" "size" "I" ∈ wl := wl_of (i := 43) (by decide +kernel) rfl
theorem tb_44 : Cond.sameField "ToolRoom$Rack" "ToolRoom$Holder" "size" "I" ∈ wl := wl_of (i := 44) (by decide +kernel) rfl
theorem tb_45 : Cond.fieldLink RX9 149 "ToolRoom$Holder" "size" "I" ∈ wl := wl_of (i := 45) (by decide +kernel) rfl
theorem tb_46 : Cond.laysFinal "ToolRoom$Row" "ToolRoom$Row" "numbers" "[I" ∈ wl := wl_of (i := 46) (by decide +kernel) rfl
theorem tb_48 : Cond.lays "ToolRoom$Row" "ToolRoom$Holder" "size" "I" ∈ wl := wl_of (i := 48) (by decide +kernel) rfl
theorem tb_50 : Cond.superclass RX7 RX5 ∈ wl := wl_of (i := 50) (by decide +kernel) rfl
theorem tb_51 : Cond.arrayClass FieldType.boolean ∈ wl := wl_of (i := 51) (by decide +kernel) rfl
theorem tb_52 : Cond.arrayClass FieldType.int ∈ wl := wl_of (i := 52) (by decide +kernel) rfl
theorem tb_53 : Cond.instantiable RX6 3 ∈ wl := wl_of (i := 53) (by decide +kernel) rfl
theorem tb_55 : Cond.instanceMethod yX6_init ∈ wl := wl_of (i := 55) (by decide +kernel) rfl
theorem tb_56 : Cond.code yX6_init cX6_init 1 (none : Option FieldType) ∈ wl := wl_of (i := 56) (by decide +kernel) rfl
theorem tb_58 : Cond.classLink RX6 9 RX8 ∈ wl := wl_of (i := 58) (by decide +kernel) rfl
theorem tb_59 : Cond.fieldLink RX6 11 "ToolRoom$Rack" "places" "[LToolRoom$Tool;" ∈ wl := wl_of (i := 59) (by decide +kernel) rfl
theorem tb_60 : Cond.fieldLink RX9 162 "ToolRoom$Rack" "places" "[LToolRoom$Tool;" ∈ wl := wl_of (i := 60) (by decide +kernel) rfl
theorem tb_61 : Cond.fieldLink RX6 17 "ToolRoom$Rack" "sort" "I" ∈ wl := wl_of (i := 61) (by decide +kernel) rfl
theorem tb_62 : Cond.fieldLink RX9 155 "ToolRoom$Rack" "sort" "I" ∈ wl := wl_of (i := 62) (by decide +kernel) rfl
theorem tb_63 : Cond.laysFinal "ToolRoom$Rack" "ToolRoom$Rack" "places" "[LToolRoom$Tool;" ∈ wl := wl_of (i := 63) (by decide +kernel) rfl
theorem tb_65 : Cond.lays "ToolRoom$Rack" "ToolRoom$Rack" "sort" "I" ∈ wl := wl_of (i := 65) (by decide +kernel) rfl
theorem tb_67 : Cond.lays "ToolRoom$Rack" "ToolRoom$Holder" "size" "I" ∈ wl := wl_of (i := 67) (by decide +kernel) rfl
theorem tb_68 : Cond.superclass RX6 RX5 ∈ wl := wl_of (i := 68) (by decide +kernel) rfl
theorem tb_69 : Cond.instantiable RX3 2 ∈ wl := wl_of (i := 69) (by decide +kernel) rfl
theorem tb_70 : Cond.methodLink RX9 58 yX3_init ∈ wl := wl_of (i := 70) (by decide +kernel) rfl
theorem tb_71 : Cond.instanceMethod yX3_init ∈ wl := wl_of (i := 71) (by decide +kernel) rfl
theorem tb_72 : Cond.code yX3_init cX3_init 2 (none : Option FieldType) ∈ wl := wl_of (i := 72) (by decide +kernel) rfl
theorem tb_74 : Cond.classLink RX3 9 RX7 ∈ wl := wl_of (i := 74) (by decide +kernel) rfl
theorem tb_75 : Cond.methodLink RX3 17 yX7_init ∈ wl := wl_of (i := 75) (by decide +kernel) rfl
theorem tb_76 : Cond.fieldLink RX3 11 "ToolRoom$Grid" "rows" "[LToolRoom$Row;" ∈ wl := wl_of (i := 76) (by decide +kernel) rfl
theorem tb_77 : Cond.fieldLink RX9 166 "ToolRoom$Grid" "rows" "[LToolRoom$Row;" ∈ wl := wl_of (i := 77) (by decide +kernel) rfl
theorem tb_78 : Cond.laysFinal "ToolRoom$Grid" "ToolRoom$Grid" "rows" "[LToolRoom$Row;" ∈ wl := wl_of (i := 78) (by decide +kernel) rfl
theorem tb_80 : Cond.lays "ToolRoom$Grid" "ToolRoom$Holder" "size" "I" ∈ wl := wl_of (i := 80) (by decide +kernel) rfl
theorem tb_81 : Cond.superclass RX3 RX5 ∈ wl := wl_of (i := 81) (by decide +kernel) rfl
theorem tb_82 : Cond.fieldLink RX9 11 "ToolRoom" "hooks" "[LToolRoom$Tool;" ∈ wl := wl_of (i := 82) (by decide +kernel) rfl
theorem tb_83 : Cond.fieldLink RX9 17 "ToolRoom" "trays" "[LToolRoom$Row;" ∈ wl := wl_of (i := 83) (by decide +kernel) rfl
theorem tb_84 : Cond.fieldLink RX9 23 "ToolRoom" "racks" "[LToolRoom$Rack;" ∈ wl := wl_of (i := 84) (by decide +kernel) rfl
theorem tb_85 : Cond.fieldLink RX9 29 "ToolRoom" "grids" "[LToolRoom$Grid;" ∈ wl := wl_of (i := 85) (by decide +kernel) rfl
theorem tb_86 : Cond.fieldLink RX9 33 "ToolRoom" "alarmIsThere" "[Z" ∈ wl := wl_of (i := 86) (by decide +kernel) rfl
theorem tb_87 : Cond.fieldLink RX9 37 "ToolRoom" "alarmNumbers" "[I" ∈ wl := wl_of (i := 87) (by decide +kernel) rfl
theorem tb_88 : Cond.fieldLink RX9 41 "ToolRoom" "met" "[I" ∈ wl := wl_of (i := 88) (by decide +kernel) rfl
theorem tb_89 : Cond.fieldLink RX9 44 "ToolRoom" "latest" "I" ∈ wl := wl_of (i := 89) (by decide +kernel) rfl
theorem tb_90 : Cond.fieldLink RX9 48 "ToolRoom" "uses" "I" ∈ wl := wl_of (i := 90) (by decide +kernel) rfl
theorem tb_91 : Cond.fieldLink RX9 51 "ToolRoom" "reason" "I" ∈ wl := wl_of (i := 91) (by decide +kernel) rfl
theorem tb_92 : Cond.laysFinal "ToolRoom" "ToolRoom" "hooks" "[LToolRoom$Tool;" ∈ wl := wl_of (i := 92) (by decide +kernel) rfl
theorem tb_94 : Cond.laysFinal "ToolRoom" "ToolRoom" "trays" "[LToolRoom$Row;" ∈ wl := wl_of (i := 94) (by decide +kernel) rfl
theorem tb_96 : Cond.laysFinal "ToolRoom" "ToolRoom" "racks" "[LToolRoom$Rack;" ∈ wl := wl_of (i := 96) (by decide +kernel) rfl
theorem tb_98 : Cond.laysFinal "ToolRoom" "ToolRoom" "grids" "[LToolRoom$Grid;" ∈ wl := wl_of (i := 98) (by decide +kernel) rfl
theorem tb_100 : Cond.laysFinal "ToolRoom" "ToolRoom" "alarmIsThere" "[Z" ∈ wl := wl_of (i := 100) (by decide +kernel) rfl
theorem tb_102 : Cond.laysFinal "ToolRoom" "ToolRoom" "alarmNumbers" "[I" ∈ wl := wl_of (i := 102) (by decide +kernel) rfl
theorem tb_104 : Cond.laysFinal "ToolRoom" "ToolRoom" "met" "[I" ∈ wl := wl_of (i := 104) (by decide +kernel) rfl
theorem tb_106 : Cond.lays "ToolRoom" "ToolRoom" "latest" "I" ∈ wl := wl_of (i := 106) (by decide +kernel) rfl
theorem tb_108 : Cond.lays "ToolRoom" "ToolRoom" "uses" "I" ∈ wl := wl_of (i := 108) (by decide +kernel) rfl
theorem tb_110 : Cond.lays "ToolRoom" "ToolRoom" "reason" "I" ∈ wl := wl_of (i := 110) (by decide +kernel) rfl
theorem tb_112 : Cond.superclass RX9 "java/lang/Object" ∈ wl := wl_of (i := 112) (by decide +kernel) rfl
theorem tb_113 : Cond.methodLink RL 13 yX9_tool ∈ wl := wl_of (i := 113) (by decide +kernel) rfl
theorem tb_114 : Cond.instanceMethod yX9_tool ∈ wl := wl_of (i := 114) (by decide +kernel) rfl
theorem tb_115 : Cond.selects RX9 yX9_tool yX9_tool ∈ wl := wl_of (i := 115) (by decide +kernel) rfl
theorem tb_116 : Cond.code yX9_tool cX9_tool 4 (some .int) ∈ wl := wl_of (i := 116) (by decide +kernel) rfl
theorem tb_117 : Cond.methodLink RX9 59 yX9_isWithin ∈ wl := wl_of (i := 117) (by decide +kernel) rfl
theorem tb_118 : Cond.static yX9_isWithin ∈ wl := wl_of (i := 118) (by decide +kernel) rfl
theorem tb_119 : Cond.code yX9_isWithin cX9_isWithin 2 (some .boolean) ∈ wl := wl_of (i := 119) (by decide +kernel) rfl
theorem tb_120 : Cond.methodLink RX9 63 yX9_refuse ∈ wl := wl_of (i := 120) (by decide +kernel) rfl
theorem tb_122 : Cond.instanceMethod yX9_refuse ∈ wl := wl_of (i := 122) (by decide +kernel) rfl
theorem tb_123 : Cond.code yX9_refuse cX9_refuse 2 (some .int) ∈ wl := wl_of (i := 123) (by decide +kernel) rfl
theorem tb_124 : Cond.methodLink RX9 67 yX9_newTool ∈ wl := wl_of (i := 124) (by decide +kernel) rfl
theorem tb_125 : Cond.static yX9_newTool ∈ wl := wl_of (i := 125) (by decide +kernel) rfl
theorem tb_126 : Cond.code yX9_newTool cX9_newTool 1 (some (FieldType.object "ToolRoom$Tool")) ∈ wl := wl_of (i := 126) (by decide +kernel) rfl
theorem tb_127 : Cond.classLink RX9 123 RX4 ∈ wl := wl_of (i := 127) (by decide +kernel) rfl
theorem tb_128 : Cond.instantiable RX4 3 ∈ wl := wl_of (i := 128) (by decide +kernel) rfl
theorem tb_130 : Cond.instanceMethod yX4_init ∈ wl := wl_of (i := 130) (by decide +kernel) rfl
theorem tb_131 : Cond.code yX4_init cX4_init 1 (none : Option FieldType) ∈ wl := wl_of (i := 131) (by decide +kernel) rfl
theorem tb_133 : Cond.instanceMethod yX8_init ∈ wl := wl_of (i := 133) (by decide +kernel) rfl
theorem tb_134 : Cond.code yX8_init cX8_init 1 (none : Option FieldType) ∈ wl := wl_of (i := 134) (by decide +kernel) rfl
theorem tb_135 : Cond.methodLink RX8 1 objectInit ∈ wl := wl_of (i := 135) (by decide +kernel) rfl
theorem tb_136 : Cond.fieldLink RX8 7 "ToolRoom$Tool" "wear" "I" ∈ wl := wl_of (i := 136) (by decide +kernel) rfl
theorem tb_137 : Cond.fieldLink RX4 9 "ToolRoom$Hammer" "wear" "I" ∈ wl := wl_of (i := 137) (by decide +kernel) rfl
theorem tb_138 : Cond.sameField "ToolRoom$Hammer" "ToolRoom$Tool" "wear" "I" ∈ wl := wl_of (i := 138) (by decide +kernel) rfl
theorem tb_139 : Cond.fieldLink RX2 9 "ToolRoom$Gauge" "wear" "I" ∈ wl := wl_of (i := 139) (by decide +kernel) rfl
theorem tb_140 : Cond.sameField "ToolRoom$Gauge" "ToolRoom$Tool" "wear" "I" ∈ wl := wl_of (i := 140) (by decide +kernel) rfl
theorem tb_141 : Cond.fieldLink RX0 15 "ToolRoom$Blade" "wear" "I" ∈ wl := wl_of (i := 141) (by decide +kernel) rfl
theorem tb_142 : Cond.sameField "ToolRoom$Blade" "ToolRoom$Tool" "wear" "I" ∈ wl := wl_of (i := 142) (by decide +kernel) rfl
theorem tb_143 : Cond.fieldLink RX9 94 "ToolRoom$Tool" "wear" "I" ∈ wl := wl_of (i := 143) (by decide +kernel) rfl
theorem tb_144 : Cond.fieldLink RX8 13 "ToolRoom$Tool" "hasCard" "Z" ∈ wl := wl_of (i := 144) (by decide +kernel) rfl
theorem tb_145 : Cond.fieldLink RX9 81 "ToolRoom$Tool" "hasCard" "Z" ∈ wl := wl_of (i := 145) (by decide +kernel) rfl
theorem tb_146 : Cond.fieldLink RX8 17 "ToolRoom$Tool" "name" "I" ∈ wl := wl_of (i := 146) (by decide +kernel) rfl
theorem tb_147 : Cond.fieldLink RX9 85 "ToolRoom$Tool" "name" "I" ∈ wl := wl_of (i := 147) (by decide +kernel) rfl
theorem tb_148 : Cond.lays "ToolRoom$Hammer" "ToolRoom$Tool" "wear" "I" ∈ wl := wl_of (i := 148) (by decide +kernel) rfl
theorem tb_150 : Cond.lays "ToolRoom$Hammer" "ToolRoom$Tool" "hasCard" "Z" ∈ wl := wl_of (i := 150) (by decide +kernel) rfl
theorem tb_152 : Cond.lays "ToolRoom$Hammer" "ToolRoom$Tool" "name" "I" ∈ wl := wl_of (i := 152) (by decide +kernel) rfl
theorem tb_154 : Cond.superclass RX4 RX8 ∈ wl := wl_of (i := 154) (by decide +kernel) rfl
theorem tb_155 : Cond.classLink RX9 104 RX0 ∈ wl := wl_of (i := 155) (by decide +kernel) rfl
theorem tb_156 : Cond.instantiable RX0 4 ∈ wl := wl_of (i := 156) (by decide +kernel) rfl
theorem tb_158 : Cond.instanceMethod yX0_init ∈ wl := wl_of (i := 158) (by decide +kernel) rfl
theorem tb_159 : Cond.code yX0_init cX0_init 1 (none : Option FieldType) ∈ wl := wl_of (i := 159) (by decide +kernel) rfl
theorem tb_161 : Cond.fieldLink RX0 9 "ToolRoom$Blade" "edge" "I" ∈ wl := wl_of (i := 161) (by decide +kernel) rfl
theorem tb_162 : Cond.fieldLink RX1 13 "ToolRoom$FileBlade" "edge" "I" ∈ wl := wl_of (i := 162) (by decide +kernel) rfl
theorem tb_163 : Cond.sameField "ToolRoom$FileBlade" "ToolRoom$Blade" "edge" "I" ∈ wl := wl_of (i := 163) (by decide +kernel) rfl
theorem tb_164 : Cond.fieldLink RX9 106 "ToolRoom$Blade" "edge" "I" ∈ wl := wl_of (i := 164) (by decide +kernel) rfl
theorem tb_165 : Cond.lays "ToolRoom$Blade" "ToolRoom$Blade" "edge" "I" ∈ wl := wl_of (i := 165) (by decide +kernel) rfl
theorem tb_167 : Cond.lays "ToolRoom$Blade" "ToolRoom$Tool" "wear" "I" ∈ wl := wl_of (i := 167) (by decide +kernel) rfl
theorem tb_168 : Cond.lays "ToolRoom$Blade" "ToolRoom$Tool" "hasCard" "Z" ∈ wl := wl_of (i := 168) (by decide +kernel) rfl
theorem tb_169 : Cond.lays "ToolRoom$Blade" "ToolRoom$Tool" "name" "I" ∈ wl := wl_of (i := 169) (by decide +kernel) rfl
theorem tb_170 : Cond.superclass RX0 RX8 ∈ wl := wl_of (i := 170) (by decide +kernel) rfl
theorem tb_171 : Cond.classLink RX9 127 RX1 ∈ wl := wl_of (i := 171) (by decide +kernel) rfl
theorem tb_172 : Cond.instantiable RX1 4 ∈ wl := wl_of (i := 172) (by decide +kernel) rfl
theorem tb_174 : Cond.instanceMethod yX1_init ∈ wl := wl_of (i := 174) (by decide +kernel) rfl
theorem tb_175 : Cond.code yX1_init cX1_init 1 (none : Option FieldType) ∈ wl := wl_of (i := 175) (by decide +kernel) rfl
theorem tb_177 : Cond.lays "ToolRoom$FileBlade" "ToolRoom$Blade" "edge" "I" ∈ wl := wl_of (i := 177) (by decide +kernel) rfl
theorem tb_178 : Cond.lays "ToolRoom$FileBlade" "ToolRoom$Tool" "wear" "I" ∈ wl := wl_of (i := 178) (by decide +kernel) rfl
theorem tb_179 : Cond.lays "ToolRoom$FileBlade" "ToolRoom$Tool" "hasCard" "Z" ∈ wl := wl_of (i := 179) (by decide +kernel) rfl
theorem tb_180 : Cond.lays "ToolRoom$FileBlade" "ToolRoom$Tool" "name" "I" ∈ wl := wl_of (i := 180) (by decide +kernel) rfl
theorem tb_181 : Cond.superclass RX1 RX0 ∈ wl := wl_of (i := 181) (by decide +kernel) rfl
theorem tb_182 : Cond.classLink RX9 130 RX2 ∈ wl := wl_of (i := 182) (by decide +kernel) rfl
theorem tb_183 : Cond.instantiable RX2 3 ∈ wl := wl_of (i := 183) (by decide +kernel) rfl
theorem tb_185 : Cond.instanceMethod yX2_init ∈ wl := wl_of (i := 185) (by decide +kernel) rfl
theorem tb_186 : Cond.code yX2_init cX2_init 1 (none : Option FieldType) ∈ wl := wl_of (i := 186) (by decide +kernel) rfl
theorem tb_188 : Cond.lays "ToolRoom$Gauge" "ToolRoom$Tool" "wear" "I" ∈ wl := wl_of (i := 188) (by decide +kernel) rfl
theorem tb_189 : Cond.lays "ToolRoom$Gauge" "ToolRoom$Tool" "hasCard" "Z" ∈ wl := wl_of (i := 189) (by decide +kernel) rfl
theorem tb_190 : Cond.lays "ToolRoom$Gauge" "ToolRoom$Tool" "name" "I" ∈ wl := wl_of (i := 190) (by decide +kernel) rfl
theorem tb_191 : Cond.superclass RX2 RX8 ∈ wl := wl_of (i := 191) (by decide +kernel) rfl
theorem tb_192 : Cond.methodLink RX9 71 yX9_done ∈ wl := wl_of (i := 192) (by decide +kernel) rfl
theorem tb_194 : Cond.instanceMethod yX9_done ∈ wl := wl_of (i := 194) (by decide +kernel) rfl
theorem tb_195 : Cond.code yX9_done cX9_done 2 (some .int) ∈ wl := wl_of (i := 195) (by decide +kernel) rfl
theorem tb_196 : Cond.methodLink RL 18 yX9_hang ∈ wl := wl_of (i := 196) (by decide +kernel) rfl
theorem tb_197 : Cond.instanceMethod yX9_hang ∈ wl := wl_of (i := 197) (by decide +kernel) rfl
theorem tb_198 : Cond.selects RX9 yX9_hang yX9_hang ∈ wl := wl_of (i := 198) (by decide +kernel) rfl
theorem tb_199 : Cond.code yX9_hang cX9_hang 3 (some .int) ∈ wl := wl_of (i := 199) (by decide +kernel) rfl
theorem tb_200 : Cond.methodLink RL 22 yX9_unhang ∈ wl := wl_of (i := 200) (by decide +kernel) rfl
theorem tb_201 : Cond.instanceMethod yX9_unhang ∈ wl := wl_of (i := 201) (by decide +kernel) rfl
theorem tb_202 : Cond.selects RX9 yX9_unhang yX9_unhang ∈ wl := wl_of (i := 202) (by decide +kernel) rfl
theorem tb_203 : Cond.code yX9_unhang cX9_unhang 3 (some .int) ∈ wl := wl_of (i := 203) (by decide +kernel) rfl
theorem tb_204 : Cond.methodLink RL 27 yX9_kind ∈ wl := wl_of (i := 204) (by decide +kernel) rfl
theorem tb_205 : Cond.instanceMethod yX9_kind ∈ wl := wl_of (i := 205) (by decide +kernel) rfl
theorem tb_206 : Cond.selects RX9 yX9_kind yX9_kind ∈ wl := wl_of (i := 206) (by decide +kernel) rfl
theorem tb_207 : Cond.code yX9_kind cX9_kind 3 (some .int) ∈ wl := wl_of (i := 207) (by decide +kernel) rfl
theorem tb_208 : Cond.methodLink RX9 74 (⟨"ToolRoom$Tool", "kindNumber", "()I"⟩ : MethodName) ∈ wl := wl_of (i := 208) (by decide +kernel) rfl
theorem tb_210 : Cond.sameMethod "ToolRoom$Tool" "ToolRoom$Tool" "kindNumber" "()I" ∈ wl := wl_of (i := 210) (by decide +kernel) rfl
theorem tb_211 : Cond.selects RX0 (⟨"ToolRoom$Tool", "kindNumber", "()I"⟩ : MethodName) yX0_kindNumber ∈ wl := wl_of (i := 211) (by decide +kernel) rfl
theorem tb_212 : Cond.instanceMethod yX0_kindNumber ∈ wl := wl_of (i := 212) (by decide +kernel) rfl
theorem tb_213 : Cond.code yX0_kindNumber cX0_kindNumber 1 (some .int) ∈ wl := wl_of (i := 213) (by decide +kernel) rfl
theorem tb_214 : Cond.selects RX1 (⟨"ToolRoom$Tool", "kindNumber", "()I"⟩ : MethodName) yX1_kindNumber ∈ wl := wl_of (i := 214) (by decide +kernel) rfl
theorem tb_215 : Cond.instanceMethod yX1_kindNumber ∈ wl := wl_of (i := 215) (by decide +kernel) rfl
theorem tb_216 : Cond.code yX1_kindNumber cX1_kindNumber 1 (some .int) ∈ wl := wl_of (i := 216) (by decide +kernel) rfl
theorem tb_217 : Cond.selects RX2 (⟨"ToolRoom$Tool", "kindNumber", "()I"⟩ : MethodName) yX2_kindNumber ∈ wl := wl_of (i := 217) (by decide +kernel) rfl
theorem tb_218 : Cond.instanceMethod yX2_kindNumber ∈ wl := wl_of (i := 218) (by decide +kernel) rfl
theorem tb_219 : Cond.code yX2_kindNumber cX2_kindNumber 1 (some .int) ∈ wl := wl_of (i := 219) (by decide +kernel) rfl
theorem tb_220 : Cond.selects RX4 (⟨"ToolRoom$Tool", "kindNumber", "()I"⟩ : MethodName) yX4_kindNumber ∈ wl := wl_of (i := 220) (by decide +kernel) rfl
theorem tb_221 : Cond.instanceMethod yX4_kindNumber ∈ wl := wl_of (i := 221) (by decide +kernel) rfl
theorem tb_222 : Cond.code yX4_kindNumber cX4_kindNumber 1 (some .int) ∈ wl := wl_of (i := 222) (by decide +kernel) rfl
theorem tb_223 : Cond.methodLink RL 31 yX9_card ∈ wl := wl_of (i := 223) (by decide +kernel) rfl
theorem tb_224 : Cond.instanceMethod yX9_card ∈ wl := wl_of (i := 224) (by decide +kernel) rfl
theorem tb_225 : Cond.selects RX9 yX9_card yX9_card ∈ wl := wl_of (i := 225) (by decide +kernel) rfl
theorem tb_226 : Cond.code yX9_card cX9_card 4 (some .int) ∈ wl := wl_of (i := 226) (by decide +kernel) rfl
theorem tb_227 : Cond.methodLink RX9 78 yX9_fail ∈ wl := wl_of (i := 227) (by decide +kernel) rfl
theorem tb_229 : Cond.instanceMethod yX9_fail ∈ wl := wl_of (i := 229) (by decide +kernel) rfl
theorem tb_230 : Cond.code yX9_fail cX9_fail 2 (some .int) ∈ wl := wl_of (i := 230) (by decide +kernel) rfl
theorem tb_231 : Cond.methodLink RL 35 yX9_uncard ∈ wl := wl_of (i := 231) (by decide +kernel) rfl
theorem tb_232 : Cond.instanceMethod yX9_uncard ∈ wl := wl_of (i := 232) (by decide +kernel) rfl
theorem tb_233 : Cond.selects RX9 yX9_uncard yX9_uncard ∈ wl := wl_of (i := 233) (by decide +kernel) rfl
theorem tb_234 : Cond.code yX9_uncard cX9_uncard 3 (some .int) ∈ wl := wl_of (i := 234) (by decide +kernel) rfl
theorem tb_235 : Cond.methodLink RL 39 yX9_rename ∈ wl := wl_of (i := 235) (by decide +kernel) rfl
theorem tb_236 : Cond.instanceMethod yX9_rename ∈ wl := wl_of (i := 236) (by decide +kernel) rfl
theorem tb_237 : Cond.selects RX9 yX9_rename yX9_rename ∈ wl := wl_of (i := 237) (by decide +kernel) rfl
theorem tb_238 : Cond.code yX9_rename cX9_rename 4 (some .int) ∈ wl := wl_of (i := 238) (by decide +kernel) rfl
theorem tb_239 : Cond.methodLink RL 43 yX9_of ∈ wl := wl_of (i := 239) (by decide +kernel) rfl
theorem tb_240 : Cond.instanceMethod yX9_of ∈ wl := wl_of (i := 240) (by decide +kernel) rfl
theorem tb_241 : Cond.selects RX9 yX9_of yX9_of ∈ wl := wl_of (i := 241) (by decide +kernel) rfl
theorem tb_242 : Cond.code yX9_of cX9_of 4 (some .int) ∈ wl := wl_of (i := 242) (by decide +kernel) rfl
theorem tb_243 : Cond.methodLink RX9 88 yX9_refuseWithZero ∈ wl := wl_of (i := 243) (by decide +kernel) rfl
theorem tb_245 : Cond.instanceMethod yX9_refuseWithZero ∈ wl := wl_of (i := 245) (by decide +kernel) rfl
theorem tb_246 : Cond.code yX9_refuseWithZero cX9_refuseWithZero 2 (some .int) ∈ wl := wl_of (i := 246) (by decide +kernel) rfl
theorem tb_247 : Cond.methodLink RX9 91 yX9_failWithZero ∈ wl := wl_of (i := 247) (by decide +kernel) rfl
theorem tb_249 : Cond.instanceMethod yX9_failWithZero ∈ wl := wl_of (i := 249) (by decide +kernel) rfl
theorem tb_250 : Cond.code yX9_failWithZero cX9_failWithZero 2 (some .int) ∈ wl := wl_of (i := 250) (by decide +kernel) rfl
theorem tb_251 : Cond.methodLink RX9 97 (⟨"ToolRoom$Tool", "weight", "()I"⟩ : MethodName) ∈ wl := wl_of (i := 251) (by decide +kernel) rfl
theorem tb_253 : Cond.sameMethod "ToolRoom$Tool" "ToolRoom$Tool" "weight" "()I" ∈ wl := wl_of (i := 253) (by decide +kernel) rfl
theorem tb_254 : Cond.selects RX0 (⟨"ToolRoom$Tool", "weight", "()I"⟩ : MethodName) yX0_weight ∈ wl := wl_of (i := 254) (by decide +kernel) rfl
theorem tb_255 : Cond.instanceMethod yX0_weight ∈ wl := wl_of (i := 255) (by decide +kernel) rfl
theorem tb_256 : Cond.code yX0_weight cX0_weight 1 (some .int) ∈ wl := wl_of (i := 256) (by decide +kernel) rfl
theorem tb_257 : Cond.selects RX1 (⟨"ToolRoom$Tool", "weight", "()I"⟩ : MethodName) yX1_weight ∈ wl := wl_of (i := 257) (by decide +kernel) rfl
theorem tb_258 : Cond.instanceMethod yX1_weight ∈ wl := wl_of (i := 258) (by decide +kernel) rfl
theorem tb_259 : Cond.code yX1_weight cX1_weight 1 (some .int) ∈ wl := wl_of (i := 259) (by decide +kernel) rfl
theorem tb_260 : Cond.selects RX2 (⟨"ToolRoom$Tool", "weight", "()I"⟩ : MethodName) yX2_weight ∈ wl := wl_of (i := 260) (by decide +kernel) rfl
theorem tb_261 : Cond.instanceMethod yX2_weight ∈ wl := wl_of (i := 261) (by decide +kernel) rfl
theorem tb_262 : Cond.code yX2_weight cX2_weight 1 (some .int) ∈ wl := wl_of (i := 262) (by decide +kernel) rfl
theorem tb_263 : Cond.selects RX4 (⟨"ToolRoom$Tool", "weight", "()I"⟩ : MethodName) yX4_weight ∈ wl := wl_of (i := 263) (by decide +kernel) rfl
theorem tb_264 : Cond.instanceMethod yX4_weight ∈ wl := wl_of (i := 264) (by decide +kernel) rfl
theorem tb_265 : Cond.code yX4_weight cX4_weight 1 (some .int) ∈ wl := wl_of (i := 265) (by decide +kernel) rfl
theorem tb_266 : Cond.methodLink RX9 100 yX9_edgeOf ∈ wl := wl_of (i := 266) (by decide +kernel) rfl
theorem tb_268 : Cond.instanceMethod yX9_edgeOf ∈ wl := wl_of (i := 268) (by decide +kernel) rfl
theorem tb_269 : Cond.code yX9_edgeOf cX9_edgeOf 3 (some .int) ∈ wl := wl_of (i := 269) (by decide +kernel) rfl
theorem tb_270 : Cond.methodLink RL 47 yX9_hone ∈ wl := wl_of (i := 270) (by decide +kernel) rfl
theorem tb_271 : Cond.instanceMethod yX9_hone ∈ wl := wl_of (i := 271) (by decide +kernel) rfl
theorem tb_272 : Cond.selects RX9 yX9_hone yX9_hone ∈ wl := wl_of (i := 272) (by decide +kernel) rfl
theorem tb_273 : Cond.code yX9_hone cX9_hone 5 (some .int) ∈ wl := wl_of (i := 273) (by decide +kernel) rfl
theorem tb_274 : Cond.methodLink RL 51 yX9_use ∈ wl := wl_of (i := 274) (by decide +kernel) rfl
theorem tb_275 : Cond.instanceMethod yX9_use ∈ wl := wl_of (i := 275) (by decide +kernel) rfl
theorem tb_276 : Cond.selects RX9 yX9_use yX9_use ∈ wl := wl_of (i := 276) (by decide +kernel) rfl
theorem tb_277 : Cond.code yX9_use cX9_use 4 (some .int) ∈ wl := wl_of (i := 277) (by decide +kernel) rfl
theorem tb_278 : Cond.methodLink RX9 109 (⟨"ToolRoom$Tool", "work", "(I)I"⟩ : MethodName) ∈ wl := wl_of (i := 278) (by decide +kernel) rfl
theorem tb_280 : Cond.sameMethod "ToolRoom$Tool" "ToolRoom$Tool" "work" "(I)I" ∈ wl := wl_of (i := 280) (by decide +kernel) rfl
theorem tb_281 : Cond.selects RX0 (⟨"ToolRoom$Tool", "work", "(I)I"⟩ : MethodName) yX0_work ∈ wl := wl_of (i := 281) (by decide +kernel) rfl
theorem tb_282 : Cond.instanceMethod yX0_work ∈ wl := wl_of (i := 282) (by decide +kernel) rfl
theorem tb_283 : Cond.code yX0_work cX0_work 2 (some .int) ∈ wl := wl_of (i := 283) (by decide +kernel) rfl
theorem tb_284 : Cond.selects RX1 (⟨"ToolRoom$Tool", "work", "(I)I"⟩ : MethodName) yX1_work ∈ wl := wl_of (i := 284) (by decide +kernel) rfl
theorem tb_285 : Cond.instanceMethod yX1_work ∈ wl := wl_of (i := 285) (by decide +kernel) rfl
theorem tb_286 : Cond.code yX1_work cX1_work 3 (some .int) ∈ wl := wl_of (i := 286) (by decide +kernel) rfl
theorem tb_287 : Cond.methodLink RX1 9 yX0_work ∈ wl := wl_of (i := 287) (by decide +kernel) rfl
theorem tb_288 : Cond.selects RX2 (⟨"ToolRoom$Tool", "work", "(I)I"⟩ : MethodName) yX2_work ∈ wl := wl_of (i := 288) (by decide +kernel) rfl
theorem tb_289 : Cond.instanceMethod yX2_work ∈ wl := wl_of (i := 289) (by decide +kernel) rfl
theorem tb_290 : Cond.code yX2_work cX2_work 3 (some .int) ∈ wl := wl_of (i := 290) (by decide +kernel) rfl
theorem tb_291 : Cond.selects RX4 (⟨"ToolRoom$Tool", "work", "(I)I"⟩ : MethodName) yX4_work ∈ wl := wl_of (i := 291) (by decide +kernel) rfl
theorem tb_292 : Cond.instanceMethod yX4_work ∈ wl := wl_of (i := 292) (by decide +kernel) rfl
theorem tb_293 : Cond.code yX4_work cX4_work 2 (some .int) ∈ wl := wl_of (i := 293) (by decide +kernel) rfl
theorem tb_294 : Cond.methodLink RL 55 yX9_shift ∈ wl := wl_of (i := 294) (by decide +kernel) rfl
theorem tb_295 : Cond.instanceMethod yX9_shift ∈ wl := wl_of (i := 295) (by decide +kernel) rfl
theorem tb_296 : Cond.selects RX9 yX9_shift yX9_shift ∈ wl := wl_of (i := 296) (by decide +kernel) rfl
theorem tb_297 : Cond.code yX9_shift cX9_shift 8 (some .int) ∈ wl := wl_of (i := 297) (by decide +kernel) rfl
theorem tb_298 : Cond.methodLink RX9 112 yX9_shiftOnce ∈ wl := wl_of (i := 298) (by decide +kernel) rfl
theorem tb_300 : Cond.instanceMethod yX9_shiftOnce ∈ wl := wl_of (i := 300) (by decide +kernel) rfl
theorem tb_301 : Cond.code yX9_shiftOnce cX9_shiftOnce 8 (some .int) ∈ wl := wl_of (i := 301) (by decide +kernel) rfl
theorem tb_302 : Cond.methodLink RX9 116 yX9_failureAt ∈ wl := wl_of (i := 302) (by decide +kernel) rfl
theorem tb_303 : Cond.static yX9_failureAt ∈ wl := wl_of (i := 303) (by decide +kernel) rfl
theorem tb_304 : Cond.code yX9_failureAt cX9_failureAt 2 (some .int) ∈ wl := wl_of (i := 304) (by decide +kernel) rfl
theorem tb_305 : Cond.methodLink RX9 146 yX5_isMissing ∈ wl := wl_of (i := 305) (by decide +kernel) rfl
theorem tb_306 : Cond.instanceMethod yX5_isMissing ∈ wl := wl_of (i := 306) (by decide +kernel) rfl
theorem tb_307 : Cond.sameMethod "ToolRoom$Holder" "ToolRoom$Holder" "isMissing" "()Z" ∈ wl := wl_of (i := 307) (by decide +kernel) rfl
theorem tb_308 : Cond.selects RX3 yX5_isMissing yX5_isMissing ∈ wl := wl_of (i := 308) (by decide +kernel) rfl
theorem tb_309 : Cond.selects RX6 yX5_isMissing yX5_isMissing ∈ wl := wl_of (i := 309) (by decide +kernel) rfl
theorem tb_310 : Cond.selects RX7 yX5_isMissing yX5_isMissing ∈ wl := wl_of (i := 310) (by decide +kernel) rfl
theorem tb_311 : Cond.code yX5_isMissing cX5_isMissing 1 (some .boolean) ∈ wl := wl_of (i := 311) (by decide +kernel) rfl
theorem tb_312 : Cond.methodLink RL 60 yX9_tray ∈ wl := wl_of (i := 312) (by decide +kernel) rfl
theorem tb_313 : Cond.instanceMethod yX9_tray ∈ wl := wl_of (i := 313) (by decide +kernel) rfl
theorem tb_314 : Cond.selects RX9 yX9_tray yX9_tray ∈ wl := wl_of (i := 314) (by decide +kernel) rfl
theorem tb_315 : Cond.code yX9_tray cX9_tray 3 (some .int) ∈ wl := wl_of (i := 315) (by decide +kernel) rfl
theorem tb_316 : Cond.methodLink RX9 133 yX7_renew ∈ wl := wl_of (i := 316) (by decide +kernel) rfl
theorem tb_317 : Cond.instanceMethod yX7_renew ∈ wl := wl_of (i := 317) (by decide +kernel) rfl
theorem tb_318 : Cond.selects RX7 yX7_renew yX7_renew ∈ wl := wl_of (i := 318) (by decide +kernel) rfl
theorem tb_319 : Cond.code yX7_renew cX7_renew 3 (none : Option FieldType) ∈ wl := wl_of (i := 319) (by decide +kernel) rfl
theorem tb_320 : Cond.methodLink RL 64 yX9_lose ∈ wl := wl_of (i := 320) (by decide +kernel) rfl
theorem tb_321 : Cond.instanceMethod yX9_lose ∈ wl := wl_of (i := 321) (by decide +kernel) rfl
theorem tb_322 : Cond.selects RX9 yX9_lose yX9_lose ∈ wl := wl_of (i := 322) (by decide +kernel) rfl
theorem tb_323 : Cond.code yX9_lose cX9_lose 4 (some .int) ∈ wl := wl_of (i := 323) (by decide +kernel) rfl
theorem tb_324 : Cond.methodLink RX9 136 yX9_holderOrNull ∈ wl := wl_of (i := 324) (by decide +kernel) rfl
theorem tb_326 : Cond.instanceMethod yX9_holderOrNull ∈ wl := wl_of (i := 326) (by decide +kernel) rfl
theorem tb_327 : Cond.code yX9_holderOrNull cX9_holderOrNull 3 (some (FieldType.object "ToolRoom$Holder")) ∈ wl := wl_of (i := 327) (by decide +kernel) rfl
theorem tb_328 : Cond.methodLink RX9 140 yX5_vanish ∈ wl := wl_of (i := 328) (by decide +kernel) rfl
theorem tb_329 : Cond.instanceMethod yX5_vanish ∈ wl := wl_of (i := 329) (by decide +kernel) rfl
theorem tb_330 : Cond.sameMethod "ToolRoom$Holder" "ToolRoom$Holder" "vanish" "()Z" ∈ wl := wl_of (i := 330) (by decide +kernel) rfl
theorem tb_331 : Cond.selects RX3 yX5_vanish yX5_vanish ∈ wl := wl_of (i := 331) (by decide +kernel) rfl
theorem tb_332 : Cond.selects RX6 yX5_vanish yX5_vanish ∈ wl := wl_of (i := 332) (by decide +kernel) rfl
theorem tb_333 : Cond.selects RX7 yX5_vanish yX5_vanish ∈ wl := wl_of (i := 333) (by decide +kernel) rfl
theorem tb_334 : Cond.code yX5_vanish cX5_vanish 2 (some .boolean) ∈ wl := wl_of (i := 334) (by decide +kernel) rfl
theorem tb_335 : Cond.methodLink RX5 13 yX5_isMissing ∈ wl := wl_of (i := 335) (by decide +kernel) rfl
theorem tb_336 : Cond.methodLink RL 68 yX9_put ∈ wl := wl_of (i := 336) (by decide +kernel) rfl
theorem tb_337 : Cond.instanceMethod yX9_put ∈ wl := wl_of (i := 337) (by decide +kernel) rfl
theorem tb_338 : Cond.selects RX9 yX9_put yX9_put ∈ wl := wl_of (i := 338) (by decide +kernel) rfl
theorem tb_339 : Cond.code yX9_put cX9_put 6 (some .int) ∈ wl := wl_of (i := 339) (by decide +kernel) rfl
theorem tb_340 : Cond.methodLink RL 73 yX9_get ∈ wl := wl_of (i := 340) (by decide +kernel) rfl
theorem tb_341 : Cond.instanceMethod yX9_get ∈ wl := wl_of (i := 341) (by decide +kernel) rfl
theorem tb_342 : Cond.selects RX9 yX9_get yX9_get ∈ wl := wl_of (i := 342) (by decide +kernel) rfl
theorem tb_343 : Cond.code yX9_get cX9_get 5 (some .int) ∈ wl := wl_of (i := 343) (by decide +kernel) rfl
theorem tb_344 : Cond.methodLink RL 77 yX9_length ∈ wl := wl_of (i := 344) (by decide +kernel) rfl
theorem tb_345 : Cond.instanceMethod yX9_length ∈ wl := wl_of (i := 345) (by decide +kernel) rfl
theorem tb_346 : Cond.selects RX9 yX9_length yX9_length ∈ wl := wl_of (i := 346) (by decide +kernel) rfl
theorem tb_347 : Cond.code yX9_length cX9_length 4 (some .int) ∈ wl := wl_of (i := 347) (by decide +kernel) rfl
theorem tb_348 : Cond.methodLink RL 81 yX9_rack ∈ wl := wl_of (i := 348) (by decide +kernel) rfl
theorem tb_349 : Cond.instanceMethod yX9_rack ∈ wl := wl_of (i := 349) (by decide +kernel) rfl
theorem tb_350 : Cond.selects RX9 yX9_rack yX9_rack ∈ wl := wl_of (i := 350) (by decide +kernel) rfl
theorem tb_351 : Cond.code yX9_rack cX9_rack 4 (some .int) ∈ wl := wl_of (i := 351) (by decide +kernel) rfl
theorem tb_352 : Cond.methodLink RX9 152 yX6_renew ∈ wl := wl_of (i := 352) (by decide +kernel) rfl
theorem tb_353 : Cond.instanceMethod yX6_renew ∈ wl := wl_of (i := 353) (by decide +kernel) rfl
theorem tb_354 : Cond.selects RX6 yX6_renew yX6_renew ∈ wl := wl_of (i := 354) (by decide +kernel) rfl
theorem tb_355 : Cond.code yX6_renew cX6_renew 4 (none : Option FieldType) ∈ wl := wl_of (i := 355) (by decide +kernel) rfl
theorem tb_356 : Cond.methodLink RL 85 yX9_lay ∈ wl := wl_of (i := 356) (by decide +kernel) rfl
theorem tb_357 : Cond.instanceMethod yX9_lay ∈ wl := wl_of (i := 357) (by decide +kernel) rfl
theorem tb_358 : Cond.selects RX9 yX9_lay yX9_lay ∈ wl := wl_of (i := 358) (by decide +kernel) rfl
theorem tb_359 : Cond.code yX9_lay cX9_lay 7 (some .int) ∈ wl := wl_of (i := 359) (by decide +kernel) rfl
theorem tb_360 : Cond.methodLink RX9 158 yX9_isOfSort ∈ wl := wl_of (i := 360) (by decide +kernel) rfl
theorem tb_361 : Cond.static yX9_isOfSort ∈ wl := wl_of (i := 361) (by decide +kernel) rfl
theorem tb_362 : Cond.code yX9_isOfSort cX9_isOfSort 2 (some .boolean) ∈ wl := wl_of (i := 362) (by decide +kernel) rfl
theorem tb_363 : Cond.methodLink RL 89 yX9_fetch ∈ wl := wl_of (i := 363) (by decide +kernel) rfl
theorem tb_364 : Cond.instanceMethod yX9_fetch ∈ wl := wl_of (i := 364) (by decide +kernel) rfl
theorem tb_365 : Cond.selects RX9 yX9_fetch yX9_fetch ∈ wl := wl_of (i := 365) (by decide +kernel) rfl
theorem tb_366 : Cond.code yX9_fetch cX9_fetch 8 (some .int) ∈ wl := wl_of (i := 366) (by decide +kernel) rfl
theorem tb_367 : Cond.methodLink RL 93 yX9_grid ∈ wl := wl_of (i := 367) (by decide +kernel) rfl
theorem tb_368 : Cond.instanceMethod yX9_grid ∈ wl := wl_of (i := 368) (by decide +kernel) rfl
theorem tb_369 : Cond.selects RX9 yX9_grid yX9_grid ∈ wl := wl_of (i := 369) (by decide +kernel) rfl
theorem tb_370 : Cond.code yX9_grid cX9_grid 4 (some .int) ∈ wl := wl_of (i := 370) (by decide +kernel) rfl
theorem tb_371 : Cond.methodLink RX9 165 yX3_renew ∈ wl := wl_of (i := 371) (by decide +kernel) rfl
theorem tb_372 : Cond.instanceMethod yX3_renew ∈ wl := wl_of (i := 372) (by decide +kernel) rfl
theorem tb_373 : Cond.selects RX3 yX3_renew yX3_renew ∈ wl := wl_of (i := 373) (by decide +kernel) rfl
theorem tb_374 : Cond.code yX3_renew cX3_renew 4 (none : Option FieldType) ∈ wl := wl_of (i := 374) (by decide +kernel) rfl
theorem tb_375 : Cond.methodLink RX3 20 yX7_renew ∈ wl := wl_of (i := 375) (by decide +kernel) rfl
theorem tb_376 : Cond.methodLink RL 97 yX9_strike ∈ wl := wl_of (i := 376) (by decide +kernel) rfl
theorem tb_377 : Cond.instanceMethod yX9_strike ∈ wl := wl_of (i := 377) (by decide +kernel) rfl
theorem tb_378 : Cond.selects RX9 yX9_strike yX9_strike ∈ wl := wl_of (i := 378) (by decide +kernel) rfl
theorem tb_379 : Cond.code yX9_strike cX9_strike 5 (some .int) ∈ wl := wl_of (i := 379) (by decide +kernel) rfl
theorem tb_380 : Cond.methodLink RX9 169 (⟨"ToolRoom$Row", "vanish", "()Z"⟩ : MethodName) ∈ wl := wl_of (i := 380) (by decide +kernel) rfl
theorem tb_381 : Cond.sameMethod "ToolRoom$Row" "ToolRoom$Holder" "vanish" "()Z" ∈ wl := wl_of (i := 381) (by decide +kernel) rfl
theorem tb_383 : Cond.selects RX7 (⟨"ToolRoom$Row", "vanish", "()Z"⟩ : MethodName) yX5_vanish ∈ wl := wl_of (i := 383) (by decide +kernel) rfl
theorem tb_384 : Cond.methodLink RL 101 yX9_mark ∈ wl := wl_of (i := 384) (by decide +kernel) rfl
theorem tb_385 : Cond.instanceMethod yX9_mark ∈ wl := wl_of (i := 385) (by decide +kernel) rfl
theorem tb_386 : Cond.selects RX9 yX9_mark yX9_mark ∈ wl := wl_of (i := 386) (by decide +kernel) rfl
theorem tb_387 : Cond.code yX9_mark cX9_mark 7 (some .int) ∈ wl := wl_of (i := 387) (by decide +kernel) rfl
theorem tb_388 : Cond.methodLink RX9 170 yX9_failureAtCell ∈ wl := wl_of (i := 388) (by decide +kernel) rfl
theorem tb_389 : Cond.static yX9_failureAtCell ∈ wl := wl_of (i := 389) (by decide +kernel) rfl
theorem tb_390 : Cond.code yX9_failureAtCell cX9_failureAtCell 4 (some .int) ∈ wl := wl_of (i := 390) (by decide +kernel) rfl
theorem tb_391 : Cond.methodLink RL 105 yX9_cell ∈ wl := wl_of (i := 391) (by decide +kernel) rfl
theorem tb_392 : Cond.instanceMethod yX9_cell ∈ wl := wl_of (i := 392) (by decide +kernel) rfl
theorem tb_393 : Cond.selects RX9 yX9_cell yX9_cell ∈ wl := wl_of (i := 393) (by decide +kernel) rfl
theorem tb_394 : Cond.code yX9_cell cX9_cell 6 (some .int) ∈ wl := wl_of (i := 394) (by decide +kernel) rfl
theorem tb_395 : Cond.methodLink RL 109 yX9_alarm ∈ wl := wl_of (i := 395) (by decide +kernel) rfl
theorem tb_396 : Cond.instanceMethod yX9_alarm ∈ wl := wl_of (i := 396) (by decide +kernel) rfl
theorem tb_397 : Cond.selects RX9 yX9_alarm yX9_alarm ∈ wl := wl_of (i := 397) (by decide +kernel) rfl
theorem tb_398 : Cond.code yX9_alarm cX9_alarm 4 (some .int) ∈ wl := wl_of (i := 398) (by decide +kernel) rfl
theorem tb_399 : Cond.methodLink RL 113 yX9_calm ∈ wl := wl_of (i := 399) (by decide +kernel) rfl
theorem tb_400 : Cond.instanceMethod yX9_calm ∈ wl := wl_of (i := 400) (by decide +kernel) rfl
theorem tb_401 : Cond.selects RX9 yX9_calm yX9_calm ∈ wl := wl_of (i := 401) (by decide +kernel) rfl
theorem tb_402 : Cond.code yX9_calm cX9_calm 3 (some .int) ∈ wl := wl_of (i := 402) (by decide +kernel) rfl
theorem tb_403 : Cond.methodLink RL 117 yX9_let ∈ wl := wl_of (i := 403) (by decide +kernel) rfl
theorem tb_404 : Cond.instanceMethod yX9_let ∈ wl := wl_of (i := 404) (by decide +kernel) rfl
theorem tb_405 : Cond.selects RX9 yX9_let yX9_let ∈ wl := wl_of (i := 405) (by decide +kernel) rfl
theorem tb_406 : Cond.code yX9_let cX9_let 3 (some .int) ∈ wl := wl_of (i := 406) (by decide +kernel) rfl
theorem tb_407 : Cond.methodLink RL 121 yX9_why ∈ wl := wl_of (i := 407) (by decide +kernel) rfl
theorem tb_408 : Cond.instanceMethod yX9_why ∈ wl := wl_of (i := 408) (by decide +kernel) rfl
theorem tb_409 : Cond.selects RX9 yX9_why yX9_why ∈ wl := wl_of (i := 409) (by decide +kernel) rfl
theorem tb_410 : Cond.code yX9_why cX9_why 1 (some .int) ∈ wl := wl_of (i := 410) (by decide +kernel) rfl
theorem tb_411 : Cond.methodLink RL 126 yX9_count ∈ wl := wl_of (i := 411) (by decide +kernel) rfl
theorem tb_412 : Cond.instanceMethod yX9_count ∈ wl := wl_of (i := 412) (by decide +kernel) rfl
theorem tb_413 : Cond.selects RX9 yX9_count yX9_count ∈ wl := wl_of (i := 413) (by decide +kernel) rfl
theorem tb_414 : Cond.code yX9_count cX9_count 2 (some .int) ∈ wl := wl_of (i := 414) (by decide +kernel) rfl
theorem tb_415 : Cond.classLink RL 10 RX10 ∈ wl := wl_of (i := 415) (by decide +kernel) rfl
theorem tb_416 : Cond.instantiable RX10 21 ∈ wl := wl_of (i := 416) (by decide +kernel) rfl
theorem tb_417 : Cond.methodLink RL 12 yX10_init ∈ wl := wl_of (i := 417) (by decide +kernel) rfl
theorem tb_418 : Cond.instanceMethod yX10_init ∈ wl := wl_of (i := 418) (by decide +kernel) rfl
theorem tb_419 : Cond.code yX10_init cX10_init 2 (none : Option FieldType) ∈ wl := wl_of (i := 419) (by decide +kernel) rfl
theorem tb_420 : Cond.methodLink RX10 1 objectInit ∈ wl := wl_of (i := 420) (by decide +kernel) rfl
theorem tb_421 : Cond.fieldLink RX10 7 "ToolRoomModel" "hooks" "[I" ∈ wl := wl_of (i := 421) (by decide +kernel) rfl
theorem tb_422 : Cond.fieldLink RX10 77 "ToolRoomModel" "tools" "I" ∈ wl := wl_of (i := 422) (by decide +kernel) rfl
theorem tb_423 : Cond.fieldLink RX10 13 "ToolRoomModel" "kinds" "[I" ∈ wl := wl_of (i := 423) (by decide +kernel) rfl
theorem tb_424 : Cond.fieldLink RX10 16 "ToolRoomModel" "wears" "[I" ∈ wl := wl_of (i := 424) (by decide +kernel) rfl
theorem tb_425 : Cond.fieldLink RX10 19 "ToolRoomModel" "edges" "[I" ∈ wl := wl_of (i := 425) (by decide +kernel) rfl
theorem tb_426 : Cond.fieldLink RX10 22 "ToolRoomModel" "carded" "[Z" ∈ wl := wl_of (i := 426) (by decide +kernel) rfl
theorem tb_427 : Cond.fieldLink RX10 26 "ToolRoomModel" "names" "[I" ∈ wl := wl_of (i := 427) (by decide +kernel) rfl
theorem tb_428 : Cond.fieldLink RX10 29 "ToolRoomModel" "traySize" "[I" ∈ wl := wl_of (i := 428) (by decide +kernel) rfl
theorem tb_429 : Cond.fieldLink RX10 32 "ToolRoomModel" "trays" "[I" ∈ wl := wl_of (i := 429) (by decide +kernel) rfl
theorem tb_430 : Cond.fieldLink RX10 35 "ToolRoomModel" "rackSize" "[I" ∈ wl := wl_of (i := 430) (by decide +kernel) rfl
theorem tb_431 : Cond.fieldLink RX10 38 "ToolRoomModel" "rackSort" "[I" ∈ wl := wl_of (i := 431) (by decide +kernel) rfl
theorem tb_432 : Cond.fieldLink RX10 41 "ToolRoomModel" "racks" "[I" ∈ wl := wl_of (i := 432) (by decide +kernel) rfl
theorem tb_433 : Cond.fieldLink RX10 44 "ToolRoomModel" "gridSize" "[I" ∈ wl := wl_of (i := 433) (by decide +kernel) rfl
theorem tb_434 : Cond.fieldLink RX10 47 "ToolRoomModel" "rowSize" "[I" ∈ wl := wl_of (i := 434) (by decide +kernel) rfl
theorem tb_435 : Cond.fieldLink RX10 50 "ToolRoomModel" "cells" "[I" ∈ wl := wl_of (i := 435) (by decide +kernel) rfl
theorem tb_436 : Cond.fieldLink RX10 53 "ToolRoomModel" "isAlarm" "[Z" ∈ wl := wl_of (i := 436) (by decide +kernel) rfl
theorem tb_437 : Cond.fieldLink RX10 56 "ToolRoomModel" "numbers" "[I" ∈ wl := wl_of (i := 437) (by decide +kernel) rfl
theorem tb_438 : Cond.fieldLink RX10 62 "ToolRoomModel" "why" "I" ∈ wl := wl_of (i := 438) (by decide +kernel) rfl
theorem tb_439 : Cond.fieldLink RX10 66 "ToolRoomModel" "latest" "I" ∈ wl := wl_of (i := 439) (by decide +kernel) rfl
theorem tb_440 : Cond.fieldLink RX10 59 "ToolRoomModel" "met" "[I" ∈ wl := wl_of (i := 440) (by decide +kernel) rfl
theorem tb_441 : Cond.fieldLink RX10 93 "ToolRoomModel" "uses" "I" ∈ wl := wl_of (i := 441) (by decide +kernel) rfl
theorem tb_442 : Cond.laysFinal "ToolRoomModel" "ToolRoomModel" "hooks" "[I" ∈ wl := wl_of (i := 442) (by decide +kernel) rfl
theorem tb_444 : Cond.lays "ToolRoomModel" "ToolRoomModel" "tools" "I" ∈ wl := wl_of (i := 444) (by decide +kernel) rfl
theorem tb_446 : Cond.laysFinal "ToolRoomModel" "ToolRoomModel" "kinds" "[I" ∈ wl := wl_of (i := 446) (by decide +kernel) rfl
theorem tb_448 : Cond.laysFinal "ToolRoomModel" "ToolRoomModel" "wears" "[I" ∈ wl := wl_of (i := 448) (by decide +kernel) rfl
theorem tb_450 : Cond.laysFinal "ToolRoomModel" "ToolRoomModel" "edges" "[I" ∈ wl := wl_of (i := 450) (by decide +kernel) rfl
theorem tb_452 : Cond.laysFinal "ToolRoomModel" "ToolRoomModel" "carded" "[Z" ∈ wl := wl_of (i := 452) (by decide +kernel) rfl
theorem tb_454 : Cond.laysFinal "ToolRoomModel" "ToolRoomModel" "names" "[I" ∈ wl := wl_of (i := 454) (by decide +kernel) rfl
theorem tb_456 : Cond.laysFinal "ToolRoomModel" "ToolRoomModel" "traySize" "[I" ∈ wl := wl_of (i := 456) (by decide +kernel) rfl
theorem tb_458 : Cond.laysFinal "ToolRoomModel" "ToolRoomModel" "trays" "[I" ∈ wl := wl_of (i := 458) (by decide +kernel) rfl
theorem tb_460 : Cond.laysFinal "ToolRoomModel" "ToolRoomModel" "rackSize" "[I" ∈ wl := wl_of (i := 460) (by decide +kernel) rfl
theorem tb_462 : Cond.laysFinal "ToolRoomModel" "ToolRoomModel" "rackSort" "[I" ∈ wl := wl_of (i := 462) (by decide +kernel) rfl
theorem tb_464 : Cond.laysFinal "ToolRoomModel" "ToolRoomModel" "racks" "[I" ∈ wl := wl_of (i := 464) (by decide +kernel) rfl
theorem tb_466 : Cond.laysFinal "ToolRoomModel" "ToolRoomModel" "gridSize" "[I" ∈ wl := wl_of (i := 466) (by decide +kernel) rfl
theorem tb_468 : Cond.laysFinal "ToolRoomModel" "ToolRoomModel" "rowSize" "[I" ∈ wl := wl_of (i := 468) (by decide +kernel) rfl
theorem tb_470 : Cond.laysFinal "ToolRoomModel" "ToolRoomModel" "cells" "[I" ∈ wl := wl_of (i := 470) (by decide +kernel) rfl
theorem tb_472 : Cond.laysFinal "ToolRoomModel" "ToolRoomModel" "isAlarm" "[Z" ∈ wl := wl_of (i := 472) (by decide +kernel) rfl
theorem tb_474 : Cond.laysFinal "ToolRoomModel" "ToolRoomModel" "numbers" "[I" ∈ wl := wl_of (i := 474) (by decide +kernel) rfl
theorem tb_476 : Cond.lays "ToolRoomModel" "ToolRoomModel" "why" "I" ∈ wl := wl_of (i := 476) (by decide +kernel) rfl
theorem tb_478 : Cond.lays "ToolRoomModel" "ToolRoomModel" "latest" "I" ∈ wl := wl_of (i := 478) (by decide +kernel) rfl
theorem tb_480 : Cond.laysFinal "ToolRoomModel" "ToolRoomModel" "met" "[I" ∈ wl := wl_of (i := 480) (by decide +kernel) rfl
theorem tb_482 : Cond.lays "ToolRoomModel" "ToolRoomModel" "uses" "I" ∈ wl := wl_of (i := 482) (by decide +kernel) rfl
theorem tb_484 : Cond.superclass RX10 "java/lang/Object" ∈ wl := wl_of (i := 484) (by decide +kernel) rfl
theorem tb_485 : Cond.methodLink RL 17 yX10_tool ∈ wl := wl_of (i := 485) (by decide +kernel) rfl
theorem tb_486 : Cond.instanceMethod yX10_tool ∈ wl := wl_of (i := 486) (by decide +kernel) rfl
theorem tb_487 : Cond.selects RX10 yX10_tool yX10_tool ∈ wl := wl_of (i := 487) (by decide +kernel) rfl
theorem tb_488 : Cond.code yX10_tool cX10_tool 4 (some .int) ∈ wl := wl_of (i := 488) (by decide +kernel) rfl
theorem tb_489 : Cond.methodLink RX10 69 yX10_in ∈ wl := wl_of (i := 489) (by decide +kernel) rfl
theorem tb_490 : Cond.static yX10_in ∈ wl := wl_of (i := 490) (by decide +kernel) rfl
theorem tb_491 : Cond.code yX10_in cX10_in 3 (some .boolean) ∈ wl := wl_of (i := 491) (by decide +kernel) rfl
theorem tb_492 : Cond.methodLink RX10 73 yX10_refuses ∈ wl := wl_of (i := 492) (by decide +kernel) rfl
theorem tb_494 : Cond.instanceMethod yX10_refuses ∈ wl := wl_of (i := 494) (by decide +kernel) rfl
theorem tb_495 : Cond.code yX10_refuses cX10_refuses 2 (some .int) ∈ wl := wl_of (i := 495) (by decide +kernel) rfl
theorem tb_496 : Cond.methodLink RX10 80 yX10_says ∈ wl := wl_of (i := 496) (by decide +kernel) rfl
theorem tb_498 : Cond.instanceMethod yX10_says ∈ wl := wl_of (i := 498) (by decide +kernel) rfl
theorem tb_499 : Cond.code yX10_says cX10_says 2 (some .int) ∈ wl := wl_of (i := 499) (by decide +kernel) rfl
theorem tb_500 : Cond.methodLink RL 21 yX10_hang ∈ wl := wl_of (i := 500) (by decide +kernel) rfl
theorem tb_501 : Cond.instanceMethod yX10_hang ∈ wl := wl_of (i := 501) (by decide +kernel) rfl
theorem tb_502 : Cond.selects RX10 yX10_hang yX10_hang ∈ wl := wl_of (i := 502) (by decide +kernel) rfl
theorem tb_503 : Cond.code yX10_hang cX10_hang 3 (some .int) ∈ wl := wl_of (i := 503) (by decide +kernel) rfl
theorem tb_504 : Cond.methodLink RL 26 yX10_unhang ∈ wl := wl_of (i := 504) (by decide +kernel) rfl
theorem tb_505 : Cond.instanceMethod yX10_unhang ∈ wl := wl_of (i := 505) (by decide +kernel) rfl
theorem tb_506 : Cond.selects RX10 yX10_unhang yX10_unhang ∈ wl := wl_of (i := 506) (by decide +kernel) rfl
theorem tb_507 : Cond.code yX10_unhang cX10_unhang 3 (some .int) ∈ wl := wl_of (i := 507) (by decide +kernel) rfl
theorem tb_508 : Cond.methodLink RL 30 yX10_kind ∈ wl := wl_of (i := 508) (by decide +kernel) rfl
theorem tb_509 : Cond.instanceMethod yX10_kind ∈ wl := wl_of (i := 509) (by decide +kernel) rfl
theorem tb_510 : Cond.selects RX10 yX10_kind yX10_kind ∈ wl := wl_of (i := 510) (by decide +kernel) rfl
theorem tb_511 : Cond.code yX10_kind cX10_kind 2 (some .int) ∈ wl := wl_of (i := 511) (by decide +kernel) rfl
theorem tb_512 : Cond.methodLink RL 34 yX10_card ∈ wl := wl_of (i := 512) (by decide +kernel) rfl
theorem tb_513 : Cond.instanceMethod yX10_card ∈ wl := wl_of (i := 513) (by decide +kernel) rfl
theorem tb_514 : Cond.selects RX10 yX10_card yX10_card ∈ wl := wl_of (i := 514) (by decide +kernel) rfl
theorem tb_515 : Cond.code yX10_card cX10_card 3 (some .int) ∈ wl := wl_of (i := 515) (by decide +kernel) rfl
theorem tb_516 : Cond.methodLink RX10 83 yX10_fails ∈ wl := wl_of (i := 516) (by decide +kernel) rfl
theorem tb_518 : Cond.instanceMethod yX10_fails ∈ wl := wl_of (i := 518) (by decide +kernel) rfl
theorem tb_519 : Cond.code yX10_fails cX10_fails 2 (some .int) ∈ wl := wl_of (i := 519) (by decide +kernel) rfl
theorem tb_520 : Cond.methodLink RL 38 yX10_uncard ∈ wl := wl_of (i := 520) (by decide +kernel) rfl
theorem tb_521 : Cond.instanceMethod yX10_uncard ∈ wl := wl_of (i := 521) (by decide +kernel) rfl
theorem tb_522 : Cond.selects RX10 yX10_uncard yX10_uncard ∈ wl := wl_of (i := 522) (by decide +kernel) rfl
theorem tb_523 : Cond.code yX10_uncard cX10_uncard 2 (some .int) ∈ wl := wl_of (i := 523) (by decide +kernel) rfl
theorem tb_524 : Cond.methodLink RL 42 yX10_rename ∈ wl := wl_of (i := 524) (by decide +kernel) rfl
theorem tb_525 : Cond.instanceMethod yX10_rename ∈ wl := wl_of (i := 525) (by decide +kernel) rfl
theorem tb_526 : Cond.selects RX10 yX10_rename yX10_rename ∈ wl := wl_of (i := 526) (by decide +kernel) rfl
theorem tb_527 : Cond.code yX10_rename cX10_rename 3 (some .int) ∈ wl := wl_of (i := 527) (by decide +kernel) rfl
theorem tb_528 : Cond.methodLink RL 46 yX10_of ∈ wl := wl_of (i := 528) (by decide +kernel) rfl
theorem tb_529 : Cond.instanceMethod yX10_of ∈ wl := wl_of (i := 529) (by decide +kernel) rfl
theorem tb_530 : Cond.selects RX10 yX10_of yX10_of ∈ wl := wl_of (i := 530) (by decide +kernel) rfl
theorem tb_531 : Cond.code yX10_of cX10_of 5 (some .int) ∈ wl := wl_of (i := 531) (by decide +kernel) rfl
theorem tb_532 : Cond.methodLink RX10 86 yX10_isBlade ∈ wl := wl_of (i := 532) (by decide +kernel) rfl
theorem tb_533 : Cond.static yX10_isBlade ∈ wl := wl_of (i := 533) (by decide +kernel) rfl
theorem tb_534 : Cond.code yX10_isBlade cX10_isBlade 1 (some .boolean) ∈ wl := wl_of (i := 534) (by decide +kernel) rfl
theorem tb_535 : Cond.methodLink RX10 90 yX10_weight ∈ wl := wl_of (i := 535) (by decide +kernel) rfl
theorem tb_537 : Cond.instanceMethod yX10_weight ∈ wl := wl_of (i := 537) (by decide +kernel) rfl
theorem tb_538 : Cond.code yX10_weight cX10_weight 2 (some .int) ∈ wl := wl_of (i := 538) (by decide +kernel) rfl
theorem tb_539 : Cond.methodLink RL 50 yX10_hone ∈ wl := wl_of (i := 539) (by decide +kernel) rfl
theorem tb_540 : Cond.instanceMethod yX10_hone ∈ wl := wl_of (i := 540) (by decide +kernel) rfl
theorem tb_541 : Cond.selects RX10 yX10_hone yX10_hone ∈ wl := wl_of (i := 541) (by decide +kernel) rfl
theorem tb_542 : Cond.code yX10_hone cX10_hone 4 (some .int) ∈ wl := wl_of (i := 542) (by decide +kernel) rfl
theorem tb_543 : Cond.methodLink RL 54 yX10_use ∈ wl := wl_of (i := 543) (by decide +kernel) rfl
theorem tb_544 : Cond.instanceMethod yX10_use ∈ wl := wl_of (i := 544) (by decide +kernel) rfl
theorem tb_545 : Cond.selects RX10 yX10_use yX10_use ∈ wl := wl_of (i := 545) (by decide +kernel) rfl
theorem tb_546 : Cond.code yX10_use cX10_use 4 (some .int) ∈ wl := wl_of (i := 546) (by decide +kernel) rfl
theorem tb_547 : Cond.methodLink RX10 96 yX10_used ∈ wl := wl_of (i := 547) (by decide +kernel) rfl
theorem tb_549 : Cond.instanceMethod yX10_used ∈ wl := wl_of (i := 549) (by decide +kernel) rfl
theorem tb_550 : Cond.code yX10_used cX10_used 4 (some .int) ∈ wl := wl_of (i := 550) (by decide +kernel) rfl
theorem tb_551 : Cond.methodLink RL 59 yX10_shift ∈ wl := wl_of (i := 551) (by decide +kernel) rfl
theorem tb_552 : Cond.instanceMethod yX10_shift ∈ wl := wl_of (i := 552) (by decide +kernel) rfl
theorem tb_553 : Cond.selects RX10 yX10_shift yX10_shift ∈ wl := wl_of (i := 553) (by decide +kernel) rfl
theorem tb_554 : Cond.code yX10_shift cX10_shift 7 (some .int) ∈ wl := wl_of (i := 554) (by decide +kernel) rfl
theorem tb_555 : Cond.methodLink RL 63 yX10_tray ∈ wl := wl_of (i := 555) (by decide +kernel) rfl
theorem tb_556 : Cond.instanceMethod yX10_tray ∈ wl := wl_of (i := 556) (by decide +kernel) rfl
theorem tb_557 : Cond.selects RX10 yX10_tray yX10_tray ∈ wl := wl_of (i := 557) (by decide +kernel) rfl
theorem tb_558 : Cond.code yX10_tray cX10_tray 4 (some .int) ∈ wl := wl_of (i := 558) (by decide +kernel) rfl
theorem tb_559 : Cond.methodLink RL 67 yX10_lose ∈ wl := wl_of (i := 559) (by decide +kernel) rfl
theorem tb_560 : Cond.instanceMethod yX10_lose ∈ wl := wl_of (i := 560) (by decide +kernel) rfl
theorem tb_561 : Cond.selects RX10 yX10_lose yX10_lose ∈ wl := wl_of (i := 561) (by decide +kernel) rfl
theorem tb_562 : Cond.code yX10_lose cX10_lose 4 (some .int) ∈ wl := wl_of (i := 562) (by decide +kernel) rfl
theorem tb_563 : Cond.methodLink RX10 100 yX10_isThing ∈ wl := wl_of (i := 563) (by decide +kernel) rfl
theorem tb_564 : Cond.static yX10_isThing ∈ wl := wl_of (i := 564) (by decide +kernel) rfl
theorem tb_565 : Cond.code yX10_isThing cX10_isThing 2 (some .boolean) ∈ wl := wl_of (i := 565) (by decide +kernel) rfl
theorem tb_566 : Cond.methodLink RX10 104 yX10_sizeOf ∈ wl := wl_of (i := 566) (by decide +kernel) rfl
theorem tb_568 : Cond.instanceMethod yX10_sizeOf ∈ wl := wl_of (i := 568) (by decide +kernel) rfl
theorem tb_569 : Cond.code yX10_sizeOf cX10_sizeOf 3 (some .int) ∈ wl := wl_of (i := 569) (by decide +kernel) rfl
theorem tb_570 : Cond.methodLink RL 72 yX10_put ∈ wl := wl_of (i := 570) (by decide +kernel) rfl
theorem tb_571 : Cond.instanceMethod yX10_put ∈ wl := wl_of (i := 571) (by decide +kernel) rfl
theorem tb_572 : Cond.selects RX10 yX10_put yX10_put ∈ wl := wl_of (i := 572) (by decide +kernel) rfl
theorem tb_573 : Cond.code yX10_put cX10_put 5 (some .int) ∈ wl := wl_of (i := 573) (by decide +kernel) rfl
theorem tb_574 : Cond.methodLink RX10 107 yX10_lacks ∈ wl := wl_of (i := 574) (by decide +kernel) rfl
theorem tb_575 : Cond.static yX10_lacks ∈ wl := wl_of (i := 575) (by decide +kernel) rfl
theorem tb_576 : Cond.code yX10_lacks cX10_lacks 2 (some .int) ∈ wl := wl_of (i := 576) (by decide +kernel) rfl
theorem tb_577 : Cond.methodLink RL 76 yX10_get ∈ wl := wl_of (i := 577) (by decide +kernel) rfl
theorem tb_578 : Cond.instanceMethod yX10_get ∈ wl := wl_of (i := 578) (by decide +kernel) rfl
theorem tb_579 : Cond.selects RX10 yX10_get yX10_get ∈ wl := wl_of (i := 579) (by decide +kernel) rfl
theorem tb_580 : Cond.code yX10_get cX10_get 4 (some .int) ∈ wl := wl_of (i := 580) (by decide +kernel) rfl
theorem tb_581 : Cond.methodLink RL 80 yX10_length ∈ wl := wl_of (i := 581) (by decide +kernel) rfl
theorem tb_582 : Cond.instanceMethod yX10_length ∈ wl := wl_of (i := 582) (by decide +kernel) rfl
theorem tb_583 : Cond.selects RX10 yX10_length yX10_length ∈ wl := wl_of (i := 583) (by decide +kernel) rfl
theorem tb_584 : Cond.code yX10_length cX10_length 3 (some .int) ∈ wl := wl_of (i := 584) (by decide +kernel) rfl
theorem tb_585 : Cond.methodLink RL 84 yX10_rack ∈ wl := wl_of (i := 585) (by decide +kernel) rfl
theorem tb_586 : Cond.instanceMethod yX10_rack ∈ wl := wl_of (i := 586) (by decide +kernel) rfl
theorem tb_587 : Cond.selects RX10 yX10_rack yX10_rack ∈ wl := wl_of (i := 587) (by decide +kernel) rfl
theorem tb_588 : Cond.code yX10_rack cX10_rack 5 (some .int) ∈ wl := wl_of (i := 588) (by decide +kernel) rfl
theorem tb_589 : Cond.methodLink RL 88 yX10_lay ∈ wl := wl_of (i := 589) (by decide +kernel) rfl
theorem tb_590 : Cond.instanceMethod yX10_lay ∈ wl := wl_of (i := 590) (by decide +kernel) rfl
theorem tb_591 : Cond.selects RX10 yX10_lay yX10_lay ∈ wl := wl_of (i := 591) (by decide +kernel) rfl
theorem tb_592 : Cond.code yX10_lay cX10_lay 5 (some .int) ∈ wl := wl_of (i := 592) (by decide +kernel) rfl
theorem tb_593 : Cond.methodLink RX10 110 yX10_isOf ∈ wl := wl_of (i := 593) (by decide +kernel) rfl
theorem tb_595 : Cond.instanceMethod yX10_isOf ∈ wl := wl_of (i := 595) (by decide +kernel) rfl
theorem tb_596 : Cond.code yX10_isOf cX10_isOf 3 (some .boolean) ∈ wl := wl_of (i := 596) (by decide +kernel) rfl
theorem tb_597 : Cond.methodLink RL 92 yX10_fetch ∈ wl := wl_of (i := 597) (by decide +kernel) rfl
theorem tb_598 : Cond.instanceMethod yX10_fetch ∈ wl := wl_of (i := 598) (by decide +kernel) rfl
theorem tb_599 : Cond.selects RX10 yX10_fetch yX10_fetch ∈ wl := wl_of (i := 599) (by decide +kernel) rfl
theorem tb_600 : Cond.code yX10_fetch cX10_fetch 6 (some .int) ∈ wl := wl_of (i := 600) (by decide +kernel) rfl
theorem tb_601 : Cond.methodLink RL 96 yX10_grid ∈ wl := wl_of (i := 601) (by decide +kernel) rfl
theorem tb_602 : Cond.instanceMethod yX10_grid ∈ wl := wl_of (i := 602) (by decide +kernel) rfl
theorem tb_603 : Cond.selects RX10 yX10_grid yX10_grid ∈ wl := wl_of (i := 603) (by decide +kernel) rfl
theorem tb_604 : Cond.code yX10_grid cX10_grid 6 (some .int) ∈ wl := wl_of (i := 604) (by decide +kernel) rfl
theorem tb_605 : Cond.methodLink RL 100 yX10_strike ∈ wl := wl_of (i := 605) (by decide +kernel) rfl
theorem tb_606 : Cond.instanceMethod yX10_strike ∈ wl := wl_of (i := 606) (by decide +kernel) rfl
theorem tb_607 : Cond.selects RX10 yX10_strike yX10_strike ∈ wl := wl_of (i := 607) (by decide +kernel) rfl
theorem tb_608 : Cond.code yX10_strike cX10_strike 5 (some .int) ∈ wl := wl_of (i := 608) (by decide +kernel) rfl
theorem tb_609 : Cond.methodLink RL 104 yX10_mark ∈ wl := wl_of (i := 609) (by decide +kernel) rfl
theorem tb_610 : Cond.instanceMethod yX10_mark ∈ wl := wl_of (i := 610) (by decide +kernel) rfl
theorem tb_611 : Cond.selects RX10 yX10_mark yX10_mark ∈ wl := wl_of (i := 611) (by decide +kernel) rfl
theorem tb_612 : Cond.code yX10_mark cX10_mark 6 (some .int) ∈ wl := wl_of (i := 612) (by decide +kernel) rfl
theorem tb_613 : Cond.methodLink RX10 113 yX10_lacksCell ∈ wl := wl_of (i := 613) (by decide +kernel) rfl
theorem tb_615 : Cond.instanceMethod yX10_lacksCell ∈ wl := wl_of (i := 615) (by decide +kernel) rfl
theorem tb_616 : Cond.code yX10_lacksCell cX10_lacksCell 5 (some .int) ∈ wl := wl_of (i := 616) (by decide +kernel) rfl
theorem tb_617 : Cond.methodLink RL 108 yX10_cell ∈ wl := wl_of (i := 617) (by decide +kernel) rfl
theorem tb_618 : Cond.instanceMethod yX10_cell ∈ wl := wl_of (i := 618) (by decide +kernel) rfl
theorem tb_619 : Cond.selects RX10 yX10_cell yX10_cell ∈ wl := wl_of (i := 619) (by decide +kernel) rfl
theorem tb_620 : Cond.code yX10_cell cX10_cell 5 (some .int) ∈ wl := wl_of (i := 620) (by decide +kernel) rfl
theorem tb_621 : Cond.methodLink RL 112 yX10_alarm ∈ wl := wl_of (i := 621) (by decide +kernel) rfl
theorem tb_622 : Cond.instanceMethod yX10_alarm ∈ wl := wl_of (i := 622) (by decide +kernel) rfl
theorem tb_623 : Cond.selects RX10 yX10_alarm yX10_alarm ∈ wl := wl_of (i := 623) (by decide +kernel) rfl
theorem tb_624 : Cond.code yX10_alarm cX10_alarm 4 (some .int) ∈ wl := wl_of (i := 624) (by decide +kernel) rfl
theorem tb_625 : Cond.methodLink RL 116 yX10_calm ∈ wl := wl_of (i := 625) (by decide +kernel) rfl
theorem tb_626 : Cond.instanceMethod yX10_calm ∈ wl := wl_of (i := 626) (by decide +kernel) rfl
theorem tb_627 : Cond.selects RX10 yX10_calm yX10_calm ∈ wl := wl_of (i := 627) (by decide +kernel) rfl
theorem tb_628 : Cond.code yX10_calm cX10_calm 3 (some .int) ∈ wl := wl_of (i := 628) (by decide +kernel) rfl
theorem tb_629 : Cond.methodLink RL 120 yX10_let ∈ wl := wl_of (i := 629) (by decide +kernel) rfl
theorem tb_630 : Cond.instanceMethod yX10_let ∈ wl := wl_of (i := 630) (by decide +kernel) rfl
theorem tb_631 : Cond.selects RX10 yX10_let yX10_let ∈ wl := wl_of (i := 631) (by decide +kernel) rfl
theorem tb_632 : Cond.code yX10_let cX10_let 3 (some .int) ∈ wl := wl_of (i := 632) (by decide +kernel) rfl
theorem tb_633 : Cond.methodLink RL 125 yX10_why ∈ wl := wl_of (i := 633) (by decide +kernel) rfl
theorem tb_634 : Cond.instanceMethod yX10_why ∈ wl := wl_of (i := 634) (by decide +kernel) rfl
theorem tb_635 : Cond.selects RX10 yX10_why yX10_why ∈ wl := wl_of (i := 635) (by decide +kernel) rfl
theorem tb_636 : Cond.code yX10_why cX10_why 1 (some .int) ∈ wl := wl_of (i := 636) (by decide +kernel) rfl
theorem tb_637 : Cond.methodLink RL 129 yX10_count ∈ wl := wl_of (i := 637) (by decide +kernel) rfl
theorem tb_638 : Cond.instanceMethod yX10_count ∈ wl := wl_of (i := 638) (by decide +kernel) rfl
theorem tb_639 : Cond.selects RX10 yX10_count yX10_count ∈ wl := wl_of (i := 639) (by decide +kernel) rfl
theorem tb_640 : Cond.code yX10_count cX10_count 2 (some .int) ∈ wl := wl_of (i := 640) (by decide +kernel) rfl
theorem tb_641 : Cond.sameMethod "ToolRoom$Blade" "ToolRoom$Blade" "work" "(I)I" ∈ wl := wl_of (i := 641) (by decide +kernel) rfl
theorem tp_0 : Cond.selects RX9 yX9_refuse yX9_refuse ∈ wl := wl_sel (i := 0) (by decide +kernel) rfl
theorem tp_1 : Cond.selects RX9 yX9_done yX9_done ∈ wl := wl_sel (i := 1) (by decide +kernel) rfl
theorem tp_2 : Cond.selects RX9 yX9_fail yX9_fail ∈ wl := wl_sel (i := 2) (by decide +kernel) rfl
theorem tp_3 : Cond.selects RX9 yX9_refuseWithZero yX9_refuseWithZero ∈ wl := wl_sel (i := 3) (by decide +kernel) rfl
theorem tp_4 : Cond.selects RX9 yX9_failWithZero yX9_failWithZero ∈ wl := wl_sel (i := 4) (by decide +kernel) rfl
theorem tp_5 : Cond.selects RX9 yX9_edgeOf yX9_edgeOf ∈ wl := wl_sel (i := 5) (by decide +kernel) rfl
theorem tp_6 : Cond.selects RX9 yX9_shiftOnce yX9_shiftOnce ∈ wl := wl_sel (i := 6) (by decide +kernel) rfl
theorem tp_7 : Cond.selects RX9 yX9_holderOrNull yX9_holderOrNull ∈ wl := wl_sel (i := 7) (by decide +kernel) rfl
theorem tp_8 : Cond.selects RX10 yX10_refuses yX10_refuses ∈ wl := wl_sel (i := 8) (by decide +kernel) rfl
theorem tp_9 : Cond.selects RX10 yX10_says yX10_says ∈ wl := wl_sel (i := 9) (by decide +kernel) rfl
theorem tp_10 : Cond.selects RX10 yX10_fails yX10_fails ∈ wl := wl_sel (i := 10) (by decide +kernel) rfl
theorem tp_11 : Cond.selects RX10 yX10_weight yX10_weight ∈ wl := wl_sel (i := 11) (by decide +kernel) rfl
theorem tp_12 : Cond.selects RX10 yX10_used yX10_used ∈ wl := wl_sel (i := 12) (by decide +kernel) rfl
theorem tp_13 : Cond.selects RX10 yX10_sizeOf yX10_sizeOf ∈ wl := wl_sel (i := 13) (by decide +kernel) rfl
theorem tp_14 : Cond.selects RX10 yX10_isOf yX10_isOf ∈ wl := wl_sel (i := 14) (by decide +kernel) rfl
theorem tp_15 : Cond.selects RX10 yX10_lacksCell yX10_lacksCell ∈ wl := wl_sel (i := 15) (by decide +kernel) rfl
theorem inX0 : ∀ w ∈ wsX00, w ∈ wl := fun w hw => by
  obtain ⟨k, hk, rfl⟩ := List.mem_map.mp hw
  have hk := List.mem_range.mp hk
  match k, hk with
  | 0, _ => exact tb_167
  | 1, _ => exact tb_168
  | 2, _ => exact tb_169
  | 3, _ => exact tb_165
  | k + 4, h => exact absurd h (by omega)
theorem inX1 : ∀ w ∈ wsX10, w ∈ wl := fun w hw => by
  obtain ⟨k, hk, rfl⟩ := List.mem_map.mp hw
  have hk := List.mem_range.mp hk
  match k, hk with
  | 0, _ => exact tb_177
  | 1, _ => exact tb_178
  | 2, _ => exact tb_179
  | 3, _ => exact tb_180
  | k + 4, h => exact absurd h (by omega)
theorem inX2 : ∀ w ∈ wsX20, w ∈ wl := fun w hw => by
  obtain ⟨k, hk, rfl⟩ := List.mem_map.mp hw
  have hk := List.mem_range.mp hk
  match k, hk with
  | 0, _ => exact tb_188
  | 1, _ => exact tb_189
  | 2, _ => exact tb_190
  | k + 3, h => exact absurd h (by omega)
theorem inX3 : ∀ w ∈ wsX30, w ∈ wl := fun w hw => by
  obtain ⟨k, hk, rfl⟩ := List.mem_map.mp hw
  have hk := List.mem_range.mp hk
  match k, hk with
  | 0, _ => exact tb_80
  | 1, _ => exact tb_78
  | k + 2, h => exact absurd h (by omega)
theorem inX4 : ∀ w ∈ wsX40, w ∈ wl := fun w hw => by
  obtain ⟨k, hk, rfl⟩ := List.mem_map.mp hw
  have hk := List.mem_range.mp hk
  match k, hk with
  | 0, _ => exact tb_148
  | 1, _ => exact tb_150
  | 2, _ => exact tb_152
  | k + 3, h => exact absurd h (by omega)
theorem inX6 : ∀ w ∈ wsX60, w ∈ wl := fun w hw => by
  obtain ⟨k, hk, rfl⟩ := List.mem_map.mp hw
  have hk := List.mem_range.mp hk
  match k, hk with
  | 0, _ => exact tb_67
  | 1, _ => exact tb_63
  | 2, _ => exact tb_65
  | k + 3, h => exact absurd h (by omega)
theorem inX7 : ∀ w ∈ wsX70, w ∈ wl := fun w hw => by
  obtain ⟨k, hk, rfl⟩ := List.mem_map.mp hw
  have hk := List.mem_range.mp hk
  match k, hk with
  | 0, _ => exact tb_48
  | 1, _ => exact tb_46
  | k + 2, h => exact absurd h (by omega)
theorem inX9 : ∀ w ∈ wsX90, w ∈ wl := fun w hw => by
  obtain ⟨k, hk, rfl⟩ := List.mem_map.mp hw
  have hk := List.mem_range.mp hk
  match k, hk with
  | 0, _ => exact tb_92
  | 1, _ => exact tb_94
  | 2, _ => exact tb_96
  | 3, _ => exact tb_98
  | 4, _ => exact tb_100
  | 5, _ => exact tb_102
  | 6, _ => exact tb_104
  | 7, _ => exact tb_106
  | 8, _ => exact tb_108
  | 9, _ => exact tb_110
  | k + 10, h => exact absurd h (by omega)
theorem inX10 : ∀ w ∈ wsX100, w ∈ wl := fun w hw => by
  obtain ⟨k, hk, rfl⟩ := List.mem_map.mp hw
  have hk := List.mem_range.mp hk
  match k, hk with
  | 0, _ => exact tb_442
  | 1, _ => exact tb_444
  | 2, _ => exact tb_446
  | 3, _ => exact tb_448
  | 4, _ => exact tb_450
  | 5, _ => exact tb_452
  | 6, _ => exact tb_454
  | 7, _ => exact tb_456
  | 8, _ => exact tb_458
  | 9, _ => exact tb_460
  | 10, _ => exact tb_462
  | 11, _ => exact tb_464
  | 12, _ => exact tb_466
  | 13, _ => exact tb_468
  | 14, _ => exact tb_470
  | 15, _ => exact tb_472
  | 16, _ => exact tb_474
  | 17, _ => exact tb_476
  | 18, _ => exact tb_478
  | 19, _ => exact tb_480
  | 20, _ => exact tb_482
  | k + 21, h => exact absurd h (by omega)
end
section
theorem dX0_init_0 : decode cX0_init 0 = .ok (.aload_n 0, 1) := by decide +kernel
theorem dX0_init_1 : decode cX0_init 1 = .ok (.invokespecial 3, 3) := by decide +kernel
theorem dX0_init_4 : decode cX0_init 4 = .ok (.aload_n 0, 1) := by decide +kernel
theorem dX0_init_5 : decode cX0_init 5 = .ok (.bipush 100, 2) := by decide +kernel
theorem dX0_init_7 : decode cX0_init 7 = .ok (.putfield 9, 3) := by decide +kernel
theorem dX0_init_10 : decode cX0_init 10 = .ok (.return_, 1) := by decide +kernel
theorem dX0_kindNumber_0 : decode cX0_kindNumber 0 = .ok (.iconst 1, 1) := by decide +kernel
theorem dX0_kindNumber_1 : decode cX0_kindNumber 1 = .ok (.ireturn, 1) := by decide +kernel
theorem dX0_weight_0 : decode cX0_weight 0 = .ok (.bipush 10, 2) := by decide +kernel
theorem dX0_weight_2 : decode cX0_weight 2 = .ok (.ireturn, 1) := by decide +kernel
theorem dX0_work_0 : decode cX0_work 0 = .ok (.aload_n 0, 1) := by decide +kernel
theorem dX0_work_1 : decode cX0_work 1 = .ok (.dup, 1) := by decide +kernel
theorem dX0_work_2 : decode cX0_work 2 = .ok (.getfield 9, 3) := by decide +kernel
theorem dX0_work_5 : decode cX0_work 5 = .ok (.iload_n 1, 1) := by decide +kernel
theorem dX0_work_6 : decode cX0_work 6 = .ok (.isub, 1) := by decide +kernel
theorem dX0_work_7 : decode cX0_work 7 = .ok (.putfield 9, 3) := by decide +kernel
theorem dX0_work_10 : decode cX0_work 10 = .ok (.iload_n 1, 1) := by decide +kernel
theorem dX0_work_11 : decode cX0_work 11 = .ok (.aload_n 0, 1) := by decide +kernel
theorem dX0_work_12 : decode cX0_work 12 = .ok (.getfield 15, 3) := by decide +kernel
theorem dX0_work_15 : decode cX0_work 15 = .ok (.iadd, 1) := by decide +kernel
theorem dX0_work_16 : decode cX0_work 16 = .ok (.ireturn, 1) := by decide +kernel
theorem dX1_init_0 : decode cX1_init 0 = .ok (.aload_n 0, 1) := by decide +kernel
theorem dX1_init_1 : decode cX1_init 1 = .ok (.invokespecial 3, 3) := by decide +kernel
theorem dX1_init_4 : decode cX1_init 4 = .ok (.return_, 1) := by decide +kernel
theorem dX1_kindNumber_0 : decode cX1_kindNumber 0 = .ok (.iconst 2, 1) := by decide +kernel
theorem dX1_kindNumber_1 : decode cX1_kindNumber 1 = .ok (.ireturn, 1) := by decide +kernel
theorem dX1_weight_0 : decode cX1_weight 0 = .ok (.bipush 12, 2) := by decide +kernel
theorem dX1_weight_2 : decode cX1_weight 2 = .ok (.ireturn, 1) := by decide +kernel
theorem dX1_work_0 : decode cX1_work 0 = .ok (.aload_n 0, 1) := by decide +kernel
theorem dX1_work_1 : decode cX1_work 1 = .ok (.iload_n 1, 1) := by decide +kernel
theorem dX1_work_2 : decode cX1_work 2 = .ok (.invokespecial 9, 3) := by decide +kernel
theorem dX1_work_5 : decode cX1_work 5 = .ok (.iconst 1, 1) := by decide +kernel
theorem dX1_work_6 : decode cX1_work 6 = .ok (.iadd, 1) := by decide +kernel
theorem dX1_work_7 : decode cX1_work 7 = .ok (.istore_n 2, 1) := by decide +kernel
theorem dX1_work_8 : decode cX1_work 8 = .ok (.aload_n 0, 1) := by decide +kernel
theorem dX1_work_9 : decode cX1_work 9 = .ok (.dup, 1) := by decide +kernel
theorem dX1_work_10 : decode cX1_work 10 = .ok (.getfield 13, 3) := by decide +kernel
theorem dX1_work_13 : decode cX1_work 13 = .ok (.iconst 1, 1) := by decide +kernel
theorem dX1_work_14 : decode cX1_work 14 = .ok (.iadd, 1) := by decide +kernel
theorem dX1_work_15 : decode cX1_work 15 = .ok (.putfield 13, 3) := by decide +kernel
theorem dX1_work_18 : decode cX1_work 18 = .ok (.iload_n 2, 1) := by decide +kernel
theorem dX1_work_19 : decode cX1_work 19 = .ok (.ireturn, 1) := by decide +kernel
theorem dX2_init_0 : decode cX2_init 0 = .ok (.aload_n 0, 1) := by decide +kernel
theorem dX2_init_1 : decode cX2_init 1 = .ok (.invokespecial 3, 3) := by decide +kernel
theorem dX2_init_4 : decode cX2_init 4 = .ok (.return_, 1) := by decide +kernel
theorem dX2_kindNumber_0 : decode cX2_kindNumber 0 = .ok (.iconst 3, 1) := by decide +kernel
theorem dX2_kindNumber_1 : decode cX2_kindNumber 1 = .ok (.ireturn, 1) := by decide +kernel
theorem dX2_weight_0 : decode cX2_weight 0 = .ok (.iconst 5, 1) := by decide +kernel
theorem dX2_weight_1 : decode cX2_weight 1 = .ok (.ireturn, 1) := by decide +kernel
theorem dX2_work_0 : decode cX2_work 0 = .ok (.aload_n 0, 1) := by decide +kernel
theorem dX2_work_1 : decode cX2_work 1 = .ok (.getfield 9, 3) := by decide +kernel
theorem dX2_work_4 : decode cX2_work 4 = .ok (.istore_n 2, 1) := by decide +kernel
theorem dX2_work_5 : decode cX2_work 5 = .ok (.aload_n 0, 1) := by decide +kernel
theorem dX2_work_6 : decode cX2_work 6 = .ok (.dup, 1) := by decide +kernel
theorem dX2_work_7 : decode cX2_work 7 = .ok (.getfield 9, 3) := by decide +kernel
theorem dX2_work_10 : decode cX2_work 10 = .ok (.iconst 1, 1) := by decide +kernel
theorem dX2_work_11 : decode cX2_work 11 = .ok (.iadd, 1) := by decide +kernel
theorem dX2_work_12 : decode cX2_work 12 = .ok (.putfield 9, 3) := by decide +kernel
theorem dX2_work_15 : decode cX2_work 15 = .ok (.iload_n 2, 1) := by decide +kernel
theorem dX2_work_16 : decode cX2_work 16 = .ok (.ireturn, 1) := by decide +kernel
theorem dX3_init_0 : decode cX3_init 0 = .ok (.aload_n 0, 1) := by decide +kernel
theorem dX3_init_1 : decode cX3_init 1 = .ok (.invokespecial 3, 3) := by decide +kernel
theorem dX3_init_4 : decode cX3_init 4 = .ok (.aload_n 0, 1) := by decide +kernel
theorem dX3_init_5 : decode cX3_init 5 = .ok (.bipush 8, 2) := by decide +kernel
theorem dX3_init_7 : decode cX3_init 7 = .ok (.anewarray 9, 3) := by decide +kernel
theorem dX3_init_10 : decode cX3_init 10 = .ok (.putfield 11, 3) := by decide +kernel
theorem dX3_init_13 : decode cX3_init 13 = .ok (.iconst 0, 1) := by decide +kernel
theorem dX3_init_14 : decode cX3_init 14 = .ok (.istore_n 1, 1) := by decide +kernel
theorem dX3_init_15 : decode cX3_init 15 = .ok (.iload_n 1, 1) := by decide +kernel
theorem dX3_init_16 : decode cX3_init 16 = .ok (.bipush 8, 2) := by decide +kernel
theorem dX3_init_18 : decode cX3_init 18 = .ok (.if_icmp .ge 24, 3) := by decide +kernel
theorem dX3_init_21 : decode cX3_init 21 = .ok (.aload_n 0, 1) := by decide +kernel
theorem dX3_init_22 : decode cX3_init 22 = .ok (.getfield 11, 3) := by decide +kernel
theorem dX3_init_25 : decode cX3_init 25 = .ok (.iload_n 1, 1) := by decide +kernel
theorem dX3_init_26 : decode cX3_init 26 = .ok (.new 9, 3) := by decide +kernel
theorem dX3_init_29 : decode cX3_init 29 = .ok (.dup, 1) := by decide +kernel
theorem dX3_init_30 : decode cX3_init 30 = .ok (.bipush 8, 2) := by decide +kernel
theorem dX3_init_32 : decode cX3_init 32 = .ok (.invokespecial 17, 3) := by decide +kernel
theorem dX3_init_35 : decode cX3_init 35 = .ok (.aastore, 1) := by decide +kernel
theorem dX3_init_36 : decode cX3_init 36 = .ok (.iinc 1 1, 3) := by decide +kernel
theorem dX3_init_39 : decode cX3_init 39 = .ok (.goto (-24), 3) := by decide +kernel
theorem dX3_init_42 : decode cX3_init 42 = .ok (.return_, 1) := by decide +kernel
theorem dX3_renew_0 : decode cX3_renew 0 = .ok (.iconst 0, 1) := by decide +kernel
theorem dX3_renew_1 : decode cX3_renew 1 = .ok (.istore_n 3, 1) := by decide +kernel
theorem dX3_renew_2 : decode cX3_renew 2 = .ok (.iload_n 3, 1) := by decide +kernel
theorem dX3_renew_3 : decode cX3_renew 3 = .ok (.iload_n 1, 1) := by decide +kernel
theorem dX3_renew_4 : decode cX3_renew 4 = .ok (.if_icmp .ge 19, 3) := by decide +kernel
theorem dX3_renew_7 : decode cX3_renew 7 = .ok (.aload_n 0, 1) := by decide +kernel
theorem dX3_renew_8 : decode cX3_renew 8 = .ok (.getfield 11, 3) := by decide +kernel
theorem dX3_renew_11 : decode cX3_renew 11 = .ok (.iload_n 3, 1) := by decide +kernel
theorem dX3_renew_12 : decode cX3_renew 12 = .ok (.aaload, 1) := by decide +kernel
theorem dX3_renew_13 : decode cX3_renew 13 = .ok (.iload_n 2, 1) := by decide +kernel
theorem dX3_renew_14 : decode cX3_renew 14 = .ok (.invokevirtual 20, 3) := by decide +kernel
theorem dX3_renew_17 : decode cX3_renew 17 = .ok (.iinc 3 1, 3) := by decide +kernel
theorem dX3_renew_20 : decode cX3_renew 20 = .ok (.goto (-18), 3) := by decide +kernel
theorem dX3_renew_23 : decode cX3_renew 23 = .ok (.aload_n 0, 1) := by decide +kernel
theorem dX3_renew_24 : decode cX3_renew 24 = .ok (.iload_n 1, 1) := by decide +kernel
theorem dX3_renew_25 : decode cX3_renew 25 = .ok (.putfield 23, 3) := by decide +kernel
theorem dX3_renew_28 : decode cX3_renew 28 = .ok (.return_, 1) := by decide +kernel
theorem dX4_init_0 : decode cX4_init 0 = .ok (.aload_n 0, 1) := by decide +kernel
theorem dX4_init_1 : decode cX4_init 1 = .ok (.invokespecial 3, 3) := by decide +kernel
theorem dX4_init_4 : decode cX4_init 4 = .ok (.return_, 1) := by decide +kernel
theorem dX4_kindNumber_0 : decode cX4_kindNumber 0 = .ok (.iconst 0, 1) := by decide +kernel
theorem dX4_kindNumber_1 : decode cX4_kindNumber 1 = .ok (.ireturn, 1) := by decide +kernel
theorem dX4_weight_0 : decode cX4_weight 0 = .ok (.bipush 50, 2) := by decide +kernel
theorem dX4_weight_2 : decode cX4_weight 2 = .ok (.aload_n 0, 1) := by decide +kernel
theorem dX4_weight_3 : decode cX4_weight 3 = .ok (.getfield 9, 3) := by decide +kernel
theorem dX4_weight_6 : decode cX4_weight 6 = .ok (.iadd, 1) := by decide +kernel
theorem dX4_weight_7 : decode cX4_weight 7 = .ok (.ireturn, 1) := by decide +kernel
theorem dX4_work_0 : decode cX4_work 0 = .ok (.aload_n 0, 1) := by decide +kernel
theorem dX4_work_1 : decode cX4_work 1 = .ok (.dup, 1) := by decide +kernel
theorem dX4_work_2 : decode cX4_work 2 = .ok (.getfield 9, 3) := by decide +kernel
theorem dX4_work_5 : decode cX4_work 5 = .ok (.iload_n 1, 1) := by decide +kernel
theorem dX4_work_6 : decode cX4_work 6 = .ok (.iadd, 1) := by decide +kernel
theorem dX4_work_7 : decode cX4_work 7 = .ok (.putfield 9, 3) := by decide +kernel
theorem dX4_work_10 : decode cX4_work 10 = .ok (.iconst 2, 1) := by decide +kernel
theorem dX4_work_11 : decode cX4_work 11 = .ok (.iload_n 1, 1) := by decide +kernel
theorem dX4_work_12 : decode cX4_work 12 = .ok (.imul, 1) := by decide +kernel
theorem dX4_work_13 : decode cX4_work 13 = .ok (.ireturn, 1) := by decide +kernel
theorem dX5_init_0 : decode cX5_init 0 = .ok (.aload_n 0, 1) := by decide +kernel
theorem dX5_init_1 : decode cX5_init 1 = .ok (.invokespecial 1, 3) := by decide +kernel
theorem dX5_init_4 : decode cX5_init 4 = .ok (.aload_n 0, 1) := by decide +kernel
theorem dX5_init_5 : decode cX5_init 5 = .ok (.iconst (-1), 1) := by decide +kernel
theorem dX5_init_6 : decode cX5_init 6 = .ok (.putfield 9, 3) := by decide +kernel
theorem dX5_init_9 : decode cX5_init 9 = .ok (.return_, 1) := by decide +kernel
theorem dX5_isMissing_0 : decode cX5_isMissing 0 = .ok (.aload_n 0, 1) := by decide +kernel
theorem dX5_isMissing_1 : decode cX5_isMissing 1 = .ok (.getfield 9, 3) := by decide +kernel
theorem dX5_isMissing_4 : decode cX5_isMissing 4 = .ok (.iconst (-1), 1) := by decide +kernel
theorem dX5_isMissing_5 : decode cX5_isMissing 5 = .ok (.if_icmp .ne 7, 3) := by decide +kernel
theorem dX5_isMissing_8 : decode cX5_isMissing 8 = .ok (.iconst 1, 1) := by decide +kernel
theorem dX5_isMissing_9 : decode cX5_isMissing 9 = .ok (.goto 4, 3) := by decide +kernel
theorem dX5_isMissing_12 : decode cX5_isMissing 12 = .ok (.iconst 0, 1) := by decide +kernel
theorem dX5_isMissing_13 : decode cX5_isMissing 13 = .ok (.ireturn, 1) := by decide +kernel
theorem dX5_vanish_0 : decode cX5_vanish 0 = .ok (.aload_n 0, 1) := by decide +kernel
theorem dX5_vanish_1 : decode cX5_vanish 1 = .ok (.invokevirtual 13, 3) := by decide +kernel
theorem dX5_vanish_4 : decode cX5_vanish 4 = .ok (.ifCond .ne 7, 3) := by decide +kernel
theorem dX5_vanish_7 : decode cX5_vanish 7 = .ok (.iconst 1, 1) := by decide +kernel
theorem dX5_vanish_8 : decode cX5_vanish 8 = .ok (.goto 4, 3) := by decide +kernel
theorem dX5_vanish_11 : decode cX5_vanish 11 = .ok (.iconst 0, 1) := by decide +kernel
theorem dX5_vanish_12 : decode cX5_vanish 12 = .ok (.istore_n 1, 1) := by decide +kernel
theorem dX5_vanish_13 : decode cX5_vanish 13 = .ok (.aload_n 0, 1) := by decide +kernel
theorem dX5_vanish_14 : decode cX5_vanish 14 = .ok (.iconst (-1), 1) := by decide +kernel
theorem dX5_vanish_15 : decode cX5_vanish 15 = .ok (.putfield 9, 3) := by decide +kernel
theorem dX5_vanish_18 : decode cX5_vanish 18 = .ok (.iload_n 1, 1) := by decide +kernel
theorem dX5_vanish_19 : decode cX5_vanish 19 = .ok (.ireturn, 1) := by decide +kernel
theorem dX6_init_0 : decode cX6_init 0 = .ok (.aload_n 0, 1) := by decide +kernel
theorem dX6_init_1 : decode cX6_init 1 = .ok (.invokespecial 3, 3) := by decide +kernel
theorem dX6_init_4 : decode cX6_init 4 = .ok (.aload_n 0, 1) := by decide +kernel
theorem dX6_init_5 : decode cX6_init 5 = .ok (.bipush 10, 2) := by decide +kernel
theorem dX6_init_7 : decode cX6_init 7 = .ok (.anewarray 9, 3) := by decide +kernel
theorem dX6_init_10 : decode cX6_init 10 = .ok (.putfield 11, 3) := by decide +kernel
theorem dX6_init_13 : decode cX6_init 13 = .ok (.aload_n 0, 1) := by decide +kernel
theorem dX6_init_14 : decode cX6_init 14 = .ok (.iconst 0, 1) := by decide +kernel
theorem dX6_init_15 : decode cX6_init 15 = .ok (.putfield 17, 3) := by decide +kernel
theorem dX6_init_18 : decode cX6_init 18 = .ok (.return_, 1) := by decide +kernel
theorem dX6_renew_0 : decode cX6_renew 0 = .ok (.iconst 0, 1) := by decide +kernel
theorem dX6_renew_1 : decode cX6_renew 1 = .ok (.istore_n 3, 1) := by decide +kernel
theorem dX6_renew_2 : decode cX6_renew 2 = .ok (.iload_n 3, 1) := by decide +kernel
theorem dX6_renew_3 : decode cX6_renew 3 = .ok (.bipush 10, 2) := by decide +kernel
theorem dX6_renew_5 : decode cX6_renew 5 = .ok (.if_icmp .ge 16, 3) := by decide +kernel
theorem dX6_renew_8 : decode cX6_renew 8 = .ok (.aload_n 0, 1) := by decide +kernel
theorem dX6_renew_9 : decode cX6_renew 9 = .ok (.getfield 11, 3) := by decide +kernel
theorem dX6_renew_12 : decode cX6_renew 12 = .ok (.iload_n 3, 1) := by decide +kernel
theorem dX6_renew_13 : decode cX6_renew 13 = .ok (.aconst_null, 1) := by decide +kernel
theorem dX6_renew_14 : decode cX6_renew 14 = .ok (.aastore, 1) := by decide +kernel
theorem dX6_renew_15 : decode cX6_renew 15 = .ok (.iinc 3 1, 3) := by decide +kernel
theorem dX6_renew_18 : decode cX6_renew 18 = .ok (.goto (-16), 3) := by decide +kernel
theorem dX6_renew_21 : decode cX6_renew 21 = .ok (.aload_n 0, 1) := by decide +kernel
theorem dX6_renew_22 : decode cX6_renew 22 = .ok (.iload_n 1, 1) := by decide +kernel
theorem dX6_renew_23 : decode cX6_renew 23 = .ok (.putfield 17, 3) := by decide +kernel
theorem dX6_renew_26 : decode cX6_renew 26 = .ok (.aload_n 0, 1) := by decide +kernel
theorem dX6_renew_27 : decode cX6_renew 27 = .ok (.iload_n 2, 1) := by decide +kernel
theorem dX6_renew_28 : decode cX6_renew 28 = .ok (.putfield 21, 3) := by decide +kernel
theorem dX6_renew_31 : decode cX6_renew 31 = .ok (.return_, 1) := by decide +kernel
theorem dX7_init_0 : decode cX7_init 0 = .ok (.aload_n 0, 1) := by decide +kernel
theorem dX7_init_1 : decode cX7_init 1 = .ok (.invokespecial 1, 3) := by decide +kernel
theorem dX7_init_4 : decode cX7_init 4 = .ok (.aload_n 0, 1) := by decide +kernel
theorem dX7_init_5 : decode cX7_init 5 = .ok (.iload_n 1, 1) := by decide +kernel
theorem dX7_init_6 : decode cX7_init 6 = .ok (.newarray .int, 2) := by decide +kernel
theorem dX7_init_8 : decode cX7_init 8 = .ok (.putfield 7, 3) := by decide +kernel
theorem dX7_init_11 : decode cX7_init 11 = .ok (.return_, 1) := by decide +kernel
theorem dX7_renew_0 : decode cX7_renew 0 = .ok (.iconst 0, 1) := by decide +kernel
theorem dX7_renew_1 : decode cX7_renew 1 = .ok (.istore_n 2, 1) := by decide +kernel
theorem dX7_renew_2 : decode cX7_renew 2 = .ok (.iload_n 2, 1) := by decide +kernel
theorem dX7_renew_3 : decode cX7_renew 3 = .ok (.aload_n 0, 1) := by decide +kernel
theorem dX7_renew_4 : decode cX7_renew 4 = .ok (.getfield 7, 3) := by decide +kernel
theorem dX7_renew_7 : decode cX7_renew 7 = .ok (.arraylength, 1) := by decide +kernel
theorem dX7_renew_8 : decode cX7_renew 8 = .ok (.if_icmp .ge 16, 3) := by decide +kernel
theorem dX7_renew_11 : decode cX7_renew 11 = .ok (.aload_n 0, 1) := by decide +kernel
theorem dX7_renew_12 : decode cX7_renew 12 = .ok (.getfield 7, 3) := by decide +kernel
theorem dX7_renew_15 : decode cX7_renew 15 = .ok (.iload_n 2, 1) := by decide +kernel
theorem dX7_renew_16 : decode cX7_renew 16 = .ok (.iconst 0, 1) := by decide +kernel
theorem dX7_renew_17 : decode cX7_renew 17 = .ok (.iastore, 1) := by decide +kernel
theorem dX7_renew_18 : decode cX7_renew 18 = .ok (.iinc 2 1, 3) := by decide +kernel
theorem dX7_renew_21 : decode cX7_renew 21 = .ok (.goto (-19), 3) := by decide +kernel
theorem dX7_renew_24 : decode cX7_renew 24 = .ok (.aload_n 0, 1) := by decide +kernel
theorem dX7_renew_25 : decode cX7_renew 25 = .ok (.iload_n 1, 1) := by decide +kernel
theorem dX7_renew_26 : decode cX7_renew 26 = .ok (.putfield 13, 3) := by decide +kernel
theorem dX7_renew_29 : decode cX7_renew 29 = .ok (.return_, 1) := by decide +kernel
theorem dX8_init_0 : decode cX8_init 0 = .ok (.aload_n 0, 1) := by decide +kernel
theorem dX8_init_1 : decode cX8_init 1 = .ok (.invokespecial 1, 3) := by decide +kernel
theorem dX8_init_4 : decode cX8_init 4 = .ok (.aload_n 0, 1) := by decide +kernel
theorem dX8_init_5 : decode cX8_init 5 = .ok (.iconst 0, 1) := by decide +kernel
theorem dX8_init_6 : decode cX8_init 6 = .ok (.putfield 7, 3) := by decide +kernel
theorem dX8_init_9 : decode cX8_init 9 = .ok (.aload_n 0, 1) := by decide +kernel
theorem dX8_init_10 : decode cX8_init 10 = .ok (.iconst 0, 1) := by decide +kernel
theorem dX8_init_11 : decode cX8_init 11 = .ok (.putfield 13, 3) := by decide +kernel
theorem dX8_init_14 : decode cX8_init 14 = .ok (.aload_n 0, 1) := by decide +kernel
theorem dX8_init_15 : decode cX8_init 15 = .ok (.iconst 0, 1) := by decide +kernel
theorem dX8_init_16 : decode cX8_init 16 = .ok (.putfield 17, 3) := by decide +kernel
theorem dX8_init_19 : decode cX8_init 19 = .ok (.return_, 1) := by decide +kernel
theorem dX9_init_0 : decode cX9_init 0 = .ok (.aload_n 0, 1) := by decide +kernel
theorem dX9_init_1 : decode cX9_init 1 = .ok (.invokespecial 1, 3) := by decide +kernel
theorem dX9_init_4 : decode cX9_init 4 = .ok (.aload_n 0, 1) := by decide +kernel
theorem dX9_init_5 : decode cX9_init 5 = .ok (.bipush 10, 2) := by decide +kernel
theorem dX9_init_7 : decode cX9_init 7 = .ok (.anewarray 9, 3) := by decide +kernel
theorem dX9_init_10 : decode cX9_init 10 = .ok (.putfield 11, 3) := by decide +kernel
theorem dX9_init_13 : decode cX9_init 13 = .ok (.aload_n 0, 1) := by decide +kernel
theorem dX9_init_14 : decode cX9_init 14 = .ok (.iconst 4, 1) := by decide +kernel
theorem dX9_init_15 : decode cX9_init 15 = .ok (.anewarray 15, 3) := by decide +kernel
theorem dX9_init_18 : decode cX9_init 18 = .ok (.putfield 17, 3) := by decide +kernel
theorem dX9_init_21 : decode cX9_init 21 = .ok (.aload_n 0, 1) := by decide +kernel
theorem dX9_init_22 : decode cX9_init 22 = .ok (.iconst 4, 1) := by decide +kernel
theorem dX9_init_23 : decode cX9_init 23 = .ok (.anewarray 21, 3) := by decide +kernel
theorem dX9_init_26 : decode cX9_init 26 = .ok (.putfield 23, 3) := by decide +kernel
theorem dX9_init_29 : decode cX9_init 29 = .ok (.aload_n 0, 1) := by decide +kernel
theorem dX9_init_30 : decode cX9_init 30 = .ok (.iconst 2, 1) := by decide +kernel
theorem dX9_init_31 : decode cX9_init 31 = .ok (.anewarray 27, 3) := by decide +kernel
theorem dX9_init_34 : decode cX9_init 34 = .ok (.putfield 29, 3) := by decide +kernel
theorem dX9_init_37 : decode cX9_init 37 = .ok (.aload_n 0, 1) := by decide +kernel
theorem dX9_init_38 : decode cX9_init 38 = .ok (.iconst 4, 1) := by decide +kernel
theorem dX9_init_39 : decode cX9_init 39 = .ok (.newarray .boolean, 2) := by decide +kernel
theorem dX9_init_41 : decode cX9_init 41 = .ok (.putfield 33, 3) := by decide +kernel
theorem dX9_init_44 : decode cX9_init 44 = .ok (.aload_n 0, 1) := by decide +kernel
theorem dX9_init_45 : decode cX9_init 45 = .ok (.iconst 4, 1) := by decide +kernel
theorem dX9_init_46 : decode cX9_init 46 = .ok (.newarray .int, 2) := by decide +kernel
theorem dX9_init_48 : decode cX9_init 48 = .ok (.putfield 37, 3) := by decide +kernel
theorem dX9_init_51 : decode cX9_init 51 = .ok (.aload_n 0, 1) := by decide +kernel
theorem dX9_init_52 : decode cX9_init 52 = .ok (.bipush 7, 2) := by decide +kernel
theorem dX9_init_54 : decode cX9_init 54 = .ok (.newarray .int, 2) := by decide +kernel
theorem dX9_init_56 : decode cX9_init 56 = .ok (.putfield 41, 3) := by decide +kernel
theorem dX9_init_59 : decode cX9_init 59 = .ok (.aload_n 0, 1) := by decide +kernel
theorem dX9_init_60 : decode cX9_init 60 = .ok (.iconst 0, 1) := by decide +kernel
theorem dX9_init_61 : decode cX9_init 61 = .ok (.putfield 44, 3) := by decide +kernel
theorem dX9_init_64 : decode cX9_init 64 = .ok (.aload_n 0, 1) := by decide +kernel
theorem dX9_init_65 : decode cX9_init 65 = .ok (.iconst 0, 1) := by decide +kernel
theorem dX9_init_66 : decode cX9_init 66 = .ok (.putfield 48, 3) := by decide +kernel
theorem dX9_init_69 : decode cX9_init 69 = .ok (.aload_n 0, 1) := by decide +kernel
theorem dX9_init_70 : decode cX9_init 70 = .ok (.iconst 0, 1) := by decide +kernel
theorem dX9_init_71 : decode cX9_init 71 = .ok (.putfield 51, 3) := by decide +kernel
theorem dX9_init_74 : decode cX9_init 74 = .ok (.iconst 0, 1) := by decide +kernel
theorem dX9_init_75 : decode cX9_init 75 = .ok (.istore_n 1, 1) := by decide +kernel
theorem dX9_init_76 : decode cX9_init 76 = .ok (.iload_n 1, 1) := by decide +kernel
theorem dX9_init_77 : decode cX9_init 77 = .ok (.iconst 4, 1) := by decide +kernel
theorem dX9_init_78 : decode cX9_init 78 = .ok (.if_icmp .ge 24, 3) := by decide +kernel
theorem dX9_init_81 : decode cX9_init 81 = .ok (.aload_n 0, 1) := by decide +kernel
theorem dX9_init_82 : decode cX9_init 82 = .ok (.getfield 17, 3) := by decide +kernel
theorem dX9_init_85 : decode cX9_init 85 = .ok (.iload_n 1, 1) := by decide +kernel
theorem dX9_init_86 : decode cX9_init 86 = .ok (.new 15, 3) := by decide +kernel
theorem dX9_init_89 : decode cX9_init 89 = .ok (.dup, 1) := by decide +kernel
theorem dX9_init_90 : decode cX9_init 90 = .ok (.bipush 20, 2) := by decide +kernel
theorem dX9_init_92 : decode cX9_init 92 = .ok (.invokespecial 54, 3) := by decide +kernel
theorem dX9_init_95 : decode cX9_init 95 = .ok (.aastore, 1) := by decide +kernel
theorem dX9_init_96 : decode cX9_init 96 = .ok (.iinc 1 1, 3) := by decide +kernel
theorem dX9_init_99 : decode cX9_init 99 = .ok (.goto (-23), 3) := by decide +kernel
theorem dX9_init_102 : decode cX9_init 102 = .ok (.iconst 0, 1) := by decide +kernel
theorem dX9_init_103 : decode cX9_init 103 = .ok (.istore_n 1, 1) := by decide +kernel
theorem dX9_init_104 : decode cX9_init 104 = .ok (.iload_n 1, 1) := by decide +kernel
theorem dX9_init_105 : decode cX9_init 105 = .ok (.iconst 4, 1) := by decide +kernel
theorem dX9_init_106 : decode cX9_init 106 = .ok (.if_icmp .ge 22, 3) := by decide +kernel
theorem dX9_init_109 : decode cX9_init 109 = .ok (.aload_n 0, 1) := by decide +kernel
theorem dX9_init_110 : decode cX9_init 110 = .ok (.getfield 23, 3) := by decide +kernel
theorem dX9_init_113 : decode cX9_init 113 = .ok (.iload_n 1, 1) := by decide +kernel
theorem dX9_init_114 : decode cX9_init 114 = .ok (.new 21, 3) := by decide +kernel
theorem dX9_init_117 : decode cX9_init 117 = .ok (.dup, 1) := by decide +kernel
theorem dX9_init_118 : decode cX9_init 118 = .ok (.invokespecial 57, 3) := by decide +kernel
theorem dX9_init_121 : decode cX9_init 121 = .ok (.aastore, 1) := by decide +kernel
theorem dX9_init_122 : decode cX9_init 122 = .ok (.iinc 1 1, 3) := by decide +kernel
theorem dX9_init_125 : decode cX9_init 125 = .ok (.goto (-21), 3) := by decide +kernel
theorem dX9_init_128 : decode cX9_init 128 = .ok (.iconst 0, 1) := by decide +kernel
theorem dX9_init_129 : decode cX9_init 129 = .ok (.istore_n 1, 1) := by decide +kernel
theorem dX9_init_130 : decode cX9_init 130 = .ok (.iload_n 1, 1) := by decide +kernel
theorem dX9_init_131 : decode cX9_init 131 = .ok (.iconst 2, 1) := by decide +kernel
theorem dX9_init_132 : decode cX9_init 132 = .ok (.if_icmp .ge 22, 3) := by decide +kernel
theorem dX9_init_135 : decode cX9_init 135 = .ok (.aload_n 0, 1) := by decide +kernel
theorem dX9_init_136 : decode cX9_init 136 = .ok (.getfield 29, 3) := by decide +kernel
theorem dX9_init_139 : decode cX9_init 139 = .ok (.iload_n 1, 1) := by decide +kernel
theorem dX9_init_140 : decode cX9_init 140 = .ok (.new 27, 3) := by decide +kernel
theorem dX9_init_143 : decode cX9_init 143 = .ok (.dup, 1) := by decide +kernel
theorem dX9_init_144 : decode cX9_init 144 = .ok (.invokespecial 58, 3) := by decide +kernel
theorem dX9_init_147 : decode cX9_init 147 = .ok (.aastore, 1) := by decide +kernel
theorem dX9_init_148 : decode cX9_init 148 = .ok (.iinc 1 1, 3) := by decide +kernel
theorem dX9_init_151 : decode cX9_init 151 = .ok (.goto (-21), 3) := by decide +kernel
theorem dX9_init_154 : decode cX9_init 154 = .ok (.return_, 1) := by decide +kernel
theorem dX9_tool_0 : decode cX9_tool 0 = .ok (.iload_n 1, 1) := by decide +kernel
theorem dX9_tool_1 : decode cX9_tool 1 = .ok (.bipush 10, 2) := by decide +kernel
theorem dX9_tool_3 : decode cX9_tool 3 = .ok (.invokestatic 59, 3) := by decide +kernel
theorem dX9_tool_6 : decode cX9_tool 6 = .ok (.ifCond .ne 10, 3) := by decide +kernel
theorem dX9_tool_9 : decode cX9_tool 9 = .ok (.aload_n 0, 1) := by decide +kernel
theorem dX9_tool_10 : decode cX9_tool 10 = .ok (.bipush (-2), 2) := by decide +kernel
theorem dX9_tool_12 : decode cX9_tool 12 = .ok (.invokevirtual 63, 3) := by decide +kernel
theorem dX9_tool_15 : decode cX9_tool 15 = .ok (.ireturn, 1) := by decide +kernel
theorem dX9_tool_16 : decode cX9_tool 16 = .ok (.iload_n 2, 1) := by decide +kernel
theorem dX9_tool_17 : decode cX9_tool 17 = .ok (.iconst 4, 1) := by decide +kernel
theorem dX9_tool_18 : decode cX9_tool 18 = .ok (.invokestatic 59, 3) := by decide +kernel
theorem dX9_tool_21 : decode cX9_tool 21 = .ok (.ifCond .ne 10, 3) := by decide +kernel
theorem dX9_tool_24 : decode cX9_tool 24 = .ok (.aload_n 0, 1) := by decide +kernel
theorem dX9_tool_25 : decode cX9_tool 25 = .ok (.bipush (-3), 2) := by decide +kernel
theorem dX9_tool_27 : decode cX9_tool 27 = .ok (.invokevirtual 63, 3) := by decide +kernel
theorem dX9_tool_30 : decode cX9_tool 30 = .ok (.ireturn, 1) := by decide +kernel
theorem dX9_tool_31 : decode cX9_tool 31 = .ok (.aload_n 0, 1) := by decide +kernel
theorem dX9_tool_32 : decode cX9_tool 32 = .ok (.getfield 11, 3) := by decide +kernel
theorem dX9_tool_35 : decode cX9_tool 35 = .ok (.iload_n 1, 1) := by decide +kernel
theorem dX9_tool_36 : decode cX9_tool 36 = .ok (.aaload, 1) := by decide +kernel
theorem dX9_tool_37 : decode cX9_tool 37 = .ok (.ifnull 7, 3) := by decide +kernel
theorem dX9_tool_40 : decode cX9_tool 40 = .ok (.iconst 1, 1) := by decide +kernel
theorem dX9_tool_41 : decode cX9_tool 41 = .ok (.goto 4, 3) := by decide +kernel
theorem dX9_tool_44 : decode cX9_tool 44 = .ok (.iconst 0, 1) := by decide +kernel
theorem dX9_tool_45 : decode cX9_tool 45 = .ok (.istore_n 3, 1) := by decide +kernel
theorem dX9_tool_46 : decode cX9_tool 46 = .ok (.aload_n 0, 1) := by decide +kernel
theorem dX9_tool_47 : decode cX9_tool 47 = .ok (.getfield 11, 3) := by decide +kernel
theorem dX9_tool_50 : decode cX9_tool 50 = .ok (.iload_n 1, 1) := by decide +kernel
theorem dX9_tool_51 : decode cX9_tool 51 = .ok (.iload_n 2, 1) := by decide +kernel
theorem dX9_tool_52 : decode cX9_tool 52 = .ok (.invokestatic 67, 3) := by decide +kernel
theorem dX9_tool_55 : decode cX9_tool 55 = .ok (.aastore, 1) := by decide +kernel
theorem dX9_tool_56 : decode cX9_tool 56 = .ok (.aload_n 0, 1) := by decide +kernel
theorem dX9_tool_57 : decode cX9_tool 57 = .ok (.iload_n 3, 1) := by decide +kernel
theorem dX9_tool_58 : decode cX9_tool 58 = .ok (.ifCond .eq 7, 3) := by decide +kernel
theorem dX9_tool_61 : decode cX9_tool 61 = .ok (.iconst 1, 1) := by decide +kernel
theorem dX9_tool_62 : decode cX9_tool 62 = .ok (.goto 4, 3) := by decide +kernel
theorem dX9_tool_65 : decode cX9_tool 65 = .ok (.iconst 0, 1) := by decide +kernel
theorem dX9_tool_66 : decode cX9_tool 66 = .ok (.invokevirtual 71, 3) := by decide +kernel
theorem dX9_tool_69 : decode cX9_tool 69 = .ok (.ireturn, 1) := by decide +kernel
theorem dX9_hang_0 : decode cX9_hang 0 = .ok (.iload_n 1, 1) := by decide +kernel
theorem dX9_hang_1 : decode cX9_hang 1 = .ok (.bipush 10, 2) := by decide +kernel
theorem dX9_hang_3 : decode cX9_hang 3 = .ok (.invokestatic 59, 3) := by decide +kernel
theorem dX9_hang_6 : decode cX9_hang 6 = .ok (.ifCond .eq 12, 3) := by decide +kernel
theorem dX9_hang_9 : decode cX9_hang 9 = .ok (.iload_n 2, 1) := by decide +kernel
theorem dX9_hang_10 : decode cX9_hang 10 = .ok (.bipush 10, 2) := by decide +kernel
theorem dX9_hang_12 : decode cX9_hang 12 = .ok (.invokestatic 59, 3) := by decide +kernel
theorem dX9_hang_15 : decode cX9_hang 15 = .ok (.ifCond .ne 10, 3) := by decide +kernel
theorem dX9_hang_18 : decode cX9_hang 18 = .ok (.aload_n 0, 1) := by decide +kernel
theorem dX9_hang_19 : decode cX9_hang 19 = .ok (.bipush (-2), 2) := by decide +kernel
theorem dX9_hang_21 : decode cX9_hang 21 = .ok (.invokevirtual 63, 3) := by decide +kernel
theorem dX9_hang_24 : decode cX9_hang 24 = .ok (.ireturn, 1) := by decide +kernel
theorem dX9_hang_25 : decode cX9_hang 25 = .ok (.aload_n 0, 1) := by decide +kernel
theorem dX9_hang_26 : decode cX9_hang 26 = .ok (.getfield 11, 3) := by decide +kernel
theorem dX9_hang_29 : decode cX9_hang 29 = .ok (.iload_n 1, 1) := by decide +kernel
theorem dX9_hang_30 : decode cX9_hang 30 = .ok (.aload_n 0, 1) := by decide +kernel
theorem dX9_hang_31 : decode cX9_hang 31 = .ok (.getfield 11, 3) := by decide +kernel
theorem dX9_hang_34 : decode cX9_hang 34 = .ok (.iload_n 2, 1) := by decide +kernel
theorem dX9_hang_35 : decode cX9_hang 35 = .ok (.aaload, 1) := by decide +kernel
theorem dX9_hang_36 : decode cX9_hang 36 = .ok (.aastore, 1) := by decide +kernel
theorem dX9_hang_37 : decode cX9_hang 37 = .ok (.aload_n 0, 1) := by decide +kernel
theorem dX9_hang_38 : decode cX9_hang 38 = .ok (.aload_n 0, 1) := by decide +kernel
theorem dX9_hang_39 : decode cX9_hang 39 = .ok (.getfield 11, 3) := by decide +kernel
theorem dX9_hang_42 : decode cX9_hang 42 = .ok (.iload_n 1, 1) := by decide +kernel
theorem dX9_hang_43 : decode cX9_hang 43 = .ok (.aaload, 1) := by decide +kernel
theorem dX9_hang_44 : decode cX9_hang 44 = .ok (.ifnull 7, 3) := by decide +kernel
theorem dX9_hang_47 : decode cX9_hang 47 = .ok (.iconst 1, 1) := by decide +kernel
theorem dX9_hang_48 : decode cX9_hang 48 = .ok (.goto 4, 3) := by decide +kernel
theorem dX9_hang_51 : decode cX9_hang 51 = .ok (.iconst 0, 1) := by decide +kernel
theorem dX9_hang_52 : decode cX9_hang 52 = .ok (.invokevirtual 71, 3) := by decide +kernel
theorem dX9_hang_55 : decode cX9_hang 55 = .ok (.ireturn, 1) := by decide +kernel
theorem dX9_unhang_0 : decode cX9_unhang 0 = .ok (.iload_n 1, 1) := by decide +kernel
theorem dX9_unhang_1 : decode cX9_unhang 1 = .ok (.bipush 10, 2) := by decide +kernel
theorem dX9_unhang_3 : decode cX9_unhang 3 = .ok (.invokestatic 59, 3) := by decide +kernel
theorem dX9_unhang_6 : decode cX9_unhang 6 = .ok (.ifCond .ne 10, 3) := by decide +kernel
theorem dX9_unhang_9 : decode cX9_unhang 9 = .ok (.aload_n 0, 1) := by decide +kernel
theorem dX9_unhang_10 : decode cX9_unhang 10 = .ok (.bipush (-2), 2) := by decide +kernel
theorem dX9_unhang_12 : decode cX9_unhang 12 = .ok (.invokevirtual 63, 3) := by decide +kernel
theorem dX9_unhang_15 : decode cX9_unhang 15 = .ok (.ireturn, 1) := by decide +kernel
theorem dX9_unhang_16 : decode cX9_unhang 16 = .ok (.aload_n 0, 1) := by decide +kernel
theorem dX9_unhang_17 : decode cX9_unhang 17 = .ok (.getfield 11, 3) := by decide +kernel
theorem dX9_unhang_20 : decode cX9_unhang 20 = .ok (.iload_n 1, 1) := by decide +kernel
theorem dX9_unhang_21 : decode cX9_unhang 21 = .ok (.aaload, 1) := by decide +kernel
theorem dX9_unhang_22 : decode cX9_unhang 22 = .ok (.ifnull 7, 3) := by decide +kernel
theorem dX9_unhang_25 : decode cX9_unhang 25 = .ok (.iconst 1, 1) := by decide +kernel
theorem dX9_unhang_26 : decode cX9_unhang 26 = .ok (.goto 4, 3) := by decide +kernel
theorem dX9_unhang_29 : decode cX9_unhang 29 = .ok (.iconst 0, 1) := by decide +kernel
theorem dX9_unhang_30 : decode cX9_unhang 30 = .ok (.istore_n 2, 1) := by decide +kernel
theorem dX9_unhang_31 : decode cX9_unhang 31 = .ok (.aload_n 0, 1) := by decide +kernel
theorem dX9_unhang_32 : decode cX9_unhang 32 = .ok (.getfield 11, 3) := by decide +kernel
theorem dX9_unhang_35 : decode cX9_unhang 35 = .ok (.iload_n 1, 1) := by decide +kernel
theorem dX9_unhang_36 : decode cX9_unhang 36 = .ok (.aconst_null, 1) := by decide +kernel
theorem dX9_unhang_37 : decode cX9_unhang 37 = .ok (.aastore, 1) := by decide +kernel
theorem dX9_unhang_38 : decode cX9_unhang 38 = .ok (.aload_n 0, 1) := by decide +kernel
theorem dX9_unhang_39 : decode cX9_unhang 39 = .ok (.iload_n 2, 1) := by decide +kernel
theorem dX9_unhang_40 : decode cX9_unhang 40 = .ok (.ifCond .eq 7, 3) := by decide +kernel
theorem dX9_unhang_43 : decode cX9_unhang 43 = .ok (.iconst 1, 1) := by decide +kernel
theorem dX9_unhang_44 : decode cX9_unhang 44 = .ok (.goto 4, 3) := by decide +kernel
theorem dX9_unhang_47 : decode cX9_unhang 47 = .ok (.iconst 0, 1) := by decide +kernel
theorem dX9_unhang_48 : decode cX9_unhang 48 = .ok (.invokevirtual 71, 3) := by decide +kernel
theorem dX9_unhang_51 : decode cX9_unhang 51 = .ok (.ireturn, 1) := by decide +kernel
theorem dX9_kind_0 : decode cX9_kind 0 = .ok (.iload_n 1, 1) := by decide +kernel
theorem dX9_kind_1 : decode cX9_kind 1 = .ok (.bipush 10, 2) := by decide +kernel
theorem dX9_kind_3 : decode cX9_kind 3 = .ok (.invokestatic 59, 3) := by decide +kernel
theorem dX9_kind_6 : decode cX9_kind 6 = .ok (.ifCond .ne 10, 3) := by decide +kernel
theorem dX9_kind_9 : decode cX9_kind 9 = .ok (.aload_n 0, 1) := by decide +kernel
theorem dX9_kind_10 : decode cX9_kind 10 = .ok (.bipush (-2), 2) := by decide +kernel
theorem dX9_kind_12 : decode cX9_kind 12 = .ok (.invokevirtual 63, 3) := by decide +kernel
theorem dX9_kind_15 : decode cX9_kind 15 = .ok (.ireturn, 1) := by decide +kernel
theorem dX9_kind_16 : decode cX9_kind 16 = .ok (.aload_n 0, 1) := by decide +kernel
theorem dX9_kind_17 : decode cX9_kind 17 = .ok (.getfield 11, 3) := by decide +kernel
theorem dX9_kind_20 : decode cX9_kind 20 = .ok (.iload_n 1, 1) := by decide +kernel
theorem dX9_kind_21 : decode cX9_kind 21 = .ok (.aaload, 1) := by decide +kernel
theorem dX9_kind_22 : decode cX9_kind 22 = .ok (.astore_n 2, 1) := by decide +kernel
theorem dX9_kind_23 : decode cX9_kind 23 = .ok (.aload_n 0, 1) := by decide +kernel
theorem dX9_kind_24 : decode cX9_kind 24 = .ok (.aload_n 2, 1) := by decide +kernel
theorem dX9_kind_25 : decode cX9_kind 25 = .ok (.ifnonnull 7, 3) := by decide +kernel
theorem dX9_kind_28 : decode cX9_kind 28 = .ok (.iconst (-1), 1) := by decide +kernel
theorem dX9_kind_29 : decode cX9_kind 29 = .ok (.goto 7, 3) := by decide +kernel
theorem dX9_kind_32 : decode cX9_kind 32 = .ok (.aload_n 2, 1) := by decide +kernel
theorem dX9_kind_33 : decode cX9_kind 33 = .ok (.invokevirtual 74, 3) := by decide +kernel
theorem dX9_kind_36 : decode cX9_kind 36 = .ok (.invokevirtual 71, 3) := by decide +kernel
theorem dX9_kind_39 : decode cX9_kind 39 = .ok (.ireturn, 1) := by decide +kernel
theorem dX9_card_0 : decode cX9_card 0 = .ok (.iload_n 1, 1) := by decide +kernel
theorem dX9_card_1 : decode cX9_card 1 = .ok (.bipush 10, 2) := by decide +kernel
theorem dX9_card_3 : decode cX9_card 3 = .ok (.invokestatic 59, 3) := by decide +kernel
theorem dX9_card_6 : decode cX9_card 6 = .ok (.ifCond .ne 10, 3) := by decide +kernel
theorem dX9_card_9 : decode cX9_card 9 = .ok (.aload_n 0, 1) := by decide +kernel
theorem dX9_card_10 : decode cX9_card 10 = .ok (.bipush (-2), 2) := by decide +kernel
theorem dX9_card_12 : decode cX9_card 12 = .ok (.invokevirtual 63, 3) := by decide +kernel
theorem dX9_card_15 : decode cX9_card 15 = .ok (.ireturn, 1) := by decide +kernel
theorem dX9_card_16 : decode cX9_card 16 = .ok (.aload_n 0, 1) := by decide +kernel
theorem dX9_card_17 : decode cX9_card 17 = .ok (.getfield 11, 3) := by decide +kernel
theorem dX9_card_20 : decode cX9_card 20 = .ok (.iload_n 1, 1) := by decide +kernel
theorem dX9_card_21 : decode cX9_card 21 = .ok (.aaload, 1) := by decide +kernel
theorem dX9_card_22 : decode cX9_card 22 = .ok (.astore_n 3, 1) := by decide +kernel
theorem dX9_card_23 : decode cX9_card 23 = .ok (.aload_n 3, 1) := by decide +kernel
theorem dX9_card_24 : decode cX9_card 24 = .ok (.ifnonnull 9, 3) := by decide +kernel
theorem dX9_card_27 : decode cX9_card 27 = .ok (.aload_n 0, 1) := by decide +kernel
theorem dX9_card_28 : decode cX9_card 28 = .ok (.iconst 1, 1) := by decide +kernel
theorem dX9_card_29 : decode cX9_card 29 = .ok (.invokevirtual 78, 3) := by decide +kernel
theorem dX9_card_32 : decode cX9_card 32 = .ok (.ireturn, 1) := by decide +kernel
theorem dX9_card_33 : decode cX9_card 33 = .ok (.aload_n 3, 1) := by decide +kernel
theorem dX9_card_34 : decode cX9_card 34 = .ok (.iconst 1, 1) := by decide +kernel
theorem dX9_card_35 : decode cX9_card 35 = .ok (.putfield 81, 3) := by decide +kernel
theorem dX9_card_38 : decode cX9_card 38 = .ok (.aload_n 3, 1) := by decide +kernel
theorem dX9_card_39 : decode cX9_card 39 = .ok (.iload_n 2, 1) := by decide +kernel
theorem dX9_card_40 : decode cX9_card 40 = .ok (.putfield 85, 3) := by decide +kernel
theorem dX9_card_43 : decode cX9_card 43 = .ok (.aload_n 0, 1) := by decide +kernel
theorem dX9_card_44 : decode cX9_card 44 = .ok (.iconst 1, 1) := by decide +kernel
theorem dX9_card_45 : decode cX9_card 45 = .ok (.invokevirtual 71, 3) := by decide +kernel
theorem dX9_card_48 : decode cX9_card 48 = .ok (.ireturn, 1) := by decide +kernel
theorem dX9_uncard_0 : decode cX9_uncard 0 = .ok (.iload_n 1, 1) := by decide +kernel
theorem dX9_uncard_1 : decode cX9_uncard 1 = .ok (.bipush 10, 2) := by decide +kernel
theorem dX9_uncard_3 : decode cX9_uncard 3 = .ok (.invokestatic 59, 3) := by decide +kernel
theorem dX9_uncard_6 : decode cX9_uncard 6 = .ok (.ifCond .ne 10, 3) := by decide +kernel
theorem dX9_uncard_9 : decode cX9_uncard 9 = .ok (.aload_n 0, 1) := by decide +kernel
theorem dX9_uncard_10 : decode cX9_uncard 10 = .ok (.bipush (-2), 2) := by decide +kernel
theorem dX9_uncard_12 : decode cX9_uncard 12 = .ok (.invokevirtual 63, 3) := by decide +kernel
theorem dX9_uncard_15 : decode cX9_uncard 15 = .ok (.ireturn, 1) := by decide +kernel
theorem dX9_uncard_16 : decode cX9_uncard 16 = .ok (.aload_n 0, 1) := by decide +kernel
theorem dX9_uncard_17 : decode cX9_uncard 17 = .ok (.getfield 11, 3) := by decide +kernel
theorem dX9_uncard_20 : decode cX9_uncard 20 = .ok (.iload_n 1, 1) := by decide +kernel
theorem dX9_uncard_21 : decode cX9_uncard 21 = .ok (.aaload, 1) := by decide +kernel
theorem dX9_uncard_22 : decode cX9_uncard 22 = .ok (.astore_n 2, 1) := by decide +kernel
theorem dX9_uncard_23 : decode cX9_uncard 23 = .ok (.aload_n 2, 1) := by decide +kernel
theorem dX9_uncard_24 : decode cX9_uncard 24 = .ok (.ifnonnull 9, 3) := by decide +kernel
theorem dX9_uncard_27 : decode cX9_uncard 27 = .ok (.aload_n 0, 1) := by decide +kernel
theorem dX9_uncard_28 : decode cX9_uncard 28 = .ok (.iconst 1, 1) := by decide +kernel
theorem dX9_uncard_29 : decode cX9_uncard 29 = .ok (.invokevirtual 78, 3) := by decide +kernel
theorem dX9_uncard_32 : decode cX9_uncard 32 = .ok (.ireturn, 1) := by decide +kernel
theorem dX9_uncard_33 : decode cX9_uncard 33 = .ok (.aload_n 2, 1) := by decide +kernel
theorem dX9_uncard_34 : decode cX9_uncard 34 = .ok (.iconst 0, 1) := by decide +kernel
theorem dX9_uncard_35 : decode cX9_uncard 35 = .ok (.putfield 81, 3) := by decide +kernel
theorem dX9_uncard_38 : decode cX9_uncard 38 = .ok (.aload_n 0, 1) := by decide +kernel
theorem dX9_uncard_39 : decode cX9_uncard 39 = .ok (.iconst 1, 1) := by decide +kernel
theorem dX9_uncard_40 : decode cX9_uncard 40 = .ok (.invokevirtual 71, 3) := by decide +kernel
theorem dX9_uncard_43 : decode cX9_uncard 43 = .ok (.ireturn, 1) := by decide +kernel
theorem dX9_rename_0 : decode cX9_rename 0 = .ok (.iload_n 1, 1) := by decide +kernel
theorem dX9_rename_1 : decode cX9_rename 1 = .ok (.bipush 10, 2) := by decide +kernel
theorem dX9_rename_3 : decode cX9_rename 3 = .ok (.invokestatic 59, 3) := by decide +kernel
theorem dX9_rename_6 : decode cX9_rename 6 = .ok (.ifCond .ne 10, 3) := by decide +kernel
theorem dX9_rename_9 : decode cX9_rename 9 = .ok (.aload_n 0, 1) := by decide +kernel
theorem dX9_rename_10 : decode cX9_rename 10 = .ok (.bipush (-2), 2) := by decide +kernel
theorem dX9_rename_12 : decode cX9_rename 12 = .ok (.invokevirtual 63, 3) := by decide +kernel
theorem dX9_rename_15 : decode cX9_rename 15 = .ok (.ireturn, 1) := by decide +kernel
theorem dX9_rename_16 : decode cX9_rename 16 = .ok (.aload_n 0, 1) := by decide +kernel
theorem dX9_rename_17 : decode cX9_rename 17 = .ok (.getfield 11, 3) := by decide +kernel
theorem dX9_rename_20 : decode cX9_rename 20 = .ok (.iload_n 1, 1) := by decide +kernel
theorem dX9_rename_21 : decode cX9_rename 21 = .ok (.aaload, 1) := by decide +kernel
theorem dX9_rename_22 : decode cX9_rename 22 = .ok (.astore_n 3, 1) := by decide +kernel
theorem dX9_rename_23 : decode cX9_rename 23 = .ok (.aload_n 3, 1) := by decide +kernel
theorem dX9_rename_24 : decode cX9_rename 24 = .ok (.ifnull 10, 3) := by decide +kernel
theorem dX9_rename_27 : decode cX9_rename 27 = .ok (.aload_n 3, 1) := by decide +kernel
theorem dX9_rename_28 : decode cX9_rename 28 = .ok (.getfield 81, 3) := by decide +kernel
theorem dX9_rename_31 : decode cX9_rename 31 = .ok (.ifCond .ne 9, 3) := by decide +kernel
theorem dX9_rename_34 : decode cX9_rename 34 = .ok (.aload_n 0, 1) := by decide +kernel
theorem dX9_rename_35 : decode cX9_rename 35 = .ok (.iconst 1, 1) := by decide +kernel
theorem dX9_rename_36 : decode cX9_rename 36 = .ok (.invokevirtual 78, 3) := by decide +kernel
theorem dX9_rename_39 : decode cX9_rename 39 = .ok (.ireturn, 1) := by decide +kernel
theorem dX9_rename_40 : decode cX9_rename 40 = .ok (.aload_n 3, 1) := by decide +kernel
theorem dX9_rename_41 : decode cX9_rename 41 = .ok (.iload_n 2, 1) := by decide +kernel
theorem dX9_rename_42 : decode cX9_rename 42 = .ok (.putfield 85, 3) := by decide +kernel
theorem dX9_rename_45 : decode cX9_rename 45 = .ok (.aload_n 0, 1) := by decide +kernel
theorem dX9_rename_46 : decode cX9_rename 46 = .ok (.iconst 1, 1) := by decide +kernel
theorem dX9_rename_47 : decode cX9_rename 47 = .ok (.invokevirtual 71, 3) := by decide +kernel
theorem dX9_rename_50 : decode cX9_rename 50 = .ok (.ireturn, 1) := by decide +kernel
theorem dX9_of_0 : decode cX9_of 0 = .ok (.iload_n 1, 1) := by decide +kernel
theorem dX9_of_1 : decode cX9_of 1 = .ok (.bipush 10, 2) := by decide +kernel
theorem dX9_of_3 : decode cX9_of 3 = .ok (.invokestatic 59, 3) := by decide +kernel
theorem dX9_of_6 : decode cX9_of 6 = .ok (.ifCond .ne 10, 3) := by decide +kernel
theorem dX9_of_9 : decode cX9_of 9 = .ok (.aload_n 0, 1) := by decide +kernel
theorem dX9_of_10 : decode cX9_of 10 = .ok (.bipush (-2), 2) := by decide +kernel
theorem dX9_of_12 : decode cX9_of 12 = .ok (.invokevirtual 88, 3) := by decide +kernel
theorem dX9_of_15 : decode cX9_of 15 = .ok (.ireturn, 1) := by decide +kernel
theorem dX9_of_16 : decode cX9_of 16 = .ok (.iload_n 2, 1) := by decide +kernel
theorem dX9_of_17 : decode cX9_of 17 = .ok (.iconst 4, 1) := by decide +kernel
theorem dX9_of_18 : decode cX9_of 18 = .ok (.invokestatic 59, 3) := by decide +kernel
theorem dX9_of_21 : decode cX9_of 21 = .ok (.ifCond .ne 10, 3) := by decide +kernel
theorem dX9_of_24 : decode cX9_of 24 = .ok (.aload_n 0, 1) := by decide +kernel
theorem dX9_of_25 : decode cX9_of 25 = .ok (.bipush (-3), 2) := by decide +kernel
theorem dX9_of_27 : decode cX9_of 27 = .ok (.invokevirtual 88, 3) := by decide +kernel
theorem dX9_of_30 : decode cX9_of 30 = .ok (.ireturn, 1) := by decide +kernel
theorem dX9_of_31 : decode cX9_of 31 = .ok (.aload_n 0, 1) := by decide +kernel
theorem dX9_of_32 : decode cX9_of 32 = .ok (.getfield 11, 3) := by decide +kernel
theorem dX9_of_35 : decode cX9_of 35 = .ok (.iload_n 1, 1) := by decide +kernel
theorem dX9_of_36 : decode cX9_of 36 = .ok (.aaload, 1) := by decide +kernel
theorem dX9_of_37 : decode cX9_of 37 = .ok (.astore_n 3, 1) := by decide +kernel
theorem dX9_of_38 : decode cX9_of 38 = .ok (.aload_n 3, 1) := by decide +kernel
theorem dX9_of_39 : decode cX9_of 39 = .ok (.ifnonnull 9, 3) := by decide +kernel
theorem dX9_of_42 : decode cX9_of 42 = .ok (.aload_n 0, 1) := by decide +kernel
theorem dX9_of_43 : decode cX9_of 43 = .ok (.iconst 1, 1) := by decide +kernel
theorem dX9_of_44 : decode cX9_of 44 = .ok (.invokevirtual 91, 3) := by decide +kernel
theorem dX9_of_47 : decode cX9_of 47 = .ok (.ireturn, 1) := by decide +kernel
theorem dX9_of_48 : decode cX9_of 48 = .ok (.iload_n 2, 1) := by decide +kernel
theorem dX9_of_49 : decode cX9_of 49 = .ok (.tableswitch 69 0 2 #[27, 51, 60], 27) := by decide +kernel
theorem dX9_of_76 : decode cX9_of 76 = .ok (.aload_n 3, 1) := by decide +kernel
theorem dX9_of_77 : decode cX9_of 77 = .ok (.getfield 81, 3) := by decide +kernel
theorem dX9_of_80 : decode cX9_of 80 = .ok (.ifCond .eq 14, 3) := by decide +kernel
theorem dX9_of_83 : decode cX9_of 83 = .ok (.aload_n 0, 1) := by decide +kernel
theorem dX9_of_84 : decode cX9_of 84 = .ok (.aload_n 3, 1) := by decide +kernel
theorem dX9_of_85 : decode cX9_of 85 = .ok (.getfield 85, 3) := by decide +kernel
theorem dX9_of_88 : decode cX9_of 88 = .ok (.invokevirtual 71, 3) := by decide +kernel
theorem dX9_of_91 : decode cX9_of 91 = .ok (.goto 8, 3) := by decide +kernel
theorem dX9_of_94 : decode cX9_of 94 = .ok (.aload_n 0, 1) := by decide +kernel
theorem dX9_of_95 : decode cX9_of 95 = .ok (.iconst 1, 1) := by decide +kernel
theorem dX9_of_96 : decode cX9_of 96 = .ok (.invokevirtual 91, 3) := by decide +kernel
theorem dX9_of_99 : decode cX9_of 99 = .ok (.ireturn, 1) := by decide +kernel
theorem dX9_of_100 : decode cX9_of 100 = .ok (.aload_n 0, 1) := by decide +kernel
theorem dX9_of_101 : decode cX9_of 101 = .ok (.aload_n 3, 1) := by decide +kernel
theorem dX9_of_102 : decode cX9_of 102 = .ok (.getfield 94, 3) := by decide +kernel
theorem dX9_of_105 : decode cX9_of 105 = .ok (.invokevirtual 71, 3) := by decide +kernel
theorem dX9_of_108 : decode cX9_of 108 = .ok (.ireturn, 1) := by decide +kernel
theorem dX9_of_109 : decode cX9_of 109 = .ok (.aload_n 0, 1) := by decide +kernel
theorem dX9_of_110 : decode cX9_of 110 = .ok (.aload_n 3, 1) := by decide +kernel
theorem dX9_of_111 : decode cX9_of 111 = .ok (.invokevirtual 97, 3) := by decide +kernel
theorem dX9_of_114 : decode cX9_of 114 = .ok (.invokevirtual 71, 3) := by decide +kernel
theorem dX9_of_117 : decode cX9_of 117 = .ok (.ireturn, 1) := by decide +kernel
theorem dX9_of_118 : decode cX9_of 118 = .ok (.aload_n 0, 1) := by decide +kernel
theorem dX9_of_119 : decode cX9_of 119 = .ok (.aload_n 3, 1) := by decide +kernel
theorem dX9_of_120 : decode cX9_of 120 = .ok (.invokevirtual 100, 3) := by decide +kernel
theorem dX9_of_123 : decode cX9_of 123 = .ok (.ireturn, 1) := by decide +kernel
theorem dX9_edgeOf_0 : decode cX9_edgeOf 0 = .ok (.aload_n 1, 1) := by decide +kernel
theorem dX9_edgeOf_1 : decode cX9_edgeOf 1 = .ok (.instanceof 104, 3) := by decide +kernel
theorem dX9_edgeOf_4 : decode cX9_edgeOf 4 = .ok (.ifCond .eq 17, 3) := by decide +kernel
theorem dX9_edgeOf_7 : decode cX9_edgeOf 7 = .ok (.aload_n 1, 1) := by decide +kernel
theorem dX9_edgeOf_8 : decode cX9_edgeOf 8 = .ok (.checkcast 104, 3) := by decide +kernel
theorem dX9_edgeOf_11 : decode cX9_edgeOf 11 = .ok (.astore_n 2, 1) := by decide +kernel
theorem dX9_edgeOf_12 : decode cX9_edgeOf 12 = .ok (.aload_n 0, 1) := by decide +kernel
theorem dX9_edgeOf_13 : decode cX9_edgeOf 13 = .ok (.aload_n 2, 1) := by decide +kernel
theorem dX9_edgeOf_14 : decode cX9_edgeOf 14 = .ok (.getfield 106, 3) := by decide +kernel
theorem dX9_edgeOf_17 : decode cX9_edgeOf 17 = .ok (.invokevirtual 71, 3) := by decide +kernel
theorem dX9_edgeOf_20 : decode cX9_edgeOf 20 = .ok (.ireturn, 1) := by decide +kernel
theorem dX9_edgeOf_21 : decode cX9_edgeOf 21 = .ok (.aload_n 0, 1) := by decide +kernel
theorem dX9_edgeOf_22 : decode cX9_edgeOf 22 = .ok (.iconst 4, 1) := by decide +kernel
theorem dX9_edgeOf_23 : decode cX9_edgeOf 23 = .ok (.invokevirtual 91, 3) := by decide +kernel
theorem dX9_edgeOf_26 : decode cX9_edgeOf 26 = .ok (.ireturn, 1) := by decide +kernel
theorem dX9_hone_0 : decode cX9_hone 0 = .ok (.iload_n 1, 1) := by decide +kernel
theorem dX9_hone_1 : decode cX9_hone 1 = .ok (.bipush 10, 2) := by decide +kernel
theorem dX9_hone_3 : decode cX9_hone 3 = .ok (.invokestatic 59, 3) := by decide +kernel
theorem dX9_hone_6 : decode cX9_hone 6 = .ok (.ifCond .ne 10, 3) := by decide +kernel
theorem dX9_hone_9 : decode cX9_hone 9 = .ok (.aload_n 0, 1) := by decide +kernel
theorem dX9_hone_10 : decode cX9_hone 10 = .ok (.bipush (-2), 2) := by decide +kernel
theorem dX9_hone_12 : decode cX9_hone 12 = .ok (.invokevirtual 63, 3) := by decide +kernel
theorem dX9_hone_15 : decode cX9_hone 15 = .ok (.ireturn, 1) := by decide +kernel
theorem dX9_hone_16 : decode cX9_hone 16 = .ok (.aload_n 0, 1) := by decide +kernel
theorem dX9_hone_17 : decode cX9_hone 17 = .ok (.getfield 11, 3) := by decide +kernel
theorem dX9_hone_20 : decode cX9_hone 20 = .ok (.iload_n 1, 1) := by decide +kernel
theorem dX9_hone_21 : decode cX9_hone 21 = .ok (.aaload, 1) := by decide +kernel
theorem dX9_hone_22 : decode cX9_hone 22 = .ok (.astore_n 3, 1) := by decide +kernel
theorem dX9_hone_23 : decode cX9_hone 23 = .ok (.aload_n 3, 1) := by decide +kernel
theorem dX9_hone_24 : decode cX9_hone 24 = .ok (.ifnonnull 9, 3) := by decide +kernel
theorem dX9_hone_27 : decode cX9_hone 27 = .ok (.aload_n 0, 1) := by decide +kernel
theorem dX9_hone_28 : decode cX9_hone 28 = .ok (.iconst 1, 1) := by decide +kernel
theorem dX9_hone_29 : decode cX9_hone 29 = .ok (.invokevirtual 78, 3) := by decide +kernel
theorem dX9_hone_32 : decode cX9_hone 32 = .ok (.ireturn, 1) := by decide +kernel
theorem dX9_hone_33 : decode cX9_hone 33 = .ok (.aload_n 3, 1) := by decide +kernel
theorem dX9_hone_34 : decode cX9_hone 34 = .ok (.instanceof 104, 3) := by decide +kernel
theorem dX9_hone_37 : decode cX9_hone 37 = .ok (.ifCond .eq 21, 3) := by decide +kernel
theorem dX9_hone_40 : decode cX9_hone 40 = .ok (.aload_n 3, 1) := by decide +kernel
theorem dX9_hone_41 : decode cX9_hone 41 = .ok (.checkcast 104, 3) := by decide +kernel
theorem dX9_hone_44 : decode cX9_hone 44 = .ok (.astore 4, 2) := by decide +kernel
theorem dX9_hone_46 : decode cX9_hone 46 = .ok (.aload 4, 2) := by decide +kernel
theorem dX9_hone_48 : decode cX9_hone 48 = .ok (.iload_n 2, 1) := by decide +kernel
theorem dX9_hone_49 : decode cX9_hone 49 = .ok (.putfield 106, 3) := by decide +kernel
theorem dX9_hone_52 : decode cX9_hone 52 = .ok (.aload_n 0, 1) := by decide +kernel
theorem dX9_hone_53 : decode cX9_hone 53 = .ok (.iconst 1, 1) := by decide +kernel
theorem dX9_hone_54 : decode cX9_hone 54 = .ok (.invokevirtual 71, 3) := by decide +kernel
theorem dX9_hone_57 : decode cX9_hone 57 = .ok (.ireturn, 1) := by decide +kernel
theorem dX9_hone_58 : decode cX9_hone 58 = .ok (.aload_n 0, 1) := by decide +kernel
theorem dX9_hone_59 : decode cX9_hone 59 = .ok (.iconst 4, 1) := by decide +kernel
theorem dX9_hone_60 : decode cX9_hone 60 = .ok (.invokevirtual 78, 3) := by decide +kernel
theorem dX9_hone_63 : decode cX9_hone 63 = .ok (.ireturn, 1) := by decide +kernel
theorem dX9_use_0 : decode cX9_use 0 = .ok (.iload_n 1, 1) := by decide +kernel
theorem dX9_use_1 : decode cX9_use 1 = .ok (.bipush 10, 2) := by decide +kernel
theorem dX9_use_3 : decode cX9_use 3 = .ok (.invokestatic 59, 3) := by decide +kernel
theorem dX9_use_6 : decode cX9_use 6 = .ok (.ifCond .ne 10, 3) := by decide +kernel
theorem dX9_use_9 : decode cX9_use 9 = .ok (.aload_n 0, 1) := by decide +kernel
theorem dX9_use_10 : decode cX9_use 10 = .ok (.bipush (-2), 2) := by decide +kernel
theorem dX9_use_12 : decode cX9_use 12 = .ok (.invokevirtual 88, 3) := by decide +kernel
theorem dX9_use_15 : decode cX9_use 15 = .ok (.ireturn, 1) := by decide +kernel
theorem dX9_use_16 : decode cX9_use 16 = .ok (.aload_n 0, 1) := by decide +kernel
theorem dX9_use_17 : decode cX9_use 17 = .ok (.getfield 11, 3) := by decide +kernel
theorem dX9_use_20 : decode cX9_use 20 = .ok (.iload_n 1, 1) := by decide +kernel
theorem dX9_use_21 : decode cX9_use 21 = .ok (.aaload, 1) := by decide +kernel
theorem dX9_use_22 : decode cX9_use 22 = .ok (.astore_n 3, 1) := by decide +kernel
theorem dX9_use_23 : decode cX9_use 23 = .ok (.aload_n 3, 1) := by decide +kernel
theorem dX9_use_24 : decode cX9_use 24 = .ok (.ifnonnull 9, 3) := by decide +kernel
theorem dX9_use_27 : decode cX9_use 27 = .ok (.aload_n 0, 1) := by decide +kernel
theorem dX9_use_28 : decode cX9_use 28 = .ok (.iconst 1, 1) := by decide +kernel
theorem dX9_use_29 : decode cX9_use 29 = .ok (.invokevirtual 91, 3) := by decide +kernel
theorem dX9_use_32 : decode cX9_use 32 = .ok (.ireturn, 1) := by decide +kernel
theorem dX9_use_33 : decode cX9_use 33 = .ok (.aload_n 0, 1) := by decide +kernel
theorem dX9_use_34 : decode cX9_use 34 = .ok (.dup, 1) := by decide +kernel
theorem dX9_use_35 : decode cX9_use 35 = .ok (.getfield 48, 3) := by decide +kernel
theorem dX9_use_38 : decode cX9_use 38 = .ok (.iconst 1, 1) := by decide +kernel
theorem dX9_use_39 : decode cX9_use 39 = .ok (.iadd, 1) := by decide +kernel
theorem dX9_use_40 : decode cX9_use 40 = .ok (.putfield 48, 3) := by decide +kernel
theorem dX9_use_43 : decode cX9_use 43 = .ok (.aload_n 0, 1) := by decide +kernel
theorem dX9_use_44 : decode cX9_use 44 = .ok (.aload_n 3, 1) := by decide +kernel
theorem dX9_use_45 : decode cX9_use 45 = .ok (.iload_n 2, 1) := by decide +kernel
theorem dX9_use_46 : decode cX9_use 46 = .ok (.invokevirtual 109, 3) := by decide +kernel
theorem dX9_use_49 : decode cX9_use 49 = .ok (.invokevirtual 71, 3) := by decide +kernel
theorem dX9_use_52 : decode cX9_use 52 = .ok (.ireturn, 1) := by decide +kernel
theorem dX9_shift_0 : decode cX9_shift 0 = .ok (.iload_n 1, 1) := by decide +kernel
theorem dX9_shift_1 : decode cX9_shift 1 = .ok (.bipush 10, 2) := by decide +kernel
theorem dX9_shift_3 : decode cX9_shift 3 = .ok (.invokestatic 59, 3) := by decide +kernel
theorem dX9_shift_6 : decode cX9_shift 6 = .ok (.ifCond .eq 12, 3) := by decide +kernel
theorem dX9_shift_9 : decode cX9_shift 9 = .ok (.iload 4, 2) := by decide +kernel
theorem dX9_shift_11 : decode cX9_shift 11 = .ok (.iconst 4, 1) := by decide +kernel
theorem dX9_shift_12 : decode cX9_shift 12 = .ok (.invokestatic 59, 3) := by decide +kernel
theorem dX9_shift_15 : decode cX9_shift 15 = .ok (.ifCond .ne 10, 3) := by decide +kernel
theorem dX9_shift_18 : decode cX9_shift 18 = .ok (.aload_n 0, 1) := by decide +kernel
theorem dX9_shift_19 : decode cX9_shift 19 = .ok (.bipush (-2), 2) := by decide +kernel
theorem dX9_shift_21 : decode cX9_shift 21 = .ok (.invokevirtual 63, 3) := by decide +kernel
theorem dX9_shift_24 : decode cX9_shift 24 = .ok (.ireturn, 1) := by decide +kernel
theorem dX9_shift_25 : decode cX9_shift 25 = .ok (.iload_n 2, 1) := by decide +kernel
theorem dX9_shift_26 : decode cX9_shift 26 = .ok (.ifCond .lt 9, 3) := by decide +kernel
theorem dX9_shift_29 : decode cX9_shift 29 = .ok (.iload_n 2, 1) := by decide +kernel
theorem dX9_shift_30 : decode cX9_shift 30 = .ok (.bipush 9, 2) := by decide +kernel
theorem dX9_shift_32 : decode cX9_shift 32 = .ok (.if_icmp .le 10, 3) := by decide +kernel
theorem dX9_shift_35 : decode cX9_shift 35 = .ok (.aload_n 0, 1) := by decide +kernel
theorem dX9_shift_36 : decode cX9_shift 36 = .ok (.bipush (-3), 2) := by decide +kernel
theorem dX9_shift_38 : decode cX9_shift 38 = .ok (.invokevirtual 63, 3) := by decide +kernel
theorem dX9_shift_41 : decode cX9_shift 41 = .ok (.ireturn, 1) := by decide +kernel
theorem dX9_shift_42 : decode cX9_shift 42 = .ok (.aload_n 0, 1) := by decide +kernel
theorem dX9_shift_43 : decode cX9_shift 43 = .ok (.getfield 17, 3) := by decide +kernel
theorem dX9_shift_46 : decode cX9_shift 46 = .ok (.iload 4, 2) := by decide +kernel
theorem dX9_shift_48 : decode cX9_shift 48 = .ok (.aaload, 1) := by decide +kernel
theorem dX9_shift_49 : decode cX9_shift 49 = .ok (.astore 5, 2) := by decide +kernel
theorem dX9_shift_51 : decode cX9_shift 51 = .ok (.iconst 0, 1) := by decide +kernel
theorem dX9_shift_52 : decode cX9_shift 52 = .ok (.istore 6, 2) := by decide +kernel
theorem dX9_shift_54 : decode cX9_shift 54 = .ok (.iload 6, 2) := by decide +kernel
theorem dX9_shift_56 : decode cX9_shift 56 = .ok (.iload_n 2, 1) := by decide +kernel
theorem dX9_shift_57 : decode cX9_shift 57 = .ok (.if_icmp .ge 36, 3) := by decide +kernel
theorem dX9_shift_60 : decode cX9_shift 60 = .ok (.aload_n 0, 1) := by decide +kernel
theorem dX9_shift_61 : decode cX9_shift 61 = .ok (.iload_n 1, 1) := by decide +kernel
theorem dX9_shift_62 : decode cX9_shift 62 = .ok (.iload 6, 2) := by decide +kernel
theorem dX9_shift_64 : decode cX9_shift 64 = .ok (.iadd, 1) := by decide +kernel
theorem dX9_shift_65 : decode cX9_shift 65 = .ok (.iload_n 3, 1) := by decide +kernel
theorem dX9_shift_66 : decode cX9_shift 66 = .ok (.aload 5, 2) := by decide +kernel
theorem dX9_shift_68 : decode cX9_shift 68 = .ok (.iload 6, 2) := by decide +kernel
theorem dX9_shift_70 : decode cX9_shift 70 = .ok (.invokevirtual 112, 3) := by decide +kernel
theorem dX9_shift_73 : decode cX9_shift 73 = .ok (.istore 7, 2) := by decide +kernel
theorem dX9_shift_75 : decode cX9_shift 75 = .ok (.iload 7, 2) := by decide +kernel
theorem dX9_shift_77 : decode cX9_shift 77 = .ok (.ifCond .eq 10, 3) := by decide +kernel
theorem dX9_shift_80 : decode cX9_shift 80 = .ok (.aload_n 0, 1) := by decide +kernel
theorem dX9_shift_81 : decode cX9_shift 81 = .ok (.iload 7, 2) := by decide +kernel
theorem dX9_shift_83 : decode cX9_shift 83 = .ok (.invokevirtual 78, 3) := by decide +kernel
theorem dX9_shift_86 : decode cX9_shift 86 = .ok (.ireturn, 1) := by decide +kernel
theorem dX9_shift_87 : decode cX9_shift 87 = .ok (.iinc 6 1, 3) := by decide +kernel
theorem dX9_shift_90 : decode cX9_shift 90 = .ok (.goto (-36), 3) := by decide +kernel
theorem dX9_shift_93 : decode cX9_shift 93 = .ok (.aload_n 0, 1) := by decide +kernel
theorem dX9_shift_94 : decode cX9_shift 94 = .ok (.iload_n 2, 1) := by decide +kernel
theorem dX9_shift_95 : decode cX9_shift 95 = .ok (.invokevirtual 71, 3) := by decide +kernel
theorem dX9_shift_98 : decode cX9_shift 98 = .ok (.ireturn, 1) := by decide +kernel
theorem dX9_shiftOnce_0 : decode cX9_shiftOnce 0 = .ok (.iload_n 1, 1) := by decide +kernel
theorem dX9_shiftOnce_1 : decode cX9_shiftOnce 1 = .ok (.bipush 10, 2) := by decide +kernel
theorem dX9_shiftOnce_3 : decode cX9_shiftOnce 3 = .ok (.invokestatic 59, 3) := by decide +kernel
theorem dX9_shiftOnce_6 : decode cX9_shiftOnce 6 = .ok (.ifCond .ne 5, 3) := by decide +kernel
theorem dX9_shiftOnce_9 : decode cX9_shiftOnce 9 = .ok (.iconst 2, 1) := by decide +kernel
theorem dX9_shiftOnce_10 : decode cX9_shiftOnce 10 = .ok (.ireturn, 1) := by decide +kernel
theorem dX9_shiftOnce_11 : decode cX9_shiftOnce 11 = .ok (.aload_n 0, 1) := by decide +kernel
theorem dX9_shiftOnce_12 : decode cX9_shiftOnce 12 = .ok (.getfield 11, 3) := by decide +kernel
theorem dX9_shiftOnce_15 : decode cX9_shiftOnce 15 = .ok (.iload_n 1, 1) := by decide +kernel
theorem dX9_shiftOnce_16 : decode cX9_shiftOnce 16 = .ok (.aaload, 1) := by decide +kernel
theorem dX9_shiftOnce_17 : decode cX9_shiftOnce 17 = .ok (.astore 5, 2) := by decide +kernel
theorem dX9_shiftOnce_19 : decode cX9_shiftOnce 19 = .ok (.aload 5, 2) := by decide +kernel
theorem dX9_shiftOnce_21 : decode cX9_shiftOnce 21 = .ok (.ifnonnull 5, 3) := by decide +kernel
theorem dX9_shiftOnce_24 : decode cX9_shiftOnce 24 = .ok (.iconst 1, 1) := by decide +kernel
theorem dX9_shiftOnce_25 : decode cX9_shiftOnce 25 = .ok (.ireturn, 1) := by decide +kernel
theorem dX9_shiftOnce_26 : decode cX9_shiftOnce 26 = .ok (.aload_n 0, 1) := by decide +kernel
theorem dX9_shiftOnce_27 : decode cX9_shiftOnce 27 = .ok (.dup, 1) := by decide +kernel
theorem dX9_shiftOnce_28 : decode cX9_shiftOnce 28 = .ok (.getfield 48, 3) := by decide +kernel
theorem dX9_shiftOnce_31 : decode cX9_shiftOnce 31 = .ok (.iconst 1, 1) := by decide +kernel
theorem dX9_shiftOnce_32 : decode cX9_shiftOnce 32 = .ok (.iadd, 1) := by decide +kernel
theorem dX9_shiftOnce_33 : decode cX9_shiftOnce 33 = .ok (.putfield 48, 3) := by decide +kernel
theorem dX9_shiftOnce_36 : decode cX9_shiftOnce 36 = .ok (.aload 5, 2) := by decide +kernel
theorem dX9_shiftOnce_38 : decode cX9_shiftOnce 38 = .ok (.iload_n 2, 1) := by decide +kernel
theorem dX9_shiftOnce_39 : decode cX9_shiftOnce 39 = .ok (.invokevirtual 109, 3) := by decide +kernel
theorem dX9_shiftOnce_42 : decode cX9_shiftOnce 42 = .ok (.istore 6, 2) := by decide +kernel
theorem dX9_shiftOnce_44 : decode cX9_shiftOnce 44 = .ok (.aload_n 3, 1) := by decide +kernel
theorem dX9_shiftOnce_45 : decode cX9_shiftOnce 45 = .ok (.iload 4, 2) := by decide +kernel
theorem dX9_shiftOnce_47 : decode cX9_shiftOnce 47 = .ok (.invokestatic 116, 3) := by decide +kernel
theorem dX9_shiftOnce_50 : decode cX9_shiftOnce 50 = .ok (.istore 7, 2) := by decide +kernel
theorem dX9_shiftOnce_52 : decode cX9_shiftOnce 52 = .ok (.iload 7, 2) := by decide +kernel
theorem dX9_shiftOnce_54 : decode cX9_shiftOnce 54 = .ok (.ifCond .ne 12, 3) := by decide +kernel
theorem dX9_shiftOnce_57 : decode cX9_shiftOnce 57 = .ok (.aload_n 3, 1) := by decide +kernel
theorem dX9_shiftOnce_58 : decode cX9_shiftOnce 58 = .ok (.getfield 120, 3) := by decide +kernel
theorem dX9_shiftOnce_61 : decode cX9_shiftOnce 61 = .ok (.iload 4, 2) := by decide +kernel
theorem dX9_shiftOnce_63 : decode cX9_shiftOnce 63 = .ok (.iload 6, 2) := by decide +kernel
theorem dX9_shiftOnce_65 : decode cX9_shiftOnce 65 = .ok (.iastore, 1) := by decide +kernel
theorem dX9_shiftOnce_66 : decode cX9_shiftOnce 66 = .ok (.iload 7, 2) := by decide +kernel
theorem dX9_shiftOnce_68 : decode cX9_shiftOnce 68 = .ok (.ireturn, 1) := by decide +kernel
theorem dX9_newTool_0 : decode cX9_newTool 0 = .ok (.iload_n 0, 1) := by decide +kernel
theorem dX9_newTool_1 : decode cX9_newTool 1 = .ok (.tableswitch 51 0 2 #[27, 35, 43], 27) := by decide +kernel
theorem dX9_newTool_28 : decode cX9_newTool 28 = .ok (.new 123, 3) := by decide +kernel
theorem dX9_newTool_31 : decode cX9_newTool 31 = .ok (.dup, 1) := by decide +kernel
theorem dX9_newTool_32 : decode cX9_newTool 32 = .ok (.invokespecial 125, 3) := by decide +kernel
theorem dX9_newTool_35 : decode cX9_newTool 35 = .ok (.areturn, 1) := by decide +kernel
theorem dX9_newTool_36 : decode cX9_newTool 36 = .ok (.new 104, 3) := by decide +kernel
theorem dX9_newTool_39 : decode cX9_newTool 39 = .ok (.dup, 1) := by decide +kernel
theorem dX9_newTool_40 : decode cX9_newTool 40 = .ok (.invokespecial 126, 3) := by decide +kernel
theorem dX9_newTool_43 : decode cX9_newTool 43 = .ok (.areturn, 1) := by decide +kernel
theorem dX9_newTool_44 : decode cX9_newTool 44 = .ok (.new 127, 3) := by decide +kernel
theorem dX9_newTool_47 : decode cX9_newTool 47 = .ok (.dup, 1) := by decide +kernel
theorem dX9_newTool_48 : decode cX9_newTool 48 = .ok (.invokespecial 129, 3) := by decide +kernel
theorem dX9_newTool_51 : decode cX9_newTool 51 = .ok (.areturn, 1) := by decide +kernel
theorem dX9_newTool_52 : decode cX9_newTool 52 = .ok (.new 130, 3) := by decide +kernel
theorem dX9_newTool_55 : decode cX9_newTool 55 = .ok (.dup, 1) := by decide +kernel
theorem dX9_newTool_56 : decode cX9_newTool 56 = .ok (.invokespecial 132, 3) := by decide +kernel
theorem dX9_newTool_59 : decode cX9_newTool 59 = .ok (.areturn, 1) := by decide +kernel
theorem dX9_tray_0 : decode cX9_tray 0 = .ok (.iload_n 1, 1) := by decide +kernel
theorem dX9_tray_1 : decode cX9_tray 1 = .ok (.iconst 4, 1) := by decide +kernel
theorem dX9_tray_2 : decode cX9_tray 2 = .ok (.invokestatic 59, 3) := by decide +kernel
theorem dX9_tray_5 : decode cX9_tray 5 = .ok (.ifCond .ne 10, 3) := by decide +kernel
theorem dX9_tray_8 : decode cX9_tray 8 = .ok (.aload_n 0, 1) := by decide +kernel
theorem dX9_tray_9 : decode cX9_tray 9 = .ok (.bipush (-2), 2) := by decide +kernel
theorem dX9_tray_11 : decode cX9_tray 11 = .ok (.invokevirtual 63, 3) := by decide +kernel
theorem dX9_tray_14 : decode cX9_tray 14 = .ok (.ireturn, 1) := by decide +kernel
theorem dX9_tray_15 : decode cX9_tray 15 = .ok (.iload_n 2, 1) := by decide +kernel
theorem dX9_tray_16 : decode cX9_tray 16 = .ok (.bipush 20, 2) := by decide +kernel
theorem dX9_tray_18 : decode cX9_tray 18 = .ok (.if_icmp .le 10, 3) := by decide +kernel
theorem dX9_tray_21 : decode cX9_tray 21 = .ok (.aload_n 0, 1) := by decide +kernel
theorem dX9_tray_22 : decode cX9_tray 22 = .ok (.bipush (-3), 2) := by decide +kernel
theorem dX9_tray_24 : decode cX9_tray 24 = .ok (.invokevirtual 63, 3) := by decide +kernel
theorem dX9_tray_27 : decode cX9_tray 27 = .ok (.ireturn, 1) := by decide +kernel
theorem dX9_tray_28 : decode cX9_tray 28 = .ok (.iload_n 2, 1) := by decide +kernel
theorem dX9_tray_29 : decode cX9_tray 29 = .ok (.ifCond .ge 9, 3) := by decide +kernel
theorem dX9_tray_32 : decode cX9_tray 32 = .ok (.aload_n 0, 1) := by decide +kernel
theorem dX9_tray_33 : decode cX9_tray 33 = .ok (.iconst 3, 1) := by decide +kernel
theorem dX9_tray_34 : decode cX9_tray 34 = .ok (.invokevirtual 78, 3) := by decide +kernel
theorem dX9_tray_37 : decode cX9_tray 37 = .ok (.ireturn, 1) := by decide +kernel
theorem dX9_tray_38 : decode cX9_tray 38 = .ok (.aload_n 0, 1) := by decide +kernel
theorem dX9_tray_39 : decode cX9_tray 39 = .ok (.getfield 17, 3) := by decide +kernel
theorem dX9_tray_42 : decode cX9_tray 42 = .ok (.iload_n 1, 1) := by decide +kernel
theorem dX9_tray_43 : decode cX9_tray 43 = .ok (.aaload, 1) := by decide +kernel
theorem dX9_tray_44 : decode cX9_tray 44 = .ok (.iload_n 2, 1) := by decide +kernel
theorem dX9_tray_45 : decode cX9_tray 45 = .ok (.invokevirtual 133, 3) := by decide +kernel
theorem dX9_tray_48 : decode cX9_tray 48 = .ok (.aload_n 0, 1) := by decide +kernel
theorem dX9_tray_49 : decode cX9_tray 49 = .ok (.iload_n 2, 1) := by decide +kernel
theorem dX9_tray_50 : decode cX9_tray 50 = .ok (.invokevirtual 71, 3) := by decide +kernel
theorem dX9_tray_53 : decode cX9_tray 53 = .ok (.ireturn, 1) := by decide +kernel
theorem dX9_lose_0 : decode cX9_lose 0 = .ok (.iload_n 1, 1) := by decide +kernel
theorem dX9_lose_1 : decode cX9_lose 1 = .ok (.iconst 3, 1) := by decide +kernel
theorem dX9_lose_2 : decode cX9_lose 2 = .ok (.invokestatic 59, 3) := by decide +kernel
theorem dX9_lose_5 : decode cX9_lose 5 = .ok (.ifCond .ne 10, 3) := by decide +kernel
theorem dX9_lose_8 : decode cX9_lose 8 = .ok (.aload_n 0, 1) := by decide +kernel
theorem dX9_lose_9 : decode cX9_lose 9 = .ok (.bipush (-3), 2) := by decide +kernel
theorem dX9_lose_11 : decode cX9_lose 11 = .ok (.invokevirtual 63, 3) := by decide +kernel
theorem dX9_lose_14 : decode cX9_lose 14 = .ok (.ireturn, 1) := by decide +kernel
theorem dX9_lose_15 : decode cX9_lose 15 = .ok (.aload_n 0, 1) := by decide +kernel
theorem dX9_lose_16 : decode cX9_lose 16 = .ok (.iload_n 1, 1) := by decide +kernel
theorem dX9_lose_17 : decode cX9_lose 17 = .ok (.iload_n 2, 1) := by decide +kernel
theorem dX9_lose_18 : decode cX9_lose 18 = .ok (.invokevirtual 136, 3) := by decide +kernel
theorem dX9_lose_21 : decode cX9_lose 21 = .ok (.astore_n 3, 1) := by decide +kernel
theorem dX9_lose_22 : decode cX9_lose 22 = .ok (.aload_n 3, 1) := by decide +kernel
theorem dX9_lose_23 : decode cX9_lose 23 = .ok (.ifnonnull 10, 3) := by decide +kernel
theorem dX9_lose_26 : decode cX9_lose 26 = .ok (.aload_n 0, 1) := by decide +kernel
theorem dX9_lose_27 : decode cX9_lose 27 = .ok (.bipush (-2), 2) := by decide +kernel
theorem dX9_lose_29 : decode cX9_lose 29 = .ok (.invokevirtual 63, 3) := by decide +kernel
theorem dX9_lose_32 : decode cX9_lose 32 = .ok (.ireturn, 1) := by decide +kernel
theorem dX9_lose_33 : decode cX9_lose 33 = .ok (.aload_n 0, 1) := by decide +kernel
theorem dX9_lose_34 : decode cX9_lose 34 = .ok (.aload_n 3, 1) := by decide +kernel
theorem dX9_lose_35 : decode cX9_lose 35 = .ok (.invokevirtual 140, 3) := by decide +kernel
theorem dX9_lose_38 : decode cX9_lose 38 = .ok (.ifCond .eq 7, 3) := by decide +kernel
theorem dX9_lose_41 : decode cX9_lose 41 = .ok (.iconst 1, 1) := by decide +kernel
theorem dX9_lose_42 : decode cX9_lose 42 = .ok (.goto 4, 3) := by decide +kernel
theorem dX9_lose_45 : decode cX9_lose 45 = .ok (.iconst 0, 1) := by decide +kernel
theorem dX9_lose_46 : decode cX9_lose 46 = .ok (.invokevirtual 71, 3) := by decide +kernel
theorem dX9_lose_49 : decode cX9_lose 49 = .ok (.ireturn, 1) := by decide +kernel
theorem dX9_put_0 : decode cX9_put 0 = .ok (.iload_n 1, 1) := by decide +kernel
theorem dX9_put_1 : decode cX9_put 1 = .ok (.iconst 4, 1) := by decide +kernel
theorem dX9_put_2 : decode cX9_put 2 = .ok (.invokestatic 59, 3) := by decide +kernel
theorem dX9_put_5 : decode cX9_put 5 = .ok (.ifCond .ne 10, 3) := by decide +kernel
theorem dX9_put_8 : decode cX9_put 8 = .ok (.aload_n 0, 1) := by decide +kernel
theorem dX9_put_9 : decode cX9_put 9 = .ok (.bipush (-2), 2) := by decide +kernel
theorem dX9_put_11 : decode cX9_put 11 = .ok (.invokevirtual 63, 3) := by decide +kernel
theorem dX9_put_14 : decode cX9_put 14 = .ok (.ireturn, 1) := by decide +kernel
theorem dX9_put_15 : decode cX9_put 15 = .ok (.aload_n 0, 1) := by decide +kernel
theorem dX9_put_16 : decode cX9_put 16 = .ok (.getfield 17, 3) := by decide +kernel
theorem dX9_put_19 : decode cX9_put 19 = .ok (.iload_n 1, 1) := by decide +kernel
theorem dX9_put_20 : decode cX9_put 20 = .ok (.aaload, 1) := by decide +kernel
theorem dX9_put_21 : decode cX9_put 21 = .ok (.astore 4, 2) := by decide +kernel
theorem dX9_put_23 : decode cX9_put 23 = .ok (.aload 4, 2) := by decide +kernel
theorem dX9_put_25 : decode cX9_put 25 = .ok (.iload_n 2, 1) := by decide +kernel
theorem dX9_put_26 : decode cX9_put 26 = .ok (.invokestatic 116, 3) := by decide +kernel
theorem dX9_put_29 : decode cX9_put 29 = .ok (.istore 5, 2) := by decide +kernel
theorem dX9_put_31 : decode cX9_put 31 = .ok (.iload 5, 2) := by decide +kernel
theorem dX9_put_33 : decode cX9_put 33 = .ok (.ifCond .eq 10, 3) := by decide +kernel
theorem dX9_put_36 : decode cX9_put 36 = .ok (.aload_n 0, 1) := by decide +kernel
theorem dX9_put_37 : decode cX9_put 37 = .ok (.iload 5, 2) := by decide +kernel
theorem dX9_put_39 : decode cX9_put 39 = .ok (.invokevirtual 78, 3) := by decide +kernel
theorem dX9_put_42 : decode cX9_put 42 = .ok (.ireturn, 1) := by decide +kernel
theorem dX9_put_43 : decode cX9_put 43 = .ok (.aload 4, 2) := by decide +kernel
theorem dX9_put_45 : decode cX9_put 45 = .ok (.getfield 120, 3) := by decide +kernel
theorem dX9_put_48 : decode cX9_put 48 = .ok (.iload_n 2, 1) := by decide +kernel
theorem dX9_put_49 : decode cX9_put 49 = .ok (.iload_n 3, 1) := by decide +kernel
theorem dX9_put_50 : decode cX9_put 50 = .ok (.iastore, 1) := by decide +kernel
theorem dX9_put_51 : decode cX9_put 51 = .ok (.aload_n 0, 1) := by decide +kernel
theorem dX9_put_52 : decode cX9_put 52 = .ok (.iconst 1, 1) := by decide +kernel
theorem dX9_put_53 : decode cX9_put 53 = .ok (.invokevirtual 71, 3) := by decide +kernel
theorem dX9_put_56 : decode cX9_put 56 = .ok (.ireturn, 1) := by decide +kernel
theorem dX9_get_0 : decode cX9_get 0 = .ok (.iload_n 1, 1) := by decide +kernel
theorem dX9_get_1 : decode cX9_get 1 = .ok (.iconst 4, 1) := by decide +kernel
theorem dX9_get_2 : decode cX9_get 2 = .ok (.invokestatic 59, 3) := by decide +kernel
theorem dX9_get_5 : decode cX9_get 5 = .ok (.ifCond .ne 10, 3) := by decide +kernel
theorem dX9_get_8 : decode cX9_get 8 = .ok (.aload_n 0, 1) := by decide +kernel
theorem dX9_get_9 : decode cX9_get 9 = .ok (.bipush (-2), 2) := by decide +kernel
theorem dX9_get_11 : decode cX9_get 11 = .ok (.invokevirtual 88, 3) := by decide +kernel
theorem dX9_get_14 : decode cX9_get 14 = .ok (.ireturn, 1) := by decide +kernel
theorem dX9_get_15 : decode cX9_get 15 = .ok (.aload_n 0, 1) := by decide +kernel
theorem dX9_get_16 : decode cX9_get 16 = .ok (.getfield 17, 3) := by decide +kernel
theorem dX9_get_19 : decode cX9_get 19 = .ok (.iload_n 1, 1) := by decide +kernel
theorem dX9_get_20 : decode cX9_get 20 = .ok (.aaload, 1) := by decide +kernel
theorem dX9_get_21 : decode cX9_get 21 = .ok (.astore_n 3, 1) := by decide +kernel
theorem dX9_get_22 : decode cX9_get 22 = .ok (.aload_n 3, 1) := by decide +kernel
theorem dX9_get_23 : decode cX9_get 23 = .ok (.iload_n 2, 1) := by decide +kernel
theorem dX9_get_24 : decode cX9_get 24 = .ok (.invokestatic 116, 3) := by decide +kernel
theorem dX9_get_27 : decode cX9_get 27 = .ok (.istore 4, 2) := by decide +kernel
theorem dX9_get_29 : decode cX9_get 29 = .ok (.iload 4, 2) := by decide +kernel
theorem dX9_get_31 : decode cX9_get 31 = .ok (.ifCond .eq 10, 3) := by decide +kernel
theorem dX9_get_34 : decode cX9_get 34 = .ok (.aload_n 0, 1) := by decide +kernel
theorem dX9_get_35 : decode cX9_get 35 = .ok (.iload 4, 2) := by decide +kernel
theorem dX9_get_37 : decode cX9_get 37 = .ok (.invokevirtual 91, 3) := by decide +kernel
theorem dX9_get_40 : decode cX9_get 40 = .ok (.ireturn, 1) := by decide +kernel
theorem dX9_get_41 : decode cX9_get 41 = .ok (.aload_n 0, 1) := by decide +kernel
theorem dX9_get_42 : decode cX9_get 42 = .ok (.aload_n 3, 1) := by decide +kernel
theorem dX9_get_43 : decode cX9_get 43 = .ok (.getfield 120, 3) := by decide +kernel
theorem dX9_get_46 : decode cX9_get 46 = .ok (.iload_n 2, 1) := by decide +kernel
theorem dX9_get_47 : decode cX9_get 47 = .ok (.iaload, 1) := by decide +kernel
theorem dX9_get_48 : decode cX9_get 48 = .ok (.invokevirtual 71, 3) := by decide +kernel
theorem dX9_get_51 : decode cX9_get 51 = .ok (.ireturn, 1) := by decide +kernel
theorem dX9_length_0 : decode cX9_length 0 = .ok (.iload_n 1, 1) := by decide +kernel
theorem dX9_length_1 : decode cX9_length 1 = .ok (.iconst 3, 1) := by decide +kernel
theorem dX9_length_2 : decode cX9_length 2 = .ok (.invokestatic 59, 3) := by decide +kernel
theorem dX9_length_5 : decode cX9_length 5 = .ok (.ifCond .ne 10, 3) := by decide +kernel
theorem dX9_length_8 : decode cX9_length 8 = .ok (.aload_n 0, 1) := by decide +kernel
theorem dX9_length_9 : decode cX9_length 9 = .ok (.bipush (-3), 2) := by decide +kernel
theorem dX9_length_11 : decode cX9_length 11 = .ok (.invokevirtual 63, 3) := by decide +kernel
theorem dX9_length_14 : decode cX9_length 14 = .ok (.ireturn, 1) := by decide +kernel
theorem dX9_length_15 : decode cX9_length 15 = .ok (.aload_n 0, 1) := by decide +kernel
theorem dX9_length_16 : decode cX9_length 16 = .ok (.iload_n 1, 1) := by decide +kernel
theorem dX9_length_17 : decode cX9_length 17 = .ok (.iload_n 2, 1) := by decide +kernel
theorem dX9_length_18 : decode cX9_length 18 = .ok (.invokevirtual 136, 3) := by decide +kernel
theorem dX9_length_21 : decode cX9_length 21 = .ok (.astore_n 3, 1) := by decide +kernel
theorem dX9_length_22 : decode cX9_length 22 = .ok (.aload_n 3, 1) := by decide +kernel
theorem dX9_length_23 : decode cX9_length 23 = .ok (.ifnonnull 10, 3) := by decide +kernel
theorem dX9_length_26 : decode cX9_length 26 = .ok (.aload_n 0, 1) := by decide +kernel
theorem dX9_length_27 : decode cX9_length 27 = .ok (.bipush (-2), 2) := by decide +kernel
theorem dX9_length_29 : decode cX9_length 29 = .ok (.invokevirtual 63, 3) := by decide +kernel
theorem dX9_length_32 : decode cX9_length 32 = .ok (.ireturn, 1) := by decide +kernel
theorem dX9_length_33 : decode cX9_length 33 = .ok (.aload_n 3, 1) := by decide +kernel
theorem dX9_length_34 : decode cX9_length 34 = .ok (.invokevirtual 146, 3) := by decide +kernel
theorem dX9_length_37 : decode cX9_length 37 = .ok (.ifCond .eq 11, 3) := by decide +kernel
theorem dX9_length_40 : decode cX9_length 40 = .ok (.aload_n 0, 1) := by decide +kernel
theorem dX9_length_41 : decode cX9_length 41 = .ok (.iconst 1, 1) := by decide +kernel
theorem dX9_length_42 : decode cX9_length 42 = .ok (.invokevirtual 78, 3) := by decide +kernel
theorem dX9_length_45 : decode cX9_length 45 = .ok (.goto 11, 3) := by decide +kernel
theorem dX9_length_48 : decode cX9_length 48 = .ok (.aload_n 0, 1) := by decide +kernel
theorem dX9_length_49 : decode cX9_length 49 = .ok (.aload_n 3, 1) := by decide +kernel
theorem dX9_length_50 : decode cX9_length 50 = .ok (.getfield 149, 3) := by decide +kernel
theorem dX9_length_53 : decode cX9_length 53 = .ok (.invokevirtual 71, 3) := by decide +kernel
theorem dX9_length_56 : decode cX9_length 56 = .ok (.ireturn, 1) := by decide +kernel
theorem dX9_rack_0 : decode cX9_rack 0 = .ok (.iload_n 1, 1) := by decide +kernel
theorem dX9_rack_1 : decode cX9_rack 1 = .ok (.iconst 4, 1) := by decide +kernel
theorem dX9_rack_2 : decode cX9_rack 2 = .ok (.invokestatic 59, 3) := by decide +kernel
theorem dX9_rack_5 : decode cX9_rack 5 = .ok (.ifCond .ne 10, 3) := by decide +kernel
theorem dX9_rack_8 : decode cX9_rack 8 = .ok (.aload_n 0, 1) := by decide +kernel
theorem dX9_rack_9 : decode cX9_rack 9 = .ok (.bipush (-2), 2) := by decide +kernel
theorem dX9_rack_11 : decode cX9_rack 11 = .ok (.invokevirtual 63, 3) := by decide +kernel
theorem dX9_rack_14 : decode cX9_rack 14 = .ok (.ireturn, 1) := by decide +kernel
theorem dX9_rack_15 : decode cX9_rack 15 = .ok (.iload_n 2, 1) := by decide +kernel
theorem dX9_rack_16 : decode cX9_rack 16 = .ok (.iconst 3, 1) := by decide +kernel
theorem dX9_rack_17 : decode cX9_rack 17 = .ok (.invokestatic 59, 3) := by decide +kernel
theorem dX9_rack_20 : decode cX9_rack 20 = .ok (.ifCond .eq 9, 3) := by decide +kernel
theorem dX9_rack_23 : decode cX9_rack 23 = .ok (.iload_n 3, 1) := by decide +kernel
theorem dX9_rack_24 : decode cX9_rack 24 = .ok (.bipush 10, 2) := by decide +kernel
theorem dX9_rack_26 : decode cX9_rack 26 = .ok (.if_icmp .le 10, 3) := by decide +kernel
theorem dX9_rack_29 : decode cX9_rack 29 = .ok (.aload_n 0, 1) := by decide +kernel
theorem dX9_rack_30 : decode cX9_rack 30 = .ok (.bipush (-3), 2) := by decide +kernel
theorem dX9_rack_32 : decode cX9_rack 32 = .ok (.invokevirtual 63, 3) := by decide +kernel
theorem dX9_rack_35 : decode cX9_rack 35 = .ok (.ireturn, 1) := by decide +kernel
theorem dX9_rack_36 : decode cX9_rack 36 = .ok (.iload_n 3, 1) := by decide +kernel
theorem dX9_rack_37 : decode cX9_rack 37 = .ok (.ifCond .ge 9, 3) := by decide +kernel
theorem dX9_rack_40 : decode cX9_rack 40 = .ok (.aload_n 0, 1) := by decide +kernel
theorem dX9_rack_41 : decode cX9_rack 41 = .ok (.iconst 3, 1) := by decide +kernel
theorem dX9_rack_42 : decode cX9_rack 42 = .ok (.invokevirtual 78, 3) := by decide +kernel
theorem dX9_rack_45 : decode cX9_rack 45 = .ok (.ireturn, 1) := by decide +kernel
theorem dX9_rack_46 : decode cX9_rack 46 = .ok (.aload_n 0, 1) := by decide +kernel
theorem dX9_rack_47 : decode cX9_rack 47 = .ok (.getfield 23, 3) := by decide +kernel
theorem dX9_rack_50 : decode cX9_rack 50 = .ok (.iload_n 1, 1) := by decide +kernel
theorem dX9_rack_51 : decode cX9_rack 51 = .ok (.aaload, 1) := by decide +kernel
theorem dX9_rack_52 : decode cX9_rack 52 = .ok (.iload_n 2, 1) := by decide +kernel
theorem dX9_rack_53 : decode cX9_rack 53 = .ok (.iload_n 3, 1) := by decide +kernel
theorem dX9_rack_54 : decode cX9_rack 54 = .ok (.invokevirtual 152, 3) := by decide +kernel
theorem dX9_rack_57 : decode cX9_rack 57 = .ok (.aload_n 0, 1) := by decide +kernel
theorem dX9_rack_58 : decode cX9_rack 58 = .ok (.iload_n 3, 1) := by decide +kernel
theorem dX9_rack_59 : decode cX9_rack 59 = .ok (.invokevirtual 71, 3) := by decide +kernel
theorem dX9_rack_62 : decode cX9_rack 62 = .ok (.ireturn, 1) := by decide +kernel
theorem dX9_lay_0 : decode cX9_lay 0 = .ok (.iload_n 1, 1) := by decide +kernel
theorem dX9_lay_1 : decode cX9_lay 1 = .ok (.iconst 4, 1) := by decide +kernel
theorem dX9_lay_2 : decode cX9_lay 2 = .ok (.invokestatic 59, 3) := by decide +kernel
theorem dX9_lay_5 : decode cX9_lay 5 = .ok (.ifCond .eq 12, 3) := by decide +kernel
theorem dX9_lay_8 : decode cX9_lay 8 = .ok (.iload_n 3, 1) := by decide +kernel
theorem dX9_lay_9 : decode cX9_lay 9 = .ok (.bipush 10, 2) := by decide +kernel
theorem dX9_lay_11 : decode cX9_lay 11 = .ok (.invokestatic 59, 3) := by decide +kernel
theorem dX9_lay_14 : decode cX9_lay 14 = .ok (.ifCond .ne 10, 3) := by decide +kernel
theorem dX9_lay_17 : decode cX9_lay 17 = .ok (.aload_n 0, 1) := by decide +kernel
theorem dX9_lay_18 : decode cX9_lay 18 = .ok (.bipush (-2), 2) := by decide +kernel
theorem dX9_lay_20 : decode cX9_lay 20 = .ok (.invokevirtual 63, 3) := by decide +kernel
theorem dX9_lay_23 : decode cX9_lay 23 = .ok (.ireturn, 1) := by decide +kernel
theorem dX9_lay_24 : decode cX9_lay 24 = .ok (.aload_n 0, 1) := by decide +kernel
theorem dX9_lay_25 : decode cX9_lay 25 = .ok (.getfield 23, 3) := by decide +kernel
theorem dX9_lay_28 : decode cX9_lay 28 = .ok (.iload_n 1, 1) := by decide +kernel
theorem dX9_lay_29 : decode cX9_lay 29 = .ok (.aaload, 1) := by decide +kernel
theorem dX9_lay_30 : decode cX9_lay 30 = .ok (.astore 4, 2) := by decide +kernel
theorem dX9_lay_32 : decode cX9_lay 32 = .ok (.aload 4, 2) := by decide +kernel
theorem dX9_lay_34 : decode cX9_lay 34 = .ok (.iload_n 2, 1) := by decide +kernel
theorem dX9_lay_35 : decode cX9_lay 35 = .ok (.invokestatic 116, 3) := by decide +kernel
theorem dX9_lay_38 : decode cX9_lay 38 = .ok (.istore 5, 2) := by decide +kernel
theorem dX9_lay_40 : decode cX9_lay 40 = .ok (.iload 5, 2) := by decide +kernel
theorem dX9_lay_42 : decode cX9_lay 42 = .ok (.ifCond .eq 10, 3) := by decide +kernel
theorem dX9_lay_45 : decode cX9_lay 45 = .ok (.aload_n 0, 1) := by decide +kernel
theorem dX9_lay_46 : decode cX9_lay 46 = .ok (.iload 5, 2) := by decide +kernel
theorem dX9_lay_48 : decode cX9_lay 48 = .ok (.invokevirtual 78, 3) := by decide +kernel
theorem dX9_lay_51 : decode cX9_lay 51 = .ok (.ireturn, 1) := by decide +kernel
theorem dX9_lay_52 : decode cX9_lay 52 = .ok (.aload_n 0, 1) := by decide +kernel
theorem dX9_lay_53 : decode cX9_lay 53 = .ok (.getfield 11, 3) := by decide +kernel
theorem dX9_lay_56 : decode cX9_lay 56 = .ok (.iload_n 3, 1) := by decide +kernel
theorem dX9_lay_57 : decode cX9_lay 57 = .ok (.aaload, 1) := by decide +kernel
theorem dX9_lay_58 : decode cX9_lay 58 = .ok (.astore 6, 2) := by decide +kernel
theorem dX9_lay_60 : decode cX9_lay 60 = .ok (.aload 6, 2) := by decide +kernel
theorem dX9_lay_62 : decode cX9_lay 62 = .ok (.aload 4, 2) := by decide +kernel
theorem dX9_lay_64 : decode cX9_lay 64 = .ok (.getfield 155, 3) := by decide +kernel
theorem dX9_lay_67 : decode cX9_lay 67 = .ok (.invokestatic 158, 3) := by decide +kernel
theorem dX9_lay_70 : decode cX9_lay 70 = .ok (.ifCond .ne 9, 3) := by decide +kernel
theorem dX9_lay_73 : decode cX9_lay 73 = .ok (.aload_n 0, 1) := by decide +kernel
theorem dX9_lay_74 : decode cX9_lay 74 = .ok (.iconst 5, 1) := by decide +kernel
theorem dX9_lay_75 : decode cX9_lay 75 = .ok (.invokevirtual 78, 3) := by decide +kernel
theorem dX9_lay_78 : decode cX9_lay 78 = .ok (.ireturn, 1) := by decide +kernel
theorem dX9_lay_79 : decode cX9_lay 79 = .ok (.aload 4, 2) := by decide +kernel
theorem dX9_lay_81 : decode cX9_lay 81 = .ok (.getfield 162, 3) := by decide +kernel
theorem dX9_lay_84 : decode cX9_lay 84 = .ok (.iload_n 2, 1) := by decide +kernel
theorem dX9_lay_85 : decode cX9_lay 85 = .ok (.aload 6, 2) := by decide +kernel
theorem dX9_lay_87 : decode cX9_lay 87 = .ok (.aastore, 1) := by decide +kernel
theorem dX9_lay_88 : decode cX9_lay 88 = .ok (.aload_n 0, 1) := by decide +kernel
theorem dX9_lay_89 : decode cX9_lay 89 = .ok (.iconst 1, 1) := by decide +kernel
theorem dX9_lay_90 : decode cX9_lay 90 = .ok (.invokevirtual 71, 3) := by decide +kernel
theorem dX9_lay_93 : decode cX9_lay 93 = .ok (.ireturn, 1) := by decide +kernel
theorem dX9_fetch_0 : decode cX9_fetch 0 = .ok (.iload_n 1, 1) := by decide +kernel
theorem dX9_fetch_1 : decode cX9_fetch 1 = .ok (.iconst 4, 1) := by decide +kernel
theorem dX9_fetch_2 : decode cX9_fetch 2 = .ok (.invokestatic 59, 3) := by decide +kernel
theorem dX9_fetch_5 : decode cX9_fetch 5 = .ok (.ifCond .eq 13, 3) := by decide +kernel
theorem dX9_fetch_8 : decode cX9_fetch 8 = .ok (.iload 4, 2) := by decide +kernel
theorem dX9_fetch_10 : decode cX9_fetch 10 = .ok (.bipush 10, 2) := by decide +kernel
theorem dX9_fetch_12 : decode cX9_fetch 12 = .ok (.invokestatic 59, 3) := by decide +kernel
theorem dX9_fetch_15 : decode cX9_fetch 15 = .ok (.ifCond .ne 10, 3) := by decide +kernel
theorem dX9_fetch_18 : decode cX9_fetch 18 = .ok (.aload_n 0, 1) := by decide +kernel
theorem dX9_fetch_19 : decode cX9_fetch 19 = .ok (.bipush (-2), 2) := by decide +kernel
theorem dX9_fetch_21 : decode cX9_fetch 21 = .ok (.invokevirtual 63, 3) := by decide +kernel
theorem dX9_fetch_24 : decode cX9_fetch 24 = .ok (.ireturn, 1) := by decide +kernel
theorem dX9_fetch_25 : decode cX9_fetch 25 = .ok (.iload_n 3, 1) := by decide +kernel
theorem dX9_fetch_26 : decode cX9_fetch 26 = .ok (.iconst 3, 1) := by decide +kernel
theorem dX9_fetch_27 : decode cX9_fetch 27 = .ok (.invokestatic 59, 3) := by decide +kernel
theorem dX9_fetch_30 : decode cX9_fetch 30 = .ok (.ifCond .ne 10, 3) := by decide +kernel
theorem dX9_fetch_33 : decode cX9_fetch 33 = .ok (.aload_n 0, 1) := by decide +kernel
theorem dX9_fetch_34 : decode cX9_fetch 34 = .ok (.bipush (-3), 2) := by decide +kernel
theorem dX9_fetch_36 : decode cX9_fetch 36 = .ok (.invokevirtual 63, 3) := by decide +kernel
theorem dX9_fetch_39 : decode cX9_fetch 39 = .ok (.ireturn, 1) := by decide +kernel
theorem dX9_fetch_40 : decode cX9_fetch 40 = .ok (.aload_n 0, 1) := by decide +kernel
theorem dX9_fetch_41 : decode cX9_fetch 41 = .ok (.getfield 23, 3) := by decide +kernel
theorem dX9_fetch_44 : decode cX9_fetch 44 = .ok (.iload_n 1, 1) := by decide +kernel
theorem dX9_fetch_45 : decode cX9_fetch 45 = .ok (.aaload, 1) := by decide +kernel
theorem dX9_fetch_46 : decode cX9_fetch 46 = .ok (.astore 5, 2) := by decide +kernel
theorem dX9_fetch_48 : decode cX9_fetch 48 = .ok (.aload 5, 2) := by decide +kernel
theorem dX9_fetch_50 : decode cX9_fetch 50 = .ok (.iload_n 2, 1) := by decide +kernel
theorem dX9_fetch_51 : decode cX9_fetch 51 = .ok (.invokestatic 116, 3) := by decide +kernel
theorem dX9_fetch_54 : decode cX9_fetch 54 = .ok (.istore 6, 2) := by decide +kernel
theorem dX9_fetch_56 : decode cX9_fetch 56 = .ok (.iload 6, 2) := by decide +kernel
theorem dX9_fetch_58 : decode cX9_fetch 58 = .ok (.ifCond .eq 10, 3) := by decide +kernel
theorem dX9_fetch_61 : decode cX9_fetch 61 = .ok (.aload_n 0, 1) := by decide +kernel
theorem dX9_fetch_62 : decode cX9_fetch 62 = .ok (.iload 6, 2) := by decide +kernel
theorem dX9_fetch_64 : decode cX9_fetch 64 = .ok (.invokevirtual 78, 3) := by decide +kernel
theorem dX9_fetch_67 : decode cX9_fetch 67 = .ok (.ireturn, 1) := by decide +kernel
theorem dX9_fetch_68 : decode cX9_fetch 68 = .ok (.aload 5, 2) := by decide +kernel
theorem dX9_fetch_70 : decode cX9_fetch 70 = .ok (.getfield 162, 3) := by decide +kernel
theorem dX9_fetch_73 : decode cX9_fetch 73 = .ok (.iload_n 2, 1) := by decide +kernel
theorem dX9_fetch_74 : decode cX9_fetch 74 = .ok (.aaload, 1) := by decide +kernel
theorem dX9_fetch_75 : decode cX9_fetch 75 = .ok (.astore 7, 2) := by decide +kernel
theorem dX9_fetch_77 : decode cX9_fetch 77 = .ok (.aload 7, 2) := by decide +kernel
theorem dX9_fetch_79 : decode cX9_fetch 79 = .ok (.iload_n 3, 1) := by decide +kernel
theorem dX9_fetch_80 : decode cX9_fetch 80 = .ok (.invokestatic 158, 3) := by decide +kernel
theorem dX9_fetch_83 : decode cX9_fetch 83 = .ok (.ifCond .ne 9, 3) := by decide +kernel
theorem dX9_fetch_86 : decode cX9_fetch 86 = .ok (.aload_n 0, 1) := by decide +kernel
theorem dX9_fetch_87 : decode cX9_fetch 87 = .ok (.iconst 4, 1) := by decide +kernel
theorem dX9_fetch_88 : decode cX9_fetch 88 = .ok (.invokevirtual 78, 3) := by decide +kernel
theorem dX9_fetch_91 : decode cX9_fetch 91 = .ok (.ireturn, 1) := by decide +kernel
theorem dX9_fetch_92 : decode cX9_fetch 92 = .ok (.aload_n 0, 1) := by decide +kernel
theorem dX9_fetch_93 : decode cX9_fetch 93 = .ok (.getfield 11, 3) := by decide +kernel
theorem dX9_fetch_96 : decode cX9_fetch 96 = .ok (.iload 4, 2) := by decide +kernel
theorem dX9_fetch_98 : decode cX9_fetch 98 = .ok (.aload 7, 2) := by decide +kernel
theorem dX9_fetch_100 : decode cX9_fetch 100 = .ok (.aastore, 1) := by decide +kernel
theorem dX9_fetch_101 : decode cX9_fetch 101 = .ok (.aload_n 0, 1) := by decide +kernel
theorem dX9_fetch_102 : decode cX9_fetch 102 = .ok (.iconst 1, 1) := by decide +kernel
theorem dX9_fetch_103 : decode cX9_fetch 103 = .ok (.invokevirtual 71, 3) := by decide +kernel
theorem dX9_fetch_106 : decode cX9_fetch 106 = .ok (.ireturn, 1) := by decide +kernel
theorem dX9_grid_0 : decode cX9_grid 0 = .ok (.iload_n 1, 1) := by decide +kernel
theorem dX9_grid_1 : decode cX9_grid 1 = .ok (.iconst 2, 1) := by decide +kernel
theorem dX9_grid_2 : decode cX9_grid 2 = .ok (.invokestatic 59, 3) := by decide +kernel
theorem dX9_grid_5 : decode cX9_grid 5 = .ok (.ifCond .ne 10, 3) := by decide +kernel
theorem dX9_grid_8 : decode cX9_grid 8 = .ok (.aload_n 0, 1) := by decide +kernel
theorem dX9_grid_9 : decode cX9_grid 9 = .ok (.bipush (-2), 2) := by decide +kernel
theorem dX9_grid_11 : decode cX9_grid 11 = .ok (.invokevirtual 63, 3) := by decide +kernel
theorem dX9_grid_14 : decode cX9_grid 14 = .ok (.ireturn, 1) := by decide +kernel
theorem dX9_grid_15 : decode cX9_grid 15 = .ok (.iload_n 2, 1) := by decide +kernel
theorem dX9_grid_16 : decode cX9_grid 16 = .ok (.bipush 8, 2) := by decide +kernel
theorem dX9_grid_18 : decode cX9_grid 18 = .ok (.if_icmp .gt 9, 3) := by decide +kernel
theorem dX9_grid_21 : decode cX9_grid 21 = .ok (.iload_n 3, 1) := by decide +kernel
theorem dX9_grid_22 : decode cX9_grid 22 = .ok (.bipush 8, 2) := by decide +kernel
theorem dX9_grid_24 : decode cX9_grid 24 = .ok (.if_icmp .le 10, 3) := by decide +kernel
theorem dX9_grid_27 : decode cX9_grid 27 = .ok (.aload_n 0, 1) := by decide +kernel
theorem dX9_grid_28 : decode cX9_grid 28 = .ok (.bipush (-3), 2) := by decide +kernel
theorem dX9_grid_30 : decode cX9_grid 30 = .ok (.invokevirtual 63, 3) := by decide +kernel
theorem dX9_grid_33 : decode cX9_grid 33 = .ok (.ireturn, 1) := by decide +kernel
theorem dX9_grid_34 : decode cX9_grid 34 = .ok (.iload_n 2, 1) := by decide +kernel
theorem dX9_grid_35 : decode cX9_grid 35 = .ok (.ifCond .lt 7, 3) := by decide +kernel
theorem dX9_grid_38 : decode cX9_grid 38 = .ok (.iload_n 3, 1) := by decide +kernel
theorem dX9_grid_39 : decode cX9_grid 39 = .ok (.ifCond .ge 9, 3) := by decide +kernel
theorem dX9_grid_42 : decode cX9_grid 42 = .ok (.aload_n 0, 1) := by decide +kernel
theorem dX9_grid_43 : decode cX9_grid 43 = .ok (.iconst 3, 1) := by decide +kernel
theorem dX9_grid_44 : decode cX9_grid 44 = .ok (.invokevirtual 78, 3) := by decide +kernel
theorem dX9_grid_47 : decode cX9_grid 47 = .ok (.ireturn, 1) := by decide +kernel
theorem dX9_grid_48 : decode cX9_grid 48 = .ok (.aload_n 0, 1) := by decide +kernel
theorem dX9_grid_49 : decode cX9_grid 49 = .ok (.getfield 29, 3) := by decide +kernel
theorem dX9_grid_52 : decode cX9_grid 52 = .ok (.iload_n 1, 1) := by decide +kernel
theorem dX9_grid_53 : decode cX9_grid 53 = .ok (.aaload, 1) := by decide +kernel
theorem dX9_grid_54 : decode cX9_grid 54 = .ok (.iload_n 2, 1) := by decide +kernel
theorem dX9_grid_55 : decode cX9_grid 55 = .ok (.iload_n 3, 1) := by decide +kernel
theorem dX9_grid_56 : decode cX9_grid 56 = .ok (.invokevirtual 165, 3) := by decide +kernel
theorem dX9_grid_59 : decode cX9_grid 59 = .ok (.aload_n 0, 1) := by decide +kernel
theorem dX9_grid_60 : decode cX9_grid 60 = .ok (.iload_n 2, 1) := by decide +kernel
theorem dX9_grid_61 : decode cX9_grid 61 = .ok (.invokevirtual 71, 3) := by decide +kernel
theorem dX9_grid_64 : decode cX9_grid 64 = .ok (.ireturn, 1) := by decide +kernel
theorem dX9_strike_0 : decode cX9_strike 0 = .ok (.iload_n 1, 1) := by decide +kernel
theorem dX9_strike_1 : decode cX9_strike 1 = .ok (.iconst 2, 1) := by decide +kernel
theorem dX9_strike_2 : decode cX9_strike 2 = .ok (.invokestatic 59, 3) := by decide +kernel
theorem dX9_strike_5 : decode cX9_strike 5 = .ok (.ifCond .ne 10, 3) := by decide +kernel
theorem dX9_strike_8 : decode cX9_strike 8 = .ok (.aload_n 0, 1) := by decide +kernel
theorem dX9_strike_9 : decode cX9_strike 9 = .ok (.bipush (-2), 2) := by decide +kernel
theorem dX9_strike_11 : decode cX9_strike 11 = .ok (.invokevirtual 63, 3) := by decide +kernel
theorem dX9_strike_14 : decode cX9_strike 14 = .ok (.ireturn, 1) := by decide +kernel
theorem dX9_strike_15 : decode cX9_strike 15 = .ok (.aload_n 0, 1) := by decide +kernel
theorem dX9_strike_16 : decode cX9_strike 16 = .ok (.getfield 29, 3) := by decide +kernel
theorem dX9_strike_19 : decode cX9_strike 19 = .ok (.iload_n 1, 1) := by decide +kernel
theorem dX9_strike_20 : decode cX9_strike 20 = .ok (.aaload, 1) := by decide +kernel
theorem dX9_strike_21 : decode cX9_strike 21 = .ok (.astore_n 3, 1) := by decide +kernel
theorem dX9_strike_22 : decode cX9_strike 22 = .ok (.aload_n 3, 1) := by decide +kernel
theorem dX9_strike_23 : decode cX9_strike 23 = .ok (.iload_n 2, 1) := by decide +kernel
theorem dX9_strike_24 : decode cX9_strike 24 = .ok (.invokestatic 116, 3) := by decide +kernel
theorem dX9_strike_27 : decode cX9_strike 27 = .ok (.istore 4, 2) := by decide +kernel
theorem dX9_strike_29 : decode cX9_strike 29 = .ok (.iload 4, 2) := by decide +kernel
theorem dX9_strike_31 : decode cX9_strike 31 = .ok (.ifCond .eq 10, 3) := by decide +kernel
theorem dX9_strike_34 : decode cX9_strike 34 = .ok (.aload_n 0, 1) := by decide +kernel
theorem dX9_strike_35 : decode cX9_strike 35 = .ok (.iload 4, 2) := by decide +kernel
theorem dX9_strike_37 : decode cX9_strike 37 = .ok (.invokevirtual 78, 3) := by decide +kernel
theorem dX9_strike_40 : decode cX9_strike 40 = .ok (.ireturn, 1) := by decide +kernel
theorem dX9_strike_41 : decode cX9_strike 41 = .ok (.aload_n 0, 1) := by decide +kernel
theorem dX9_strike_42 : decode cX9_strike 42 = .ok (.aload_n 3, 1) := by decide +kernel
theorem dX9_strike_43 : decode cX9_strike 43 = .ok (.getfield 166, 3) := by decide +kernel
theorem dX9_strike_46 : decode cX9_strike 46 = .ok (.iload_n 2, 1) := by decide +kernel
theorem dX9_strike_47 : decode cX9_strike 47 = .ok (.aaload, 1) := by decide +kernel
theorem dX9_strike_48 : decode cX9_strike 48 = .ok (.invokevirtual 169, 3) := by decide +kernel
theorem dX9_strike_51 : decode cX9_strike 51 = .ok (.ifCond .eq 7, 3) := by decide +kernel
theorem dX9_strike_54 : decode cX9_strike 54 = .ok (.iconst 1, 1) := by decide +kernel
theorem dX9_strike_55 : decode cX9_strike 55 = .ok (.goto 4, 3) := by decide +kernel
theorem dX9_strike_58 : decode cX9_strike 58 = .ok (.iconst 0, 1) := by decide +kernel
theorem dX9_strike_59 : decode cX9_strike 59 = .ok (.invokevirtual 71, 3) := by decide +kernel
theorem dX9_strike_62 : decode cX9_strike 62 = .ok (.ireturn, 1) := by decide +kernel
theorem dX9_mark_0 : decode cX9_mark 0 = .ok (.iload_n 1, 1) := by decide +kernel
theorem dX9_mark_1 : decode cX9_mark 1 = .ok (.iconst 2, 1) := by decide +kernel
theorem dX9_mark_2 : decode cX9_mark 2 = .ok (.invokestatic 59, 3) := by decide +kernel
theorem dX9_mark_5 : decode cX9_mark 5 = .ok (.ifCond .ne 10, 3) := by decide +kernel
theorem dX9_mark_8 : decode cX9_mark 8 = .ok (.aload_n 0, 1) := by decide +kernel
theorem dX9_mark_9 : decode cX9_mark 9 = .ok (.bipush (-2), 2) := by decide +kernel
theorem dX9_mark_11 : decode cX9_mark 11 = .ok (.invokevirtual 63, 3) := by decide +kernel
theorem dX9_mark_14 : decode cX9_mark 14 = .ok (.ireturn, 1) := by decide +kernel
theorem dX9_mark_15 : decode cX9_mark 15 = .ok (.aload_n 0, 1) := by decide +kernel
theorem dX9_mark_16 : decode cX9_mark 16 = .ok (.getfield 29, 3) := by decide +kernel
theorem dX9_mark_19 : decode cX9_mark 19 = .ok (.iload_n 1, 1) := by decide +kernel
theorem dX9_mark_20 : decode cX9_mark 20 = .ok (.aaload, 1) := by decide +kernel
theorem dX9_mark_21 : decode cX9_mark 21 = .ok (.astore 5, 2) := by decide +kernel
theorem dX9_mark_23 : decode cX9_mark 23 = .ok (.aload 5, 2) := by decide +kernel
theorem dX9_mark_25 : decode cX9_mark 25 = .ok (.iload_n 2, 1) := by decide +kernel
theorem dX9_mark_26 : decode cX9_mark 26 = .ok (.iload_n 3, 1) := by decide +kernel
theorem dX9_mark_27 : decode cX9_mark 27 = .ok (.invokestatic 170, 3) := by decide +kernel
theorem dX9_mark_30 : decode cX9_mark 30 = .ok (.istore 6, 2) := by decide +kernel
theorem dX9_mark_32 : decode cX9_mark 32 = .ok (.iload 6, 2) := by decide +kernel
theorem dX9_mark_34 : decode cX9_mark 34 = .ok (.ifCond .eq 10, 3) := by decide +kernel
theorem dX9_mark_37 : decode cX9_mark 37 = .ok (.aload_n 0, 1) := by decide +kernel
theorem dX9_mark_38 : decode cX9_mark 38 = .ok (.iload 6, 2) := by decide +kernel
theorem dX9_mark_40 : decode cX9_mark 40 = .ok (.invokevirtual 78, 3) := by decide +kernel
theorem dX9_mark_43 : decode cX9_mark 43 = .ok (.ireturn, 1) := by decide +kernel
theorem dX9_mark_44 : decode cX9_mark 44 = .ok (.aload 5, 2) := by decide +kernel
theorem dX9_mark_46 : decode cX9_mark 46 = .ok (.getfield 166, 3) := by decide +kernel
theorem dX9_mark_49 : decode cX9_mark 49 = .ok (.iload_n 2, 1) := by decide +kernel
theorem dX9_mark_50 : decode cX9_mark 50 = .ok (.aaload, 1) := by decide +kernel
theorem dX9_mark_51 : decode cX9_mark 51 = .ok (.getfield 120, 3) := by decide +kernel
theorem dX9_mark_54 : decode cX9_mark 54 = .ok (.iload_n 3, 1) := by decide +kernel
theorem dX9_mark_55 : decode cX9_mark 55 = .ok (.iload 4, 2) := by decide +kernel
theorem dX9_mark_57 : decode cX9_mark 57 = .ok (.iastore, 1) := by decide +kernel
theorem dX9_mark_58 : decode cX9_mark 58 = .ok (.aload_n 0, 1) := by decide +kernel
theorem dX9_mark_59 : decode cX9_mark 59 = .ok (.iconst 1, 1) := by decide +kernel
theorem dX9_mark_60 : decode cX9_mark 60 = .ok (.invokevirtual 71, 3) := by decide +kernel
theorem dX9_mark_63 : decode cX9_mark 63 = .ok (.ireturn, 1) := by decide +kernel
theorem dX9_cell_0 : decode cX9_cell 0 = .ok (.iload_n 1, 1) := by decide +kernel
theorem dX9_cell_1 : decode cX9_cell 1 = .ok (.iconst 2, 1) := by decide +kernel
theorem dX9_cell_2 : decode cX9_cell 2 = .ok (.invokestatic 59, 3) := by decide +kernel
theorem dX9_cell_5 : decode cX9_cell 5 = .ok (.ifCond .ne 10, 3) := by decide +kernel
theorem dX9_cell_8 : decode cX9_cell 8 = .ok (.aload_n 0, 1) := by decide +kernel
theorem dX9_cell_9 : decode cX9_cell 9 = .ok (.bipush (-2), 2) := by decide +kernel
theorem dX9_cell_11 : decode cX9_cell 11 = .ok (.invokevirtual 88, 3) := by decide +kernel
theorem dX9_cell_14 : decode cX9_cell 14 = .ok (.ireturn, 1) := by decide +kernel
theorem dX9_cell_15 : decode cX9_cell 15 = .ok (.aload_n 0, 1) := by decide +kernel
theorem dX9_cell_16 : decode cX9_cell 16 = .ok (.getfield 29, 3) := by decide +kernel
theorem dX9_cell_19 : decode cX9_cell 19 = .ok (.iload_n 1, 1) := by decide +kernel
theorem dX9_cell_20 : decode cX9_cell 20 = .ok (.aaload, 1) := by decide +kernel
theorem dX9_cell_21 : decode cX9_cell 21 = .ok (.astore 4, 2) := by decide +kernel
theorem dX9_cell_23 : decode cX9_cell 23 = .ok (.aload 4, 2) := by decide +kernel
theorem dX9_cell_25 : decode cX9_cell 25 = .ok (.iload_n 2, 1) := by decide +kernel
theorem dX9_cell_26 : decode cX9_cell 26 = .ok (.iload_n 3, 1) := by decide +kernel
theorem dX9_cell_27 : decode cX9_cell 27 = .ok (.invokestatic 170, 3) := by decide +kernel
theorem dX9_cell_30 : decode cX9_cell 30 = .ok (.istore 5, 2) := by decide +kernel
theorem dX9_cell_32 : decode cX9_cell 32 = .ok (.iload 5, 2) := by decide +kernel
theorem dX9_cell_34 : decode cX9_cell 34 = .ok (.ifCond .eq 10, 3) := by decide +kernel
theorem dX9_cell_37 : decode cX9_cell 37 = .ok (.aload_n 0, 1) := by decide +kernel
theorem dX9_cell_38 : decode cX9_cell 38 = .ok (.iload 5, 2) := by decide +kernel
theorem dX9_cell_40 : decode cX9_cell 40 = .ok (.invokevirtual 91, 3) := by decide +kernel
theorem dX9_cell_43 : decode cX9_cell 43 = .ok (.ireturn, 1) := by decide +kernel
theorem dX9_cell_44 : decode cX9_cell 44 = .ok (.aload_n 0, 1) := by decide +kernel
theorem dX9_cell_45 : decode cX9_cell 45 = .ok (.aload 4, 2) := by decide +kernel
theorem dX9_cell_47 : decode cX9_cell 47 = .ok (.getfield 166, 3) := by decide +kernel
theorem dX9_cell_50 : decode cX9_cell 50 = .ok (.iload_n 2, 1) := by decide +kernel
theorem dX9_cell_51 : decode cX9_cell 51 = .ok (.aaload, 1) := by decide +kernel
theorem dX9_cell_52 : decode cX9_cell 52 = .ok (.getfield 120, 3) := by decide +kernel
theorem dX9_cell_55 : decode cX9_cell 55 = .ok (.iload_n 3, 1) := by decide +kernel
theorem dX9_cell_56 : decode cX9_cell 56 = .ok (.iaload, 1) := by decide +kernel
theorem dX9_cell_57 : decode cX9_cell 57 = .ok (.invokevirtual 71, 3) := by decide +kernel
theorem dX9_cell_60 : decode cX9_cell 60 = .ok (.ireturn, 1) := by decide +kernel
theorem dX9_holderOrNull_0 : decode cX9_holderOrNull 0 = .ok (.iload_n 1, 1) := by decide +kernel
theorem dX9_holderOrNull_1 : decode cX9_holderOrNull 1 = .ok (.lookupswitch 65 #[(0, 27), (1, 46)], 27) := by decide +kernel
theorem dX9_holderOrNull_28 : decode cX9_holderOrNull 28 = .ok (.iload_n 2, 1) := by decide +kernel
theorem dX9_holderOrNull_29 : decode cX9_holderOrNull 29 = .ok (.iconst 4, 1) := by decide +kernel
theorem dX9_holderOrNull_30 : decode cX9_holderOrNull 30 = .ok (.invokestatic 59, 3) := by decide +kernel
theorem dX9_holderOrNull_33 : decode cX9_holderOrNull 33 = .ok (.ifCond .eq 12, 3) := by decide +kernel
theorem dX9_holderOrNull_36 : decode cX9_holderOrNull 36 = .ok (.aload_n 0, 1) := by decide +kernel
theorem dX9_holderOrNull_37 : decode cX9_holderOrNull 37 = .ok (.getfield 17, 3) := by decide +kernel
theorem dX9_holderOrNull_40 : decode cX9_holderOrNull 40 = .ok (.iload_n 2, 1) := by decide +kernel
theorem dX9_holderOrNull_41 : decode cX9_holderOrNull 41 = .ok (.aaload, 1) := by decide +kernel
theorem dX9_holderOrNull_42 : decode cX9_holderOrNull 42 = .ok (.goto 4, 3) := by decide +kernel
theorem dX9_holderOrNull_45 : decode cX9_holderOrNull 45 = .ok (.aconst_null, 1) := by decide +kernel
theorem dX9_holderOrNull_46 : decode cX9_holderOrNull 46 = .ok (.areturn, 1) := by decide +kernel
theorem dX9_holderOrNull_47 : decode cX9_holderOrNull 47 = .ok (.iload_n 2, 1) := by decide +kernel
theorem dX9_holderOrNull_48 : decode cX9_holderOrNull 48 = .ok (.iconst 4, 1) := by decide +kernel
theorem dX9_holderOrNull_49 : decode cX9_holderOrNull 49 = .ok (.invokestatic 59, 3) := by decide +kernel
theorem dX9_holderOrNull_52 : decode cX9_holderOrNull 52 = .ok (.ifCond .eq 12, 3) := by decide +kernel
theorem dX9_holderOrNull_55 : decode cX9_holderOrNull 55 = .ok (.aload_n 0, 1) := by decide +kernel
theorem dX9_holderOrNull_56 : decode cX9_holderOrNull 56 = .ok (.getfield 23, 3) := by decide +kernel
theorem dX9_holderOrNull_59 : decode cX9_holderOrNull 59 = .ok (.iload_n 2, 1) := by decide +kernel
theorem dX9_holderOrNull_60 : decode cX9_holderOrNull 60 = .ok (.aaload, 1) := by decide +kernel
theorem dX9_holderOrNull_61 : decode cX9_holderOrNull 61 = .ok (.goto 4, 3) := by decide +kernel
theorem dX9_holderOrNull_64 : decode cX9_holderOrNull 64 = .ok (.aconst_null, 1) := by decide +kernel
theorem dX9_holderOrNull_65 : decode cX9_holderOrNull 65 = .ok (.areturn, 1) := by decide +kernel
theorem dX9_holderOrNull_66 : decode cX9_holderOrNull 66 = .ok (.iload_n 2, 1) := by decide +kernel
theorem dX9_holderOrNull_67 : decode cX9_holderOrNull 67 = .ok (.iconst 2, 1) := by decide +kernel
theorem dX9_holderOrNull_68 : decode cX9_holderOrNull 68 = .ok (.invokestatic 59, 3) := by decide +kernel
theorem dX9_holderOrNull_71 : decode cX9_holderOrNull 71 = .ok (.ifCond .eq 12, 3) := by decide +kernel
theorem dX9_holderOrNull_74 : decode cX9_holderOrNull 74 = .ok (.aload_n 0, 1) := by decide +kernel
theorem dX9_holderOrNull_75 : decode cX9_holderOrNull 75 = .ok (.getfield 29, 3) := by decide +kernel
theorem dX9_holderOrNull_78 : decode cX9_holderOrNull 78 = .ok (.iload_n 2, 1) := by decide +kernel
theorem dX9_holderOrNull_79 : decode cX9_holderOrNull 79 = .ok (.aaload, 1) := by decide +kernel
theorem dX9_holderOrNull_80 : decode cX9_holderOrNull 80 = .ok (.goto 4, 3) := by decide +kernel
theorem dX9_holderOrNull_83 : decode cX9_holderOrNull 83 = .ok (.aconst_null, 1) := by decide +kernel
theorem dX9_holderOrNull_84 : decode cX9_holderOrNull 84 = .ok (.areturn, 1) := by decide +kernel
theorem dX9_failureAt_0 : decode cX9_failureAt 0 = .ok (.aload_n 0, 1) := by decide +kernel
theorem dX9_failureAt_1 : decode cX9_failureAt 1 = .ok (.invokevirtual 146, 3) := by decide +kernel
theorem dX9_failureAt_4 : decode cX9_failureAt 4 = .ok (.ifCond .eq 5, 3) := by decide +kernel
theorem dX9_failureAt_7 : decode cX9_failureAt 7 = .ok (.iconst 1, 1) := by decide +kernel
theorem dX9_failureAt_8 : decode cX9_failureAt 8 = .ok (.ireturn, 1) := by decide +kernel
theorem dX9_failureAt_9 : decode cX9_failureAt 9 = .ok (.iload_n 1, 1) := by decide +kernel
theorem dX9_failureAt_10 : decode cX9_failureAt 10 = .ok (.aload_n 0, 1) := by decide +kernel
theorem dX9_failureAt_11 : decode cX9_failureAt 11 = .ok (.getfield 149, 3) := by decide +kernel
theorem dX9_failureAt_14 : decode cX9_failureAt 14 = .ok (.invokestatic 59, 3) := by decide +kernel
theorem dX9_failureAt_17 : decode cX9_failureAt 17 = .ok (.ifCond .eq 7, 3) := by decide +kernel
theorem dX9_failureAt_20 : decode cX9_failureAt 20 = .ok (.iconst 0, 1) := by decide +kernel
theorem dX9_failureAt_21 : decode cX9_failureAt 21 = .ok (.goto 4, 3) := by decide +kernel
theorem dX9_failureAt_24 : decode cX9_failureAt 24 = .ok (.iconst 2, 1) := by decide +kernel
theorem dX9_failureAt_25 : decode cX9_failureAt 25 = .ok (.ireturn, 1) := by decide +kernel
theorem dX9_failureAtCell_0 : decode cX9_failureAtCell 0 = .ok (.aload_n 0, 1) := by decide +kernel
theorem dX9_failureAtCell_1 : decode cX9_failureAtCell 1 = .ok (.iload_n 1, 1) := by decide +kernel
theorem dX9_failureAtCell_2 : decode cX9_failureAtCell 2 = .ok (.invokestatic 116, 3) := by decide +kernel
theorem dX9_failureAtCell_5 : decode cX9_failureAtCell 5 = .ok (.istore_n 3, 1) := by decide +kernel
theorem dX9_failureAtCell_6 : decode cX9_failureAtCell 6 = .ok (.iload_n 3, 1) := by decide +kernel
theorem dX9_failureAtCell_7 : decode cX9_failureAtCell 7 = .ok (.ifCond .eq 7, 3) := by decide +kernel
theorem dX9_failureAtCell_10 : decode cX9_failureAtCell 10 = .ok (.iload_n 3, 1) := by decide +kernel
theorem dX9_failureAtCell_11 : decode cX9_failureAtCell 11 = .ok (.goto 13, 3) := by decide +kernel
theorem dX9_failureAtCell_14 : decode cX9_failureAtCell 14 = .ok (.aload_n 0, 1) := by decide +kernel
theorem dX9_failureAtCell_15 : decode cX9_failureAtCell 15 = .ok (.getfield 166, 3) := by decide +kernel
theorem dX9_failureAtCell_18 : decode cX9_failureAtCell 18 = .ok (.iload_n 1, 1) := by decide +kernel
theorem dX9_failureAtCell_19 : decode cX9_failureAtCell 19 = .ok (.aaload, 1) := by decide +kernel
theorem dX9_failureAtCell_20 : decode cX9_failureAtCell 20 = .ok (.iload_n 2, 1) := by decide +kernel
theorem dX9_failureAtCell_21 : decode cX9_failureAtCell 21 = .ok (.invokestatic 116, 3) := by decide +kernel
theorem dX9_failureAtCell_24 : decode cX9_failureAtCell 24 = .ok (.ireturn, 1) := by decide +kernel
theorem dX9_isOfSort_0 : decode cX9_isOfSort 0 = .ok (.aload_n 0, 1) := by decide +kernel
theorem dX9_isOfSort_1 : decode cX9_isOfSort 1 = .ok (.ifnull 7, 3) := by decide +kernel
theorem dX9_isOfSort_4 : decode cX9_isOfSort 4 = .ok (.iload_n 1, 1) := by decide +kernel
theorem dX9_isOfSort_5 : decode cX9_isOfSort 5 = .ok (.ifCond .ne 5, 3) := by decide +kernel
theorem dX9_isOfSort_8 : decode cX9_isOfSort 8 = .ok (.iconst 1, 1) := by decide +kernel
theorem dX9_isOfSort_9 : decode cX9_isOfSort 9 = .ok (.ireturn, 1) := by decide +kernel
theorem dX9_isOfSort_10 : decode cX9_isOfSort 10 = .ok (.iload_n 1, 1) := by decide +kernel
theorem dX9_isOfSort_11 : decode cX9_isOfSort 11 = .ok (.iconst 1, 1) := by decide +kernel
theorem dX9_isOfSort_12 : decode cX9_isOfSort 12 = .ok (.if_icmp .ne 10, 3) := by decide +kernel
theorem dX9_isOfSort_15 : decode cX9_isOfSort 15 = .ok (.aload_n 0, 1) := by decide +kernel
theorem dX9_isOfSort_16 : decode cX9_isOfSort 16 = .ok (.instanceof 104, 3) := by decide +kernel
theorem dX9_isOfSort_19 : decode cX9_isOfSort 19 = .ok (.goto 7, 3) := by decide +kernel
theorem dX9_isOfSort_22 : decode cX9_isOfSort 22 = .ok (.aload_n 0, 1) := by decide +kernel
theorem dX9_isOfSort_23 : decode cX9_isOfSort 23 = .ok (.instanceof 130, 3) := by decide +kernel
theorem dX9_isOfSort_26 : decode cX9_isOfSort 26 = .ok (.ireturn, 1) := by decide +kernel
theorem dX9_alarm_0 : decode cX9_alarm 0 = .ok (.iload_n 1, 1) := by decide +kernel
theorem dX9_alarm_1 : decode cX9_alarm 1 = .ok (.iconst 4, 1) := by decide +kernel
theorem dX9_alarm_2 : decode cX9_alarm 2 = .ok (.invokestatic 59, 3) := by decide +kernel
theorem dX9_alarm_5 : decode cX9_alarm 5 = .ok (.ifCond .ne 10, 3) := by decide +kernel
theorem dX9_alarm_8 : decode cX9_alarm 8 = .ok (.aload_n 0, 1) := by decide +kernel
theorem dX9_alarm_9 : decode cX9_alarm 9 = .ok (.bipush (-2), 2) := by decide +kernel
theorem dX9_alarm_11 : decode cX9_alarm 11 = .ok (.invokevirtual 63, 3) := by decide +kernel
theorem dX9_alarm_14 : decode cX9_alarm 14 = .ok (.ireturn, 1) := by decide +kernel
theorem dX9_alarm_15 : decode cX9_alarm 15 = .ok (.aload_n 0, 1) := by decide +kernel
theorem dX9_alarm_16 : decode cX9_alarm 16 = .ok (.getfield 33, 3) := by decide +kernel
theorem dX9_alarm_19 : decode cX9_alarm 19 = .ok (.iload_n 1, 1) := by decide +kernel
theorem dX9_alarm_20 : decode cX9_alarm 20 = .ok (.baload, 1) := by decide +kernel
theorem dX9_alarm_21 : decode cX9_alarm 21 = .ok (.istore_n 3, 1) := by decide +kernel
theorem dX9_alarm_22 : decode cX9_alarm 22 = .ok (.aload_n 0, 1) := by decide +kernel
theorem dX9_alarm_23 : decode cX9_alarm 23 = .ok (.getfield 33, 3) := by decide +kernel
theorem dX9_alarm_26 : decode cX9_alarm 26 = .ok (.iload_n 1, 1) := by decide +kernel
theorem dX9_alarm_27 : decode cX9_alarm 27 = .ok (.iconst 1, 1) := by decide +kernel
theorem dX9_alarm_28 : decode cX9_alarm 28 = .ok (.bastore, 1) := by decide +kernel
theorem dX9_alarm_29 : decode cX9_alarm 29 = .ok (.aload_n 0, 1) := by decide +kernel
theorem dX9_alarm_30 : decode cX9_alarm 30 = .ok (.getfield 37, 3) := by decide +kernel
theorem dX9_alarm_33 : decode cX9_alarm 33 = .ok (.iload_n 1, 1) := by decide +kernel
theorem dX9_alarm_34 : decode cX9_alarm 34 = .ok (.iload_n 2, 1) := by decide +kernel
theorem dX9_alarm_35 : decode cX9_alarm 35 = .ok (.iastore, 1) := by decide +kernel
theorem dX9_alarm_36 : decode cX9_alarm 36 = .ok (.aload_n 0, 1) := by decide +kernel
theorem dX9_alarm_37 : decode cX9_alarm 37 = .ok (.iload_n 3, 1) := by decide +kernel
theorem dX9_alarm_38 : decode cX9_alarm 38 = .ok (.ifCond .eq 7, 3) := by decide +kernel
theorem dX9_alarm_41 : decode cX9_alarm 41 = .ok (.iconst 0, 1) := by decide +kernel
theorem dX9_alarm_42 : decode cX9_alarm 42 = .ok (.goto 4, 3) := by decide +kernel
theorem dX9_alarm_45 : decode cX9_alarm 45 = .ok (.iconst 1, 1) := by decide +kernel
theorem dX9_alarm_46 : decode cX9_alarm 46 = .ok (.invokevirtual 71, 3) := by decide +kernel
theorem dX9_alarm_49 : decode cX9_alarm 49 = .ok (.ireturn, 1) := by decide +kernel
theorem dX9_calm_0 : decode cX9_calm 0 = .ok (.iload_n 1, 1) := by decide +kernel
theorem dX9_calm_1 : decode cX9_calm 1 = .ok (.iconst 4, 1) := by decide +kernel
theorem dX9_calm_2 : decode cX9_calm 2 = .ok (.invokestatic 59, 3) := by decide +kernel
theorem dX9_calm_5 : decode cX9_calm 5 = .ok (.ifCond .ne 10, 3) := by decide +kernel
theorem dX9_calm_8 : decode cX9_calm 8 = .ok (.aload_n 0, 1) := by decide +kernel
theorem dX9_calm_9 : decode cX9_calm 9 = .ok (.bipush (-2), 2) := by decide +kernel
theorem dX9_calm_11 : decode cX9_calm 11 = .ok (.invokevirtual 63, 3) := by decide +kernel
theorem dX9_calm_14 : decode cX9_calm 14 = .ok (.ireturn, 1) := by decide +kernel
theorem dX9_calm_15 : decode cX9_calm 15 = .ok (.aload_n 0, 1) := by decide +kernel
theorem dX9_calm_16 : decode cX9_calm 16 = .ok (.getfield 33, 3) := by decide +kernel
theorem dX9_calm_19 : decode cX9_calm 19 = .ok (.iload_n 1, 1) := by decide +kernel
theorem dX9_calm_20 : decode cX9_calm 20 = .ok (.baload, 1) := by decide +kernel
theorem dX9_calm_21 : decode cX9_calm 21 = .ok (.istore_n 2, 1) := by decide +kernel
theorem dX9_calm_22 : decode cX9_calm 22 = .ok (.aload_n 0, 1) := by decide +kernel
theorem dX9_calm_23 : decode cX9_calm 23 = .ok (.getfield 33, 3) := by decide +kernel
theorem dX9_calm_26 : decode cX9_calm 26 = .ok (.iload_n 1, 1) := by decide +kernel
theorem dX9_calm_27 : decode cX9_calm 27 = .ok (.iconst 0, 1) := by decide +kernel
theorem dX9_calm_28 : decode cX9_calm 28 = .ok (.bastore, 1) := by decide +kernel
theorem dX9_calm_29 : decode cX9_calm 29 = .ok (.aload_n 0, 1) := by decide +kernel
theorem dX9_calm_30 : decode cX9_calm 30 = .ok (.iload_n 2, 1) := by decide +kernel
theorem dX9_calm_31 : decode cX9_calm 31 = .ok (.ifCond .eq 7, 3) := by decide +kernel
theorem dX9_calm_34 : decode cX9_calm 34 = .ok (.iconst 1, 1) := by decide +kernel
theorem dX9_calm_35 : decode cX9_calm 35 = .ok (.goto 4, 3) := by decide +kernel
theorem dX9_calm_38 : decode cX9_calm 38 = .ok (.iconst 0, 1) := by decide +kernel
theorem dX9_calm_39 : decode cX9_calm 39 = .ok (.invokevirtual 71, 3) := by decide +kernel
theorem dX9_calm_42 : decode cX9_calm 42 = .ok (.ireturn, 1) := by decide +kernel
theorem dX9_let_0 : decode cX9_let 0 = .ok (.iload_n 1, 1) := by decide +kernel
theorem dX9_let_1 : decode cX9_let 1 = .ok (.iconst 4, 1) := by decide +kernel
theorem dX9_let_2 : decode cX9_let 2 = .ok (.invokestatic 59, 3) := by decide +kernel
theorem dX9_let_5 : decode cX9_let 5 = .ok (.ifCond .ne 10, 3) := by decide +kernel
theorem dX9_let_8 : decode cX9_let 8 = .ok (.aload_n 0, 1) := by decide +kernel
theorem dX9_let_9 : decode cX9_let 9 = .ok (.bipush (-2), 2) := by decide +kernel
theorem dX9_let_11 : decode cX9_let 11 = .ok (.invokevirtual 63, 3) := by decide +kernel
theorem dX9_let_14 : decode cX9_let 14 = .ok (.ireturn, 1) := by decide +kernel
theorem dX9_let_15 : decode cX9_let 15 = .ok (.aload_n 0, 1) := by decide +kernel
theorem dX9_let_16 : decode cX9_let 16 = .ok (.getfield 33, 3) := by decide +kernel
theorem dX9_let_19 : decode cX9_let 19 = .ok (.iload_n 1, 1) := by decide +kernel
theorem dX9_let_20 : decode cX9_let 20 = .ok (.baload, 1) := by decide +kernel
theorem dX9_let_21 : decode cX9_let 21 = .ok (.ifCond .ne 9, 3) := by decide +kernel
theorem dX9_let_24 : decode cX9_let 24 = .ok (.aload_n 0, 1) := by decide +kernel
theorem dX9_let_25 : decode cX9_let 25 = .ok (.iconst 1, 1) := by decide +kernel
theorem dX9_let_26 : decode cX9_let 26 = .ok (.invokevirtual 78, 3) := by decide +kernel
theorem dX9_let_29 : decode cX9_let 29 = .ok (.ireturn, 1) := by decide +kernel
theorem dX9_let_30 : decode cX9_let 30 = .ok (.aload_n 0, 1) := by decide +kernel
theorem dX9_let_31 : decode cX9_let 31 = .ok (.bipush 6, 2) := by decide +kernel
theorem dX9_let_33 : decode cX9_let 33 = .ok (.invokevirtual 78, 3) := by decide +kernel
theorem dX9_let_36 : decode cX9_let 36 = .ok (.istore_n 2, 1) := by decide +kernel
theorem dX9_let_37 : decode cX9_let 37 = .ok (.aload_n 0, 1) := by decide +kernel
theorem dX9_let_38 : decode cX9_let 38 = .ok (.aload_n 0, 1) := by decide +kernel
theorem dX9_let_39 : decode cX9_let 39 = .ok (.getfield 37, 3) := by decide +kernel
theorem dX9_let_42 : decode cX9_let 42 = .ok (.iload_n 1, 1) := by decide +kernel
theorem dX9_let_43 : decode cX9_let 43 = .ok (.iaload, 1) := by decide +kernel
theorem dX9_let_44 : decode cX9_let 44 = .ok (.putfield 51, 3) := by decide +kernel
theorem dX9_let_47 : decode cX9_let 47 = .ok (.iload_n 2, 1) := by decide +kernel
theorem dX9_let_48 : decode cX9_let 48 = .ok (.ireturn, 1) := by decide +kernel
theorem dX9_why_0 : decode cX9_why 0 = .ok (.aload_n 0, 1) := by decide +kernel
theorem dX9_why_1 : decode cX9_why 1 = .ok (.getfield 51, 3) := by decide +kernel
theorem dX9_why_4 : decode cX9_why 4 = .ok (.ireturn, 1) := by decide +kernel
theorem dX9_count_0 : decode cX9_count 0 = .ok (.iload_n 1, 1) := by decide +kernel
theorem dX9_count_1 : decode cX9_count 1 = .ok (.ifCond .ne 8, 3) := by decide +kernel
theorem dX9_count_4 : decode cX9_count 4 = .ok (.aload_n 0, 1) := by decide +kernel
theorem dX9_count_5 : decode cX9_count 5 = .ok (.getfield 44, 3) := by decide +kernel
theorem dX9_count_8 : decode cX9_count 8 = .ok (.ireturn, 1) := by decide +kernel
theorem dX9_count_9 : decode cX9_count 9 = .ok (.iload_n 1, 1) := by decide +kernel
theorem dX9_count_10 : decode cX9_count 10 = .ok (.bipush 7, 2) := by decide +kernel
theorem dX9_count_12 : decode cX9_count 12 = .ok (.if_icmp .ne 8, 3) := by decide +kernel
theorem dX9_count_15 : decode cX9_count 15 = .ok (.aload_n 0, 1) := by decide +kernel
theorem dX9_count_16 : decode cX9_count 16 = .ok (.getfield 48, 3) := by decide +kernel
theorem dX9_count_19 : decode cX9_count 19 = .ok (.ireturn, 1) := by decide +kernel
theorem dX9_count_20 : decode cX9_count 20 = .ok (.iload_n 1, 1) := by decide +kernel
theorem dX9_count_21 : decode cX9_count 21 = .ok (.iconst 1, 1) := by decide +kernel
theorem dX9_count_22 : decode cX9_count 22 = .ok (.if_icmp .lt 18, 3) := by decide +kernel
theorem dX9_count_25 : decode cX9_count 25 = .ok (.iload_n 1, 1) := by decide +kernel
theorem dX9_count_26 : decode cX9_count 26 = .ok (.bipush 6, 2) := by decide +kernel
theorem dX9_count_28 : decode cX9_count 28 = .ok (.if_icmp .gt 12, 3) := by decide +kernel
theorem dX9_count_31 : decode cX9_count 31 = .ok (.aload_n 0, 1) := by decide +kernel
theorem dX9_count_32 : decode cX9_count 32 = .ok (.getfield 41, 3) := by decide +kernel
theorem dX9_count_35 : decode cX9_count 35 = .ok (.iload_n 1, 1) := by decide +kernel
theorem dX9_count_36 : decode cX9_count 36 = .ok (.iaload, 1) := by decide +kernel
theorem dX9_count_37 : decode cX9_count 37 = .ok (.goto 5, 3) := by decide +kernel
theorem dX9_count_40 : decode cX9_count 40 = .ok (.bipush (-3), 2) := by decide +kernel
theorem dX9_count_42 : decode cX9_count 42 = .ok (.ireturn, 1) := by decide +kernel
theorem dX9_done_0 : decode cX9_done 0 = .ok (.aload_n 0, 1) := by decide +kernel
theorem dX9_done_1 : decode cX9_done 1 = .ok (.iconst 0, 1) := by decide +kernel
theorem dX9_done_2 : decode cX9_done 2 = .ok (.putfield 51, 3) := by decide +kernel
theorem dX9_done_5 : decode cX9_done 5 = .ok (.iload_n 1, 1) := by decide +kernel
theorem dX9_done_6 : decode cX9_done 6 = .ok (.ireturn, 1) := by decide +kernel
theorem dX9_refuse_0 : decode cX9_refuse 0 = .ok (.aload_n 0, 1) := by decide +kernel
theorem dX9_refuse_1 : decode cX9_refuse 1 = .ok (.iload_n 1, 1) := by decide +kernel
theorem dX9_refuse_2 : decode cX9_refuse 2 = .ok (.putfield 51, 3) := by decide +kernel
theorem dX9_refuse_5 : decode cX9_refuse 5 = .ok (.iload_n 1, 1) := by decide +kernel
theorem dX9_refuse_6 : decode cX9_refuse 6 = .ok (.ireturn, 1) := by decide +kernel
theorem dX9_fail_0 : decode cX9_fail 0 = .ok (.aload_n 0, 1) := by decide +kernel
theorem dX9_fail_1 : decode cX9_fail 1 = .ok (.getfield 41, 3) := by decide +kernel
theorem dX9_fail_4 : decode cX9_fail 4 = .ok (.iload_n 1, 1) := by decide +kernel
theorem dX9_fail_5 : decode cX9_fail 5 = .ok (.dup2, 1) := by decide +kernel
theorem dX9_fail_6 : decode cX9_fail 6 = .ok (.iaload, 1) := by decide +kernel
theorem dX9_fail_7 : decode cX9_fail 7 = .ok (.iconst 1, 1) := by decide +kernel
theorem dX9_fail_8 : decode cX9_fail 8 = .ok (.iadd, 1) := by decide +kernel
theorem dX9_fail_9 : decode cX9_fail 9 = .ok (.iastore, 1) := by decide +kernel
theorem dX9_fail_10 : decode cX9_fail 10 = .ok (.aload_n 0, 1) := by decide +kernel
theorem dX9_fail_11 : decode cX9_fail 11 = .ok (.iload_n 1, 1) := by decide +kernel
theorem dX9_fail_12 : decode cX9_fail 12 = .ok (.putfield 44, 3) := by decide +kernel
theorem dX9_fail_15 : decode cX9_fail 15 = .ok (.aload_n 0, 1) := by decide +kernel
theorem dX9_fail_16 : decode cX9_fail 16 = .ok (.bipush (-10), 2) := by decide +kernel
theorem dX9_fail_18 : decode cX9_fail 18 = .ok (.iload_n 1, 1) := by decide +kernel
theorem dX9_fail_19 : decode cX9_fail 19 = .ok (.isub, 1) := by decide +kernel
theorem dX9_fail_20 : decode cX9_fail 20 = .ok (.invokevirtual 63, 3) := by decide +kernel
theorem dX9_fail_23 : decode cX9_fail 23 = .ok (.ireturn, 1) := by decide +kernel
theorem dX9_refuseWithZero_0 : decode cX9_refuseWithZero 0 = .ok (.aload_n 0, 1) := by decide +kernel
theorem dX9_refuseWithZero_1 : decode cX9_refuseWithZero 1 = .ok (.iload_n 1, 1) := by decide +kernel
theorem dX9_refuseWithZero_2 : decode cX9_refuseWithZero 2 = .ok (.invokevirtual 63, 3) := by decide +kernel
theorem dX9_refuseWithZero_5 : decode cX9_refuseWithZero 5 = .ok (.pop, 1) := by decide +kernel
theorem dX9_refuseWithZero_6 : decode cX9_refuseWithZero 6 = .ok (.iconst 0, 1) := by decide +kernel
theorem dX9_refuseWithZero_7 : decode cX9_refuseWithZero 7 = .ok (.ireturn, 1) := by decide +kernel
theorem dX9_failWithZero_0 : decode cX9_failWithZero 0 = .ok (.aload_n 0, 1) := by decide +kernel
theorem dX9_failWithZero_1 : decode cX9_failWithZero 1 = .ok (.iload_n 1, 1) := by decide +kernel
theorem dX9_failWithZero_2 : decode cX9_failWithZero 2 = .ok (.invokevirtual 78, 3) := by decide +kernel
theorem dX9_failWithZero_5 : decode cX9_failWithZero 5 = .ok (.pop, 1) := by decide +kernel
theorem dX9_failWithZero_6 : decode cX9_failWithZero 6 = .ok (.iconst 0, 1) := by decide +kernel
theorem dX9_failWithZero_7 : decode cX9_failWithZero 7 = .ok (.ireturn, 1) := by decide +kernel
theorem dX9_isWithin_0 : decode cX9_isWithin 0 = .ok (.iload_n 0, 1) := by decide +kernel
theorem dX9_isWithin_1 : decode cX9_isWithin 1 = .ok (.ifCond .lt 12, 3) := by decide +kernel
theorem dX9_isWithin_4 : decode cX9_isWithin 4 = .ok (.iload_n 0, 1) := by decide +kernel
theorem dX9_isWithin_5 : decode cX9_isWithin 5 = .ok (.iload_n 1, 1) := by decide +kernel
theorem dX9_isWithin_6 : decode cX9_isWithin 6 = .ok (.if_icmp .ge 7, 3) := by decide +kernel
theorem dX9_isWithin_9 : decode cX9_isWithin 9 = .ok (.iconst 1, 1) := by decide +kernel
theorem dX9_isWithin_10 : decode cX9_isWithin 10 = .ok (.goto 4, 3) := by decide +kernel
theorem dX9_isWithin_13 : decode cX9_isWithin 13 = .ok (.iconst 0, 1) := by decide +kernel
theorem dX9_isWithin_14 : decode cX9_isWithin 14 = .ok (.ireturn, 1) := by decide +kernel
end
section
theorem dX10_init_0 : decode cX10_init 0 = .ok (.aload_n 0, 1) := by decide +kernel
theorem dX10_init_1 : decode cX10_init 1 = .ok (.invokespecial 1, 3) := by decide +kernel
theorem dX10_init_4 : decode cX10_init 4 = .ok (.aload_n 0, 1) := by decide +kernel
theorem dX10_init_5 : decode cX10_init 5 = .ok (.bipush 10, 2) := by decide +kernel
theorem dX10_init_7 : decode cX10_init 7 = .ok (.newarray .int, 2) := by decide +kernel
theorem dX10_init_9 : decode cX10_init 9 = .ok (.putfield 7, 3) := by decide +kernel
theorem dX10_init_12 : decode cX10_init 12 = .ok (.aload_n 0, 1) := by decide +kernel
theorem dX10_init_13 : decode cX10_init 13 = .ok (.sipush 600, 3) := by decide +kernel
theorem dX10_init_16 : decode cX10_init 16 = .ok (.newarray .int, 2) := by decide +kernel
theorem dX10_init_18 : decode cX10_init 18 = .ok (.putfield 13, 3) := by decide +kernel
theorem dX10_init_21 : decode cX10_init 21 = .ok (.aload_n 0, 1) := by decide +kernel
theorem dX10_init_22 : decode cX10_init 22 = .ok (.sipush 600, 3) := by decide +kernel
theorem dX10_init_25 : decode cX10_init 25 = .ok (.newarray .int, 2) := by decide +kernel
theorem dX10_init_27 : decode cX10_init 27 = .ok (.putfield 16, 3) := by decide +kernel
theorem dX10_init_30 : decode cX10_init 30 = .ok (.aload_n 0, 1) := by decide +kernel
theorem dX10_init_31 : decode cX10_init 31 = .ok (.sipush 600, 3) := by decide +kernel
theorem dX10_init_34 : decode cX10_init 34 = .ok (.newarray .int, 2) := by decide +kernel
theorem dX10_init_36 : decode cX10_init 36 = .ok (.putfield 19, 3) := by decide +kernel
theorem dX10_init_39 : decode cX10_init 39 = .ok (.aload_n 0, 1) := by decide +kernel
theorem dX10_init_40 : decode cX10_init 40 = .ok (.sipush 600, 3) := by decide +kernel
theorem dX10_init_43 : decode cX10_init 43 = .ok (.newarray .boolean, 2) := by decide +kernel
theorem dX10_init_45 : decode cX10_init 45 = .ok (.putfield 22, 3) := by decide +kernel
theorem dX10_init_48 : decode cX10_init 48 = .ok (.aload_n 0, 1) := by decide +kernel
theorem dX10_init_49 : decode cX10_init 49 = .ok (.sipush 600, 3) := by decide +kernel
theorem dX10_init_52 : decode cX10_init 52 = .ok (.newarray .int, 2) := by decide +kernel
theorem dX10_init_54 : decode cX10_init 54 = .ok (.putfield 26, 3) := by decide +kernel
theorem dX10_init_57 : decode cX10_init 57 = .ok (.aload_n 0, 1) := by decide +kernel
theorem dX10_init_58 : decode cX10_init 58 = .ok (.iconst 4, 1) := by decide +kernel
theorem dX10_init_59 : decode cX10_init 59 = .ok (.newarray .int, 2) := by decide +kernel
theorem dX10_init_61 : decode cX10_init 61 = .ok (.putfield 29, 3) := by decide +kernel
theorem dX10_init_64 : decode cX10_init 64 = .ok (.aload_n 0, 1) := by decide +kernel
theorem dX10_init_65 : decode cX10_init 65 = .ok (.bipush 80, 2) := by decide +kernel
theorem dX10_init_67 : decode cX10_init 67 = .ok (.newarray .int, 2) := by decide +kernel
theorem dX10_init_69 : decode cX10_init 69 = .ok (.putfield 32, 3) := by decide +kernel
theorem dX10_init_72 : decode cX10_init 72 = .ok (.aload_n 0, 1) := by decide +kernel
theorem dX10_init_73 : decode cX10_init 73 = .ok (.iconst 4, 1) := by decide +kernel
theorem dX10_init_74 : decode cX10_init 74 = .ok (.newarray .int, 2) := by decide +kernel
theorem dX10_init_76 : decode cX10_init 76 = .ok (.putfield 35, 3) := by decide +kernel
theorem dX10_init_79 : decode cX10_init 79 = .ok (.aload_n 0, 1) := by decide +kernel
theorem dX10_init_80 : decode cX10_init 80 = .ok (.iconst 4, 1) := by decide +kernel
theorem dX10_init_81 : decode cX10_init 81 = .ok (.newarray .int, 2) := by decide +kernel
theorem dX10_init_83 : decode cX10_init 83 = .ok (.putfield 38, 3) := by decide +kernel
theorem dX10_init_86 : decode cX10_init 86 = .ok (.aload_n 0, 1) := by decide +kernel
theorem dX10_init_87 : decode cX10_init 87 = .ok (.bipush 40, 2) := by decide +kernel
theorem dX10_init_89 : decode cX10_init 89 = .ok (.newarray .int, 2) := by decide +kernel
theorem dX10_init_91 : decode cX10_init 91 = .ok (.putfield 41, 3) := by decide +kernel
theorem dX10_init_94 : decode cX10_init 94 = .ok (.aload_n 0, 1) := by decide +kernel
theorem dX10_init_95 : decode cX10_init 95 = .ok (.iconst 2, 1) := by decide +kernel
theorem dX10_init_96 : decode cX10_init 96 = .ok (.newarray .int, 2) := by decide +kernel
theorem dX10_init_98 : decode cX10_init 98 = .ok (.putfield 44, 3) := by decide +kernel
theorem dX10_init_101 : decode cX10_init 101 = .ok (.aload_n 0, 1) := by decide +kernel
theorem dX10_init_102 : decode cX10_init 102 = .ok (.bipush 16, 2) := by decide +kernel
theorem dX10_init_104 : decode cX10_init 104 = .ok (.newarray .int, 2) := by decide +kernel
theorem dX10_init_106 : decode cX10_init 106 = .ok (.putfield 47, 3) := by decide +kernel
theorem dX10_init_109 : decode cX10_init 109 = .ok (.aload_n 0, 1) := by decide +kernel
theorem dX10_init_110 : decode cX10_init 110 = .ok (.sipush 128, 3) := by decide +kernel
theorem dX10_init_113 : decode cX10_init 113 = .ok (.newarray .int, 2) := by decide +kernel
theorem dX10_init_115 : decode cX10_init 115 = .ok (.putfield 50, 3) := by decide +kernel
theorem dX10_init_118 : decode cX10_init 118 = .ok (.aload_n 0, 1) := by decide +kernel
theorem dX10_init_119 : decode cX10_init 119 = .ok (.iconst 4, 1) := by decide +kernel
theorem dX10_init_120 : decode cX10_init 120 = .ok (.newarray .boolean, 2) := by decide +kernel
theorem dX10_init_122 : decode cX10_init 122 = .ok (.putfield 53, 3) := by decide +kernel
theorem dX10_init_125 : decode cX10_init 125 = .ok (.aload_n 0, 1) := by decide +kernel
theorem dX10_init_126 : decode cX10_init 126 = .ok (.iconst 4, 1) := by decide +kernel
theorem dX10_init_127 : decode cX10_init 127 = .ok (.newarray .int, 2) := by decide +kernel
theorem dX10_init_129 : decode cX10_init 129 = .ok (.putfield 56, 3) := by decide +kernel
theorem dX10_init_132 : decode cX10_init 132 = .ok (.aload_n 0, 1) := by decide +kernel
theorem dX10_init_133 : decode cX10_init 133 = .ok (.bipush 7, 2) := by decide +kernel
theorem dX10_init_135 : decode cX10_init 135 = .ok (.newarray .int, 2) := by decide +kernel
theorem dX10_init_137 : decode cX10_init 137 = .ok (.putfield 59, 3) := by decide +kernel
theorem dX10_init_140 : decode cX10_init 140 = .ok (.iconst 0, 1) := by decide +kernel
theorem dX10_init_141 : decode cX10_init 141 = .ok (.istore_n 1, 1) := by decide +kernel
theorem dX10_init_142 : decode cX10_init 142 = .ok (.iload_n 1, 1) := by decide +kernel
theorem dX10_init_143 : decode cX10_init 143 = .ok (.bipush 10, 2) := by decide +kernel
theorem dX10_init_145 : decode cX10_init 145 = .ok (.if_icmp .ge 16, 3) := by decide +kernel
theorem dX10_init_148 : decode cX10_init 148 = .ok (.aload_n 0, 1) := by decide +kernel
theorem dX10_init_149 : decode cX10_init 149 = .ok (.getfield 7, 3) := by decide +kernel
theorem dX10_init_152 : decode cX10_init 152 = .ok (.iload_n 1, 1) := by decide +kernel
theorem dX10_init_153 : decode cX10_init 153 = .ok (.iconst (-1), 1) := by decide +kernel
theorem dX10_init_154 : decode cX10_init 154 = .ok (.iastore, 1) := by decide +kernel
theorem dX10_init_155 : decode cX10_init 155 = .ok (.iinc 1 1, 3) := by decide +kernel
theorem dX10_init_158 : decode cX10_init 158 = .ok (.goto (-16), 3) := by decide +kernel
theorem dX10_init_161 : decode cX10_init 161 = .ok (.iconst 0, 1) := by decide +kernel
theorem dX10_init_162 : decode cX10_init 162 = .ok (.istore_n 1, 1) := by decide +kernel
theorem dX10_init_163 : decode cX10_init 163 = .ok (.iload_n 1, 1) := by decide +kernel
theorem dX10_init_164 : decode cX10_init 164 = .ok (.iconst 4, 1) := by decide +kernel
theorem dX10_init_165 : decode cX10_init 165 = .ok (.if_icmp .ge 23, 3) := by decide +kernel
theorem dX10_init_168 : decode cX10_init 168 = .ok (.aload_n 0, 1) := by decide +kernel
theorem dX10_init_169 : decode cX10_init 169 = .ok (.getfield 29, 3) := by decide +kernel
theorem dX10_init_172 : decode cX10_init 172 = .ok (.iload_n 1, 1) := by decide +kernel
theorem dX10_init_173 : decode cX10_init 173 = .ok (.iconst (-1), 1) := by decide +kernel
theorem dX10_init_174 : decode cX10_init 174 = .ok (.iastore, 1) := by decide +kernel
theorem dX10_init_175 : decode cX10_init 175 = .ok (.aload_n 0, 1) := by decide +kernel
theorem dX10_init_176 : decode cX10_init 176 = .ok (.getfield 35, 3) := by decide +kernel
theorem dX10_init_179 : decode cX10_init 179 = .ok (.iload_n 1, 1) := by decide +kernel
theorem dX10_init_180 : decode cX10_init 180 = .ok (.iconst (-1), 1) := by decide +kernel
theorem dX10_init_181 : decode cX10_init 181 = .ok (.iastore, 1) := by decide +kernel
theorem dX10_init_182 : decode cX10_init 182 = .ok (.iinc 1 1, 3) := by decide +kernel
theorem dX10_init_185 : decode cX10_init 185 = .ok (.goto (-22), 3) := by decide +kernel
theorem dX10_init_188 : decode cX10_init 188 = .ok (.aload_n 0, 1) := by decide +kernel
theorem dX10_init_189 : decode cX10_init 189 = .ok (.getfield 44, 3) := by decide +kernel
theorem dX10_init_192 : decode cX10_init 192 = .ok (.iconst 0, 1) := by decide +kernel
theorem dX10_init_193 : decode cX10_init 193 = .ok (.iconst (-1), 1) := by decide +kernel
theorem dX10_init_194 : decode cX10_init 194 = .ok (.iastore, 1) := by decide +kernel
theorem dX10_init_195 : decode cX10_init 195 = .ok (.aload_n 0, 1) := by decide +kernel
theorem dX10_init_196 : decode cX10_init 196 = .ok (.getfield 44, 3) := by decide +kernel
theorem dX10_init_199 : decode cX10_init 199 = .ok (.iconst 1, 1) := by decide +kernel
theorem dX10_init_200 : decode cX10_init 200 = .ok (.iconst (-1), 1) := by decide +kernel
theorem dX10_init_201 : decode cX10_init 201 = .ok (.iastore, 1) := by decide +kernel
theorem dX10_init_202 : decode cX10_init 202 = .ok (.return_, 1) := by decide +kernel
theorem dX10_in_0 : decode cX10_in 0 = .ok (.iload_n 0, 1) := by decide +kernel
theorem dX10_in_1 : decode cX10_in 1 = .ok (.iload_n 1, 1) := by decide +kernel
theorem dX10_in_2 : decode cX10_in 2 = .ok (.if_icmp .lt 12, 3) := by decide +kernel
theorem dX10_in_5 : decode cX10_in 5 = .ok (.iload_n 0, 1) := by decide +kernel
theorem dX10_in_6 : decode cX10_in 6 = .ok (.iload_n 2, 1) := by decide +kernel
theorem dX10_in_7 : decode cX10_in 7 = .ok (.if_icmp .gt 7, 3) := by decide +kernel
theorem dX10_in_10 : decode cX10_in 10 = .ok (.iconst 1, 1) := by decide +kernel
theorem dX10_in_11 : decode cX10_in 11 = .ok (.goto 4, 3) := by decide +kernel
theorem dX10_in_14 : decode cX10_in 14 = .ok (.iconst 0, 1) := by decide +kernel
theorem dX10_in_15 : decode cX10_in 15 = .ok (.ireturn, 1) := by decide +kernel
theorem dX10_says_0 : decode cX10_says 0 = .ok (.aload_n 0, 1) := by decide +kernel
theorem dX10_says_1 : decode cX10_says 1 = .ok (.iconst 0, 1) := by decide +kernel
theorem dX10_says_2 : decode cX10_says 2 = .ok (.putfield 62, 3) := by decide +kernel
theorem dX10_says_5 : decode cX10_says 5 = .ok (.iload_n 1, 1) := by decide +kernel
theorem dX10_says_6 : decode cX10_says 6 = .ok (.ireturn, 1) := by decide +kernel
theorem dX10_refuses_0 : decode cX10_refuses 0 = .ok (.aload_n 0, 1) := by decide +kernel
theorem dX10_refuses_1 : decode cX10_refuses 1 = .ok (.iload_n 1, 1) := by decide +kernel
theorem dX10_refuses_2 : decode cX10_refuses 2 = .ok (.putfield 62, 3) := by decide +kernel
theorem dX10_refuses_5 : decode cX10_refuses 5 = .ok (.iload_n 1, 1) := by decide +kernel
theorem dX10_refuses_6 : decode cX10_refuses 6 = .ok (.ireturn, 1) := by decide +kernel
theorem dX10_fails_0 : decode cX10_fails 0 = .ok (.aload_n 0, 1) := by decide +kernel
theorem dX10_fails_1 : decode cX10_fails 1 = .ok (.iload_n 1, 1) := by decide +kernel
theorem dX10_fails_2 : decode cX10_fails 2 = .ok (.putfield 66, 3) := by decide +kernel
theorem dX10_fails_5 : decode cX10_fails 5 = .ok (.aload_n 0, 1) := by decide +kernel
theorem dX10_fails_6 : decode cX10_fails 6 = .ok (.getfield 59, 3) := by decide +kernel
theorem dX10_fails_9 : decode cX10_fails 9 = .ok (.iload_n 1, 1) := by decide +kernel
theorem dX10_fails_10 : decode cX10_fails 10 = .ok (.dup2, 1) := by decide +kernel
theorem dX10_fails_11 : decode cX10_fails 11 = .ok (.iaload, 1) := by decide +kernel
theorem dX10_fails_12 : decode cX10_fails 12 = .ok (.iconst 1, 1) := by decide +kernel
theorem dX10_fails_13 : decode cX10_fails 13 = .ok (.iadd, 1) := by decide +kernel
theorem dX10_fails_14 : decode cX10_fails 14 = .ok (.iastore, 1) := by decide +kernel
theorem dX10_fails_15 : decode cX10_fails 15 = .ok (.aload_n 0, 1) := by decide +kernel
theorem dX10_fails_16 : decode cX10_fails 16 = .ok (.bipush (-10), 2) := by decide +kernel
theorem dX10_fails_18 : decode cX10_fails 18 = .ok (.iload_n 1, 1) := by decide +kernel
theorem dX10_fails_19 : decode cX10_fails 19 = .ok (.isub, 1) := by decide +kernel
theorem dX10_fails_20 : decode cX10_fails 20 = .ok (.putfield 62, 3) := by decide +kernel
theorem dX10_fails_23 : decode cX10_fails 23 = .ok (.aload_n 0, 1) := by decide +kernel
theorem dX10_fails_24 : decode cX10_fails 24 = .ok (.getfield 62, 3) := by decide +kernel
theorem dX10_fails_27 : decode cX10_fails 27 = .ok (.ireturn, 1) := by decide +kernel
theorem dX10_tool_0 : decode cX10_tool 0 = .ok (.iload_n 1, 1) := by decide +kernel
theorem dX10_tool_1 : decode cX10_tool 1 = .ok (.iconst 0, 1) := by decide +kernel
theorem dX10_tool_2 : decode cX10_tool 2 = .ok (.bipush 9, 2) := by decide +kernel
theorem dX10_tool_4 : decode cX10_tool 4 = .ok (.invokestatic 69, 3) := by decide +kernel
theorem dX10_tool_7 : decode cX10_tool 7 = .ok (.ifCond .ne 10, 3) := by decide +kernel
theorem dX10_tool_10 : decode cX10_tool 10 = .ok (.aload_n 0, 1) := by decide +kernel
theorem dX10_tool_11 : decode cX10_tool 11 = .ok (.bipush (-2), 2) := by decide +kernel
theorem dX10_tool_13 : decode cX10_tool 13 = .ok (.invokevirtual 73, 3) := by decide +kernel
theorem dX10_tool_16 : decode cX10_tool 16 = .ok (.ireturn, 1) := by decide +kernel
theorem dX10_tool_17 : decode cX10_tool 17 = .ok (.iload_n 2, 1) := by decide +kernel
theorem dX10_tool_18 : decode cX10_tool 18 = .ok (.iconst 0, 1) := by decide +kernel
theorem dX10_tool_19 : decode cX10_tool 19 = .ok (.iconst 3, 1) := by decide +kernel
theorem dX10_tool_20 : decode cX10_tool 20 = .ok (.invokestatic 69, 3) := by decide +kernel
theorem dX10_tool_23 : decode cX10_tool 23 = .ok (.ifCond .ne 10, 3) := by decide +kernel
theorem dX10_tool_26 : decode cX10_tool 26 = .ok (.aload_n 0, 1) := by decide +kernel
theorem dX10_tool_27 : decode cX10_tool 27 = .ok (.bipush (-3), 2) := by decide +kernel
theorem dX10_tool_29 : decode cX10_tool 29 = .ok (.invokevirtual 73, 3) := by decide +kernel
theorem dX10_tool_32 : decode cX10_tool 32 = .ok (.ireturn, 1) := by decide +kernel
theorem dX10_tool_33 : decode cX10_tool 33 = .ok (.aload_n 0, 1) := by decide +kernel
theorem dX10_tool_34 : decode cX10_tool 34 = .ok (.getfield 7, 3) := by decide +kernel
theorem dX10_tool_37 : decode cX10_tool 37 = .ok (.iload_n 1, 1) := by decide +kernel
theorem dX10_tool_38 : decode cX10_tool 38 = .ok (.iaload, 1) := by decide +kernel
theorem dX10_tool_39 : decode cX10_tool 39 = .ok (.iconst (-1), 1) := by decide +kernel
theorem dX10_tool_40 : decode cX10_tool 40 = .ok (.if_icmp .ne 7, 3) := by decide +kernel
theorem dX10_tool_43 : decode cX10_tool 43 = .ok (.iconst 0, 1) := by decide +kernel
theorem dX10_tool_44 : decode cX10_tool 44 = .ok (.goto 4, 3) := by decide +kernel
theorem dX10_tool_47 : decode cX10_tool 47 = .ok (.iconst 1, 1) := by decide +kernel
theorem dX10_tool_48 : decode cX10_tool 48 = .ok (.istore_n 3, 1) := by decide +kernel
theorem dX10_tool_49 : decode cX10_tool 49 = .ok (.aload_n 0, 1) := by decide +kernel
theorem dX10_tool_50 : decode cX10_tool 50 = .ok (.getfield 13, 3) := by decide +kernel
theorem dX10_tool_53 : decode cX10_tool 53 = .ok (.aload_n 0, 1) := by decide +kernel
theorem dX10_tool_54 : decode cX10_tool 54 = .ok (.getfield 77, 3) := by decide +kernel
theorem dX10_tool_57 : decode cX10_tool 57 = .ok (.iload_n 2, 1) := by decide +kernel
theorem dX10_tool_58 : decode cX10_tool 58 = .ok (.iastore, 1) := by decide +kernel
theorem dX10_tool_59 : decode cX10_tool 59 = .ok (.aload_n 0, 1) := by decide +kernel
theorem dX10_tool_60 : decode cX10_tool 60 = .ok (.getfield 16, 3) := by decide +kernel
theorem dX10_tool_63 : decode cX10_tool 63 = .ok (.aload_n 0, 1) := by decide +kernel
theorem dX10_tool_64 : decode cX10_tool 64 = .ok (.getfield 77, 3) := by decide +kernel
theorem dX10_tool_67 : decode cX10_tool 67 = .ok (.iconst 0, 1) := by decide +kernel
theorem dX10_tool_68 : decode cX10_tool 68 = .ok (.iastore, 1) := by decide +kernel
theorem dX10_tool_69 : decode cX10_tool 69 = .ok (.aload_n 0, 1) := by decide +kernel
theorem dX10_tool_70 : decode cX10_tool 70 = .ok (.getfield 19, 3) := by decide +kernel
theorem dX10_tool_73 : decode cX10_tool 73 = .ok (.aload_n 0, 1) := by decide +kernel
theorem dX10_tool_74 : decode cX10_tool 74 = .ok (.getfield 77, 3) := by decide +kernel
theorem dX10_tool_77 : decode cX10_tool 77 = .ok (.bipush 100, 2) := by decide +kernel
theorem dX10_tool_79 : decode cX10_tool 79 = .ok (.iastore, 1) := by decide +kernel
theorem dX10_tool_80 : decode cX10_tool 80 = .ok (.aload_n 0, 1) := by decide +kernel
theorem dX10_tool_81 : decode cX10_tool 81 = .ok (.getfield 22, 3) := by decide +kernel
theorem dX10_tool_84 : decode cX10_tool 84 = .ok (.aload_n 0, 1) := by decide +kernel
theorem dX10_tool_85 : decode cX10_tool 85 = .ok (.getfield 77, 3) := by decide +kernel
theorem dX10_tool_88 : decode cX10_tool 88 = .ok (.iconst 0, 1) := by decide +kernel
theorem dX10_tool_89 : decode cX10_tool 89 = .ok (.bastore, 1) := by decide +kernel
theorem dX10_tool_90 : decode cX10_tool 90 = .ok (.aload_n 0, 1) := by decide +kernel
theorem dX10_tool_91 : decode cX10_tool 91 = .ok (.getfield 7, 3) := by decide +kernel
theorem dX10_tool_94 : decode cX10_tool 94 = .ok (.iload_n 1, 1) := by decide +kernel
theorem dX10_tool_95 : decode cX10_tool 95 = .ok (.aload_n 0, 1) := by decide +kernel
theorem dX10_tool_96 : decode cX10_tool 96 = .ok (.getfield 77, 3) := by decide +kernel
theorem dX10_tool_99 : decode cX10_tool 99 = .ok (.iastore, 1) := by decide +kernel
theorem dX10_tool_100 : decode cX10_tool 100 = .ok (.aload_n 0, 1) := by decide +kernel
theorem dX10_tool_101 : decode cX10_tool 101 = .ok (.dup, 1) := by decide +kernel
theorem dX10_tool_102 : decode cX10_tool 102 = .ok (.getfield 77, 3) := by decide +kernel
theorem dX10_tool_105 : decode cX10_tool 105 = .ok (.iconst 1, 1) := by decide +kernel
theorem dX10_tool_106 : decode cX10_tool 106 = .ok (.iadd, 1) := by decide +kernel
theorem dX10_tool_107 : decode cX10_tool 107 = .ok (.putfield 77, 3) := by decide +kernel
theorem dX10_tool_110 : decode cX10_tool 110 = .ok (.aload_n 0, 1) := by decide +kernel
theorem dX10_tool_111 : decode cX10_tool 111 = .ok (.iload_n 3, 1) := by decide +kernel
theorem dX10_tool_112 : decode cX10_tool 112 = .ok (.invokevirtual 80, 3) := by decide +kernel
theorem dX10_tool_115 : decode cX10_tool 115 = .ok (.ireturn, 1) := by decide +kernel
theorem dX10_hang_0 : decode cX10_hang 0 = .ok (.iload_n 1, 1) := by decide +kernel
theorem dX10_hang_1 : decode cX10_hang 1 = .ok (.iconst 0, 1) := by decide +kernel
theorem dX10_hang_2 : decode cX10_hang 2 = .ok (.bipush 9, 2) := by decide +kernel
theorem dX10_hang_4 : decode cX10_hang 4 = .ok (.invokestatic 69, 3) := by decide +kernel
theorem dX10_hang_7 : decode cX10_hang 7 = .ok (.ifCond .eq 13, 3) := by decide +kernel
theorem dX10_hang_10 : decode cX10_hang 10 = .ok (.iload_n 2, 1) := by decide +kernel
theorem dX10_hang_11 : decode cX10_hang 11 = .ok (.iconst 0, 1) := by decide +kernel
theorem dX10_hang_12 : decode cX10_hang 12 = .ok (.bipush 9, 2) := by decide +kernel
theorem dX10_hang_14 : decode cX10_hang 14 = .ok (.invokestatic 69, 3) := by decide +kernel
theorem dX10_hang_17 : decode cX10_hang 17 = .ok (.ifCond .ne 10, 3) := by decide +kernel
theorem dX10_hang_20 : decode cX10_hang 20 = .ok (.aload_n 0, 1) := by decide +kernel
theorem dX10_hang_21 : decode cX10_hang 21 = .ok (.bipush (-2), 2) := by decide +kernel
theorem dX10_hang_23 : decode cX10_hang 23 = .ok (.invokevirtual 73, 3) := by decide +kernel
theorem dX10_hang_26 : decode cX10_hang 26 = .ok (.ireturn, 1) := by decide +kernel
theorem dX10_hang_27 : decode cX10_hang 27 = .ok (.aload_n 0, 1) := by decide +kernel
theorem dX10_hang_28 : decode cX10_hang 28 = .ok (.getfield 7, 3) := by decide +kernel
theorem dX10_hang_31 : decode cX10_hang 31 = .ok (.iload_n 1, 1) := by decide +kernel
theorem dX10_hang_32 : decode cX10_hang 32 = .ok (.aload_n 0, 1) := by decide +kernel
theorem dX10_hang_33 : decode cX10_hang 33 = .ok (.getfield 7, 3) := by decide +kernel
theorem dX10_hang_36 : decode cX10_hang 36 = .ok (.iload_n 2, 1) := by decide +kernel
theorem dX10_hang_37 : decode cX10_hang 37 = .ok (.iaload, 1) := by decide +kernel
theorem dX10_hang_38 : decode cX10_hang 38 = .ok (.iastore, 1) := by decide +kernel
theorem dX10_hang_39 : decode cX10_hang 39 = .ok (.aload_n 0, 1) := by decide +kernel
theorem dX10_hang_40 : decode cX10_hang 40 = .ok (.aload_n 0, 1) := by decide +kernel
theorem dX10_hang_41 : decode cX10_hang 41 = .ok (.getfield 7, 3) := by decide +kernel
theorem dX10_hang_44 : decode cX10_hang 44 = .ok (.iload_n 1, 1) := by decide +kernel
theorem dX10_hang_45 : decode cX10_hang 45 = .ok (.iaload, 1) := by decide +kernel
theorem dX10_hang_46 : decode cX10_hang 46 = .ok (.iconst (-1), 1) := by decide +kernel
theorem dX10_hang_47 : decode cX10_hang 47 = .ok (.if_icmp .ne 7, 3) := by decide +kernel
theorem dX10_hang_50 : decode cX10_hang 50 = .ok (.iconst 0, 1) := by decide +kernel
theorem dX10_hang_51 : decode cX10_hang 51 = .ok (.goto 4, 3) := by decide +kernel
theorem dX10_hang_54 : decode cX10_hang 54 = .ok (.iconst 1, 1) := by decide +kernel
theorem dX10_hang_55 : decode cX10_hang 55 = .ok (.invokevirtual 80, 3) := by decide +kernel
theorem dX10_hang_58 : decode cX10_hang 58 = .ok (.ireturn, 1) := by decide +kernel
theorem dX10_unhang_0 : decode cX10_unhang 0 = .ok (.iload_n 1, 1) := by decide +kernel
theorem dX10_unhang_1 : decode cX10_unhang 1 = .ok (.iconst 0, 1) := by decide +kernel
theorem dX10_unhang_2 : decode cX10_unhang 2 = .ok (.bipush 9, 2) := by decide +kernel
theorem dX10_unhang_4 : decode cX10_unhang 4 = .ok (.invokestatic 69, 3) := by decide +kernel
theorem dX10_unhang_7 : decode cX10_unhang 7 = .ok (.ifCond .ne 10, 3) := by decide +kernel
theorem dX10_unhang_10 : decode cX10_unhang 10 = .ok (.aload_n 0, 1) := by decide +kernel
theorem dX10_unhang_11 : decode cX10_unhang 11 = .ok (.bipush (-2), 2) := by decide +kernel
theorem dX10_unhang_13 : decode cX10_unhang 13 = .ok (.invokevirtual 73, 3) := by decide +kernel
theorem dX10_unhang_16 : decode cX10_unhang 16 = .ok (.ireturn, 1) := by decide +kernel
theorem dX10_unhang_17 : decode cX10_unhang 17 = .ok (.aload_n 0, 1) := by decide +kernel
theorem dX10_unhang_18 : decode cX10_unhang 18 = .ok (.getfield 7, 3) := by decide +kernel
theorem dX10_unhang_21 : decode cX10_unhang 21 = .ok (.iload_n 1, 1) := by decide +kernel
theorem dX10_unhang_22 : decode cX10_unhang 22 = .ok (.iaload, 1) := by decide +kernel
theorem dX10_unhang_23 : decode cX10_unhang 23 = .ok (.iconst (-1), 1) := by decide +kernel
theorem dX10_unhang_24 : decode cX10_unhang 24 = .ok (.if_icmp .ne 7, 3) := by decide +kernel
theorem dX10_unhang_27 : decode cX10_unhang 27 = .ok (.iconst 0, 1) := by decide +kernel
theorem dX10_unhang_28 : decode cX10_unhang 28 = .ok (.goto 4, 3) := by decide +kernel
theorem dX10_unhang_31 : decode cX10_unhang 31 = .ok (.iconst 1, 1) := by decide +kernel
theorem dX10_unhang_32 : decode cX10_unhang 32 = .ok (.istore_n 2, 1) := by decide +kernel
theorem dX10_unhang_33 : decode cX10_unhang 33 = .ok (.aload_n 0, 1) := by decide +kernel
theorem dX10_unhang_34 : decode cX10_unhang 34 = .ok (.getfield 7, 3) := by decide +kernel
theorem dX10_unhang_37 : decode cX10_unhang 37 = .ok (.iload_n 1, 1) := by decide +kernel
theorem dX10_unhang_38 : decode cX10_unhang 38 = .ok (.iconst (-1), 1) := by decide +kernel
theorem dX10_unhang_39 : decode cX10_unhang 39 = .ok (.iastore, 1) := by decide +kernel
theorem dX10_unhang_40 : decode cX10_unhang 40 = .ok (.aload_n 0, 1) := by decide +kernel
theorem dX10_unhang_41 : decode cX10_unhang 41 = .ok (.iload_n 2, 1) := by decide +kernel
theorem dX10_unhang_42 : decode cX10_unhang 42 = .ok (.invokevirtual 80, 3) := by decide +kernel
theorem dX10_unhang_45 : decode cX10_unhang 45 = .ok (.ireturn, 1) := by decide +kernel
theorem dX10_kind_0 : decode cX10_kind 0 = .ok (.iload_n 1, 1) := by decide +kernel
theorem dX10_kind_1 : decode cX10_kind 1 = .ok (.iconst 0, 1) := by decide +kernel
theorem dX10_kind_2 : decode cX10_kind 2 = .ok (.bipush 9, 2) := by decide +kernel
theorem dX10_kind_4 : decode cX10_kind 4 = .ok (.invokestatic 69, 3) := by decide +kernel
theorem dX10_kind_7 : decode cX10_kind 7 = .ok (.ifCond .ne 10, 3) := by decide +kernel
theorem dX10_kind_10 : decode cX10_kind 10 = .ok (.aload_n 0, 1) := by decide +kernel
theorem dX10_kind_11 : decode cX10_kind 11 = .ok (.bipush (-2), 2) := by decide +kernel
theorem dX10_kind_13 : decode cX10_kind 13 = .ok (.invokevirtual 73, 3) := by decide +kernel
theorem dX10_kind_16 : decode cX10_kind 16 = .ok (.ireturn, 1) := by decide +kernel
theorem dX10_kind_17 : decode cX10_kind 17 = .ok (.aload_n 0, 1) := by decide +kernel
theorem dX10_kind_18 : decode cX10_kind 18 = .ok (.aload_n 0, 1) := by decide +kernel
theorem dX10_kind_19 : decode cX10_kind 19 = .ok (.getfield 7, 3) := by decide +kernel
theorem dX10_kind_22 : decode cX10_kind 22 = .ok (.iload_n 1, 1) := by decide +kernel
theorem dX10_kind_23 : decode cX10_kind 23 = .ok (.iaload, 1) := by decide +kernel
theorem dX10_kind_24 : decode cX10_kind 24 = .ok (.iconst (-1), 1) := by decide +kernel
theorem dX10_kind_25 : decode cX10_kind 25 = .ok (.if_icmp .ne 7, 3) := by decide +kernel
theorem dX10_kind_28 : decode cX10_kind 28 = .ok (.iconst (-1), 1) := by decide +kernel
theorem dX10_kind_29 : decode cX10_kind 29 = .ok (.goto 14, 3) := by decide +kernel
theorem dX10_kind_32 : decode cX10_kind 32 = .ok (.aload_n 0, 1) := by decide +kernel
theorem dX10_kind_33 : decode cX10_kind 33 = .ok (.getfield 13, 3) := by decide +kernel
theorem dX10_kind_36 : decode cX10_kind 36 = .ok (.aload_n 0, 1) := by decide +kernel
theorem dX10_kind_37 : decode cX10_kind 37 = .ok (.getfield 7, 3) := by decide +kernel
theorem dX10_kind_40 : decode cX10_kind 40 = .ok (.iload_n 1, 1) := by decide +kernel
theorem dX10_kind_41 : decode cX10_kind 41 = .ok (.iaload, 1) := by decide +kernel
theorem dX10_kind_42 : decode cX10_kind 42 = .ok (.iaload, 1) := by decide +kernel
theorem dX10_kind_43 : decode cX10_kind 43 = .ok (.invokevirtual 80, 3) := by decide +kernel
theorem dX10_kind_46 : decode cX10_kind 46 = .ok (.ireturn, 1) := by decide +kernel
theorem dX10_card_0 : decode cX10_card 0 = .ok (.iload_n 1, 1) := by decide +kernel
theorem dX10_card_1 : decode cX10_card 1 = .ok (.iconst 0, 1) := by decide +kernel
theorem dX10_card_2 : decode cX10_card 2 = .ok (.bipush 9, 2) := by decide +kernel
theorem dX10_card_4 : decode cX10_card 4 = .ok (.invokestatic 69, 3) := by decide +kernel
theorem dX10_card_7 : decode cX10_card 7 = .ok (.ifCond .ne 10, 3) := by decide +kernel
theorem dX10_card_10 : decode cX10_card 10 = .ok (.aload_n 0, 1) := by decide +kernel
theorem dX10_card_11 : decode cX10_card 11 = .ok (.bipush (-2), 2) := by decide +kernel
theorem dX10_card_13 : decode cX10_card 13 = .ok (.invokevirtual 73, 3) := by decide +kernel
theorem dX10_card_16 : decode cX10_card 16 = .ok (.ireturn, 1) := by decide +kernel
theorem dX10_card_17 : decode cX10_card 17 = .ok (.aload_n 0, 1) := by decide +kernel
theorem dX10_card_18 : decode cX10_card 18 = .ok (.getfield 7, 3) := by decide +kernel
theorem dX10_card_21 : decode cX10_card 21 = .ok (.iload_n 1, 1) := by decide +kernel
theorem dX10_card_22 : decode cX10_card 22 = .ok (.iaload, 1) := by decide +kernel
theorem dX10_card_23 : decode cX10_card 23 = .ok (.iconst (-1), 1) := by decide +kernel
theorem dX10_card_24 : decode cX10_card 24 = .ok (.if_icmp .ne 9, 3) := by decide +kernel
theorem dX10_card_27 : decode cX10_card 27 = .ok (.aload_n 0, 1) := by decide +kernel
theorem dX10_card_28 : decode cX10_card 28 = .ok (.iconst 1, 1) := by decide +kernel
theorem dX10_card_29 : decode cX10_card 29 = .ok (.invokevirtual 83, 3) := by decide +kernel
theorem dX10_card_32 : decode cX10_card 32 = .ok (.ireturn, 1) := by decide +kernel
theorem dX10_card_33 : decode cX10_card 33 = .ok (.aload_n 0, 1) := by decide +kernel
theorem dX10_card_34 : decode cX10_card 34 = .ok (.getfield 22, 3) := by decide +kernel
theorem dX10_card_37 : decode cX10_card 37 = .ok (.aload_n 0, 1) := by decide +kernel
theorem dX10_card_38 : decode cX10_card 38 = .ok (.getfield 7, 3) := by decide +kernel
theorem dX10_card_41 : decode cX10_card 41 = .ok (.iload_n 1, 1) := by decide +kernel
theorem dX10_card_42 : decode cX10_card 42 = .ok (.iaload, 1) := by decide +kernel
theorem dX10_card_43 : decode cX10_card 43 = .ok (.iconst 1, 1) := by decide +kernel
theorem dX10_card_44 : decode cX10_card 44 = .ok (.bastore, 1) := by decide +kernel
theorem dX10_card_45 : decode cX10_card 45 = .ok (.aload_n 0, 1) := by decide +kernel
theorem dX10_card_46 : decode cX10_card 46 = .ok (.getfield 26, 3) := by decide +kernel
theorem dX10_card_49 : decode cX10_card 49 = .ok (.aload_n 0, 1) := by decide +kernel
theorem dX10_card_50 : decode cX10_card 50 = .ok (.getfield 7, 3) := by decide +kernel
theorem dX10_card_53 : decode cX10_card 53 = .ok (.iload_n 1, 1) := by decide +kernel
theorem dX10_card_54 : decode cX10_card 54 = .ok (.iaload, 1) := by decide +kernel
theorem dX10_card_55 : decode cX10_card 55 = .ok (.iload_n 2, 1) := by decide +kernel
theorem dX10_card_56 : decode cX10_card 56 = .ok (.iastore, 1) := by decide +kernel
theorem dX10_card_57 : decode cX10_card 57 = .ok (.aload_n 0, 1) := by decide +kernel
theorem dX10_card_58 : decode cX10_card 58 = .ok (.iconst 1, 1) := by decide +kernel
theorem dX10_card_59 : decode cX10_card 59 = .ok (.invokevirtual 80, 3) := by decide +kernel
theorem dX10_card_62 : decode cX10_card 62 = .ok (.ireturn, 1) := by decide +kernel
theorem dX10_uncard_0 : decode cX10_uncard 0 = .ok (.iload_n 1, 1) := by decide +kernel
theorem dX10_uncard_1 : decode cX10_uncard 1 = .ok (.iconst 0, 1) := by decide +kernel
theorem dX10_uncard_2 : decode cX10_uncard 2 = .ok (.bipush 9, 2) := by decide +kernel
theorem dX10_uncard_4 : decode cX10_uncard 4 = .ok (.invokestatic 69, 3) := by decide +kernel
theorem dX10_uncard_7 : decode cX10_uncard 7 = .ok (.ifCond .ne 10, 3) := by decide +kernel
theorem dX10_uncard_10 : decode cX10_uncard 10 = .ok (.aload_n 0, 1) := by decide +kernel
theorem dX10_uncard_11 : decode cX10_uncard 11 = .ok (.bipush (-2), 2) := by decide +kernel
theorem dX10_uncard_13 : decode cX10_uncard 13 = .ok (.invokevirtual 73, 3) := by decide +kernel
theorem dX10_uncard_16 : decode cX10_uncard 16 = .ok (.ireturn, 1) := by decide +kernel
theorem dX10_uncard_17 : decode cX10_uncard 17 = .ok (.aload_n 0, 1) := by decide +kernel
theorem dX10_uncard_18 : decode cX10_uncard 18 = .ok (.getfield 7, 3) := by decide +kernel
theorem dX10_uncard_21 : decode cX10_uncard 21 = .ok (.iload_n 1, 1) := by decide +kernel
theorem dX10_uncard_22 : decode cX10_uncard 22 = .ok (.iaload, 1) := by decide +kernel
theorem dX10_uncard_23 : decode cX10_uncard 23 = .ok (.iconst (-1), 1) := by decide +kernel
theorem dX10_uncard_24 : decode cX10_uncard 24 = .ok (.if_icmp .ne 9, 3) := by decide +kernel
theorem dX10_uncard_27 : decode cX10_uncard 27 = .ok (.aload_n 0, 1) := by decide +kernel
theorem dX10_uncard_28 : decode cX10_uncard 28 = .ok (.iconst 1, 1) := by decide +kernel
theorem dX10_uncard_29 : decode cX10_uncard 29 = .ok (.invokevirtual 83, 3) := by decide +kernel
theorem dX10_uncard_32 : decode cX10_uncard 32 = .ok (.ireturn, 1) := by decide +kernel
theorem dX10_uncard_33 : decode cX10_uncard 33 = .ok (.aload_n 0, 1) := by decide +kernel
theorem dX10_uncard_34 : decode cX10_uncard 34 = .ok (.getfield 22, 3) := by decide +kernel
theorem dX10_uncard_37 : decode cX10_uncard 37 = .ok (.aload_n 0, 1) := by decide +kernel
theorem dX10_uncard_38 : decode cX10_uncard 38 = .ok (.getfield 7, 3) := by decide +kernel
theorem dX10_uncard_41 : decode cX10_uncard 41 = .ok (.iload_n 1, 1) := by decide +kernel
theorem dX10_uncard_42 : decode cX10_uncard 42 = .ok (.iaload, 1) := by decide +kernel
theorem dX10_uncard_43 : decode cX10_uncard 43 = .ok (.iconst 0, 1) := by decide +kernel
theorem dX10_uncard_44 : decode cX10_uncard 44 = .ok (.bastore, 1) := by decide +kernel
theorem dX10_uncard_45 : decode cX10_uncard 45 = .ok (.aload_n 0, 1) := by decide +kernel
theorem dX10_uncard_46 : decode cX10_uncard 46 = .ok (.iconst 1, 1) := by decide +kernel
theorem dX10_uncard_47 : decode cX10_uncard 47 = .ok (.invokevirtual 80, 3) := by decide +kernel
theorem dX10_uncard_50 : decode cX10_uncard 50 = .ok (.ireturn, 1) := by decide +kernel
theorem dX10_rename_0 : decode cX10_rename 0 = .ok (.iload_n 1, 1) := by decide +kernel
theorem dX10_rename_1 : decode cX10_rename 1 = .ok (.iconst 0, 1) := by decide +kernel
theorem dX10_rename_2 : decode cX10_rename 2 = .ok (.bipush 9, 2) := by decide +kernel
theorem dX10_rename_4 : decode cX10_rename 4 = .ok (.invokestatic 69, 3) := by decide +kernel
theorem dX10_rename_7 : decode cX10_rename 7 = .ok (.ifCond .ne 10, 3) := by decide +kernel
theorem dX10_rename_10 : decode cX10_rename 10 = .ok (.aload_n 0, 1) := by decide +kernel
theorem dX10_rename_11 : decode cX10_rename 11 = .ok (.bipush (-2), 2) := by decide +kernel
theorem dX10_rename_13 : decode cX10_rename 13 = .ok (.invokevirtual 73, 3) := by decide +kernel
theorem dX10_rename_16 : decode cX10_rename 16 = .ok (.ireturn, 1) := by decide +kernel
theorem dX10_rename_17 : decode cX10_rename 17 = .ok (.aload_n 0, 1) := by decide +kernel
theorem dX10_rename_18 : decode cX10_rename 18 = .ok (.getfield 7, 3) := by decide +kernel
theorem dX10_rename_21 : decode cX10_rename 21 = .ok (.iload_n 1, 1) := by decide +kernel
theorem dX10_rename_22 : decode cX10_rename 22 = .ok (.iaload, 1) := by decide +kernel
theorem dX10_rename_23 : decode cX10_rename 23 = .ok (.iconst (-1), 1) := by decide +kernel
theorem dX10_rename_24 : decode cX10_rename 24 = .ok (.if_icmp .eq 17, 3) := by decide +kernel
theorem dX10_rename_27 : decode cX10_rename 27 = .ok (.aload_n 0, 1) := by decide +kernel
theorem dX10_rename_28 : decode cX10_rename 28 = .ok (.getfield 22, 3) := by decide +kernel
theorem dX10_rename_31 : decode cX10_rename 31 = .ok (.aload_n 0, 1) := by decide +kernel
theorem dX10_rename_32 : decode cX10_rename 32 = .ok (.getfield 7, 3) := by decide +kernel
theorem dX10_rename_35 : decode cX10_rename 35 = .ok (.iload_n 1, 1) := by decide +kernel
theorem dX10_rename_36 : decode cX10_rename 36 = .ok (.iaload, 1) := by decide +kernel
theorem dX10_rename_37 : decode cX10_rename 37 = .ok (.baload, 1) := by decide +kernel
theorem dX10_rename_38 : decode cX10_rename 38 = .ok (.ifCond .ne 9, 3) := by decide +kernel
theorem dX10_rename_41 : decode cX10_rename 41 = .ok (.aload_n 0, 1) := by decide +kernel
theorem dX10_rename_42 : decode cX10_rename 42 = .ok (.iconst 1, 1) := by decide +kernel
theorem dX10_rename_43 : decode cX10_rename 43 = .ok (.invokevirtual 83, 3) := by decide +kernel
theorem dX10_rename_46 : decode cX10_rename 46 = .ok (.ireturn, 1) := by decide +kernel
theorem dX10_rename_47 : decode cX10_rename 47 = .ok (.aload_n 0, 1) := by decide +kernel
theorem dX10_rename_48 : decode cX10_rename 48 = .ok (.getfield 26, 3) := by decide +kernel
theorem dX10_rename_51 : decode cX10_rename 51 = .ok (.aload_n 0, 1) := by decide +kernel
theorem dX10_rename_52 : decode cX10_rename 52 = .ok (.getfield 7, 3) := by decide +kernel
theorem dX10_rename_55 : decode cX10_rename 55 = .ok (.iload_n 1, 1) := by decide +kernel
theorem dX10_rename_56 : decode cX10_rename 56 = .ok (.iaload, 1) := by decide +kernel
theorem dX10_rename_57 : decode cX10_rename 57 = .ok (.iload_n 2, 1) := by decide +kernel
theorem dX10_rename_58 : decode cX10_rename 58 = .ok (.iastore, 1) := by decide +kernel
theorem dX10_rename_59 : decode cX10_rename 59 = .ok (.aload_n 0, 1) := by decide +kernel
theorem dX10_rename_60 : decode cX10_rename 60 = .ok (.iconst 1, 1) := by decide +kernel
theorem dX10_rename_61 : decode cX10_rename 61 = .ok (.invokevirtual 80, 3) := by decide +kernel
theorem dX10_rename_64 : decode cX10_rename 64 = .ok (.ireturn, 1) := by decide +kernel
theorem dX10_isBlade_0 : decode cX10_isBlade 0 = .ok (.iload_n 0, 1) := by decide +kernel
theorem dX10_isBlade_1 : decode cX10_isBlade 1 = .ok (.iconst 1, 1) := by decide +kernel
theorem dX10_isBlade_2 : decode cX10_isBlade 2 = .ok (.if_icmp .eq 8, 3) := by decide +kernel
theorem dX10_isBlade_5 : decode cX10_isBlade 5 = .ok (.iload_n 0, 1) := by decide +kernel
theorem dX10_isBlade_6 : decode cX10_isBlade 6 = .ok (.iconst 2, 1) := by decide +kernel
theorem dX10_isBlade_7 : decode cX10_isBlade 7 = .ok (.if_icmp .ne 7, 3) := by decide +kernel
theorem dX10_isBlade_10 : decode cX10_isBlade 10 = .ok (.iconst 1, 1) := by decide +kernel
theorem dX10_isBlade_11 : decode cX10_isBlade 11 = .ok (.goto 4, 3) := by decide +kernel
theorem dX10_isBlade_14 : decode cX10_isBlade 14 = .ok (.iconst 0, 1) := by decide +kernel
theorem dX10_isBlade_15 : decode cX10_isBlade 15 = .ok (.ireturn, 1) := by decide +kernel
theorem dX10_weight_0 : decode cX10_weight 0 = .ok (.aload_n 0, 1) := by decide +kernel
theorem dX10_weight_1 : decode cX10_weight 1 = .ok (.getfield 13, 3) := by decide +kernel
theorem dX10_weight_4 : decode cX10_weight 4 = .ok (.iload_n 1, 1) := by decide +kernel
theorem dX10_weight_5 : decode cX10_weight 5 = .ok (.iaload, 1) := by decide +kernel
theorem dX10_weight_6 : decode cX10_weight 6 = .ok (.ifCond .ne 15, 3) := by decide +kernel
theorem dX10_weight_9 : decode cX10_weight 9 = .ok (.bipush 50, 2) := by decide +kernel
theorem dX10_weight_11 : decode cX10_weight 11 = .ok (.aload_n 0, 1) := by decide +kernel
theorem dX10_weight_12 : decode cX10_weight 12 = .ok (.getfield 16, 3) := by decide +kernel
theorem dX10_weight_15 : decode cX10_weight 15 = .ok (.iload_n 1, 1) := by decide +kernel
theorem dX10_weight_16 : decode cX10_weight 16 = .ok (.iaload, 1) := by decide +kernel
theorem dX10_weight_17 : decode cX10_weight 17 = .ok (.iadd, 1) := by decide +kernel
theorem dX10_weight_18 : decode cX10_weight 18 = .ok (.goto 34, 3) := by decide +kernel
theorem dX10_weight_21 : decode cX10_weight 21 = .ok (.aload_n 0, 1) := by decide +kernel
theorem dX10_weight_22 : decode cX10_weight 22 = .ok (.getfield 13, 3) := by decide +kernel
theorem dX10_weight_25 : decode cX10_weight 25 = .ok (.iload_n 1, 1) := by decide +kernel
theorem dX10_weight_26 : decode cX10_weight 26 = .ok (.iaload, 1) := by decide +kernel
theorem dX10_weight_27 : decode cX10_weight 27 = .ok (.iconst 1, 1) := by decide +kernel
theorem dX10_weight_28 : decode cX10_weight 28 = .ok (.if_icmp .ne 8, 3) := by decide +kernel
theorem dX10_weight_31 : decode cX10_weight 31 = .ok (.bipush 10, 2) := by decide +kernel
theorem dX10_weight_33 : decode cX10_weight 33 = .ok (.goto 19, 3) := by decide +kernel
theorem dX10_weight_36 : decode cX10_weight 36 = .ok (.aload_n 0, 1) := by decide +kernel
theorem dX10_weight_37 : decode cX10_weight 37 = .ok (.getfield 13, 3) := by decide +kernel
theorem dX10_weight_40 : decode cX10_weight 40 = .ok (.iload_n 1, 1) := by decide +kernel
theorem dX10_weight_41 : decode cX10_weight 41 = .ok (.iaload, 1) := by decide +kernel
theorem dX10_weight_42 : decode cX10_weight 42 = .ok (.iconst 2, 1) := by decide +kernel
theorem dX10_weight_43 : decode cX10_weight 43 = .ok (.if_icmp .ne 8, 3) := by decide +kernel
theorem dX10_weight_46 : decode cX10_weight 46 = .ok (.bipush 12, 2) := by decide +kernel
theorem dX10_weight_48 : decode cX10_weight 48 = .ok (.goto 4, 3) := by decide +kernel
theorem dX10_weight_51 : decode cX10_weight 51 = .ok (.iconst 5, 1) := by decide +kernel
theorem dX10_weight_52 : decode cX10_weight 52 = .ok (.ireturn, 1) := by decide +kernel
theorem dX10_of_0 : decode cX10_of 0 = .ok (.aload_n 0, 1) := by decide +kernel
theorem dX10_of_1 : decode cX10_of 1 = .ok (.iload_n 1, 1) := by decide +kernel
theorem dX10_of_2 : decode cX10_of 2 = .ok (.iconst 0, 1) := by decide +kernel
theorem dX10_of_3 : decode cX10_of 3 = .ok (.bipush 9, 2) := by decide +kernel
theorem dX10_of_5 : decode cX10_of 5 = .ok (.invokestatic 69, 3) := by decide +kernel
theorem dX10_of_8 : decode cX10_of 8 = .ok (.ifCond .ne 8, 3) := by decide +kernel
theorem dX10_of_11 : decode cX10_of 11 = .ok (.bipush (-2), 2) := by decide +kernel
theorem dX10_of_13 : decode cX10_of 13 = .ok (.goto 18, 3) := by decide +kernel
theorem dX10_of_16 : decode cX10_of 16 = .ok (.iload_n 2, 1) := by decide +kernel
theorem dX10_of_17 : decode cX10_of 17 = .ok (.iconst 0, 1) := by decide +kernel
theorem dX10_of_18 : decode cX10_of 18 = .ok (.iconst 3, 1) := by decide +kernel
theorem dX10_of_19 : decode cX10_of 19 = .ok (.invokestatic 69, 3) := by decide +kernel
theorem dX10_of_22 : decode cX10_of 22 = .ok (.ifCond .ne 8, 3) := by decide +kernel
theorem dX10_of_25 : decode cX10_of 25 = .ok (.bipush (-3), 2) := by decide +kernel
theorem dX10_of_27 : decode cX10_of 27 = .ok (.goto 4, 3) := by decide +kernel
theorem dX10_of_30 : decode cX10_of 30 = .ok (.iconst 0, 1) := by decide +kernel
theorem dX10_of_31 : decode cX10_of 31 = .ok (.putfield 62, 3) := by decide +kernel
theorem dX10_of_34 : decode cX10_of 34 = .ok (.aload_n 0, 1) := by decide +kernel
theorem dX10_of_35 : decode cX10_of 35 = .ok (.getfield 62, 3) := by decide +kernel
theorem dX10_of_38 : decode cX10_of 38 = .ok (.ifCond .eq 5, 3) := by decide +kernel
theorem dX10_of_41 : decode cX10_of 41 = .ok (.iconst 0, 1) := by decide +kernel
theorem dX10_of_42 : decode cX10_of 42 = .ok (.ireturn, 1) := by decide +kernel
theorem dX10_of_43 : decode cX10_of 43 = .ok (.aload_n 0, 1) := by decide +kernel
theorem dX10_of_44 : decode cX10_of 44 = .ok (.getfield 7, 3) := by decide +kernel
theorem dX10_of_47 : decode cX10_of 47 = .ok (.iload_n 1, 1) := by decide +kernel
theorem dX10_of_48 : decode cX10_of 48 = .ok (.iaload, 1) := by decide +kernel
theorem dX10_of_49 : decode cX10_of 49 = .ok (.istore_n 3, 1) := by decide +kernel
theorem dX10_of_50 : decode cX10_of 50 = .ok (.iload_n 3, 1) := by decide +kernel
theorem dX10_of_51 : decode cX10_of 51 = .ok (.iconst (-1), 1) := by decide +kernel
theorem dX10_of_52 : decode cX10_of 52 = .ok (.if_icmp .eq 16, 3) := by decide +kernel
theorem dX10_of_55 : decode cX10_of 55 = .ok (.iload_n 2, 1) := by decide +kernel
theorem dX10_of_56 : decode cX10_of 56 = .ok (.ifCond .ne 16, 3) := by decide +kernel
theorem dX10_of_59 : decode cX10_of 59 = .ok (.aload_n 0, 1) := by decide +kernel
theorem dX10_of_60 : decode cX10_of 60 = .ok (.getfield 22, 3) := by decide +kernel
theorem dX10_of_63 : decode cX10_of 63 = .ok (.iload_n 3, 1) := by decide +kernel
theorem dX10_of_64 : decode cX10_of 64 = .ok (.baload, 1) := by decide +kernel
theorem dX10_of_65 : decode cX10_of 65 = .ok (.ifCond .ne 7, 3) := by decide +kernel
theorem dX10_of_68 : decode cX10_of 68 = .ok (.iconst 1, 1) := by decide +kernel
theorem dX10_of_69 : decode cX10_of 69 = .ok (.goto 25, 3) := by decide +kernel
theorem dX10_of_72 : decode cX10_of 72 = .ok (.iload_n 2, 1) := by decide +kernel
theorem dX10_of_73 : decode cX10_of 73 = .ok (.iconst 3, 1) := by decide +kernel
theorem dX10_of_74 : decode cX10_of 74 = .ok (.if_icmp .ne 19, 3) := by decide +kernel
theorem dX10_of_77 : decode cX10_of 77 = .ok (.aload_n 0, 1) := by decide +kernel
theorem dX10_of_78 : decode cX10_of 78 = .ok (.getfield 13, 3) := by decide +kernel
theorem dX10_of_81 : decode cX10_of 81 = .ok (.iload_n 3, 1) := by decide +kernel
theorem dX10_of_82 : decode cX10_of 82 = .ok (.iaload, 1) := by decide +kernel
theorem dX10_of_83 : decode cX10_of 83 = .ok (.invokestatic 86, 3) := by decide +kernel
theorem dX10_of_86 : decode cX10_of 86 = .ok (.ifCond .ne 7, 3) := by decide +kernel
theorem dX10_of_89 : decode cX10_of 89 = .ok (.iconst 4, 1) := by decide +kernel
theorem dX10_of_90 : decode cX10_of 90 = .ok (.goto 4, 3) := by decide +kernel
theorem dX10_of_93 : decode cX10_of 93 = .ok (.iconst 0, 1) := by decide +kernel
theorem dX10_of_94 : decode cX10_of 94 = .ok (.istore 4, 2) := by decide +kernel
theorem dX10_of_96 : decode cX10_of 96 = .ok (.iload 4, 2) := by decide +kernel
theorem dX10_of_98 : decode cX10_of 98 = .ok (.ifCond .eq 13, 3) := by decide +kernel
theorem dX10_of_101 : decode cX10_of 101 = .ok (.aload_n 0, 1) := by decide +kernel
theorem dX10_of_102 : decode cX10_of 102 = .ok (.iload 4, 2) := by decide +kernel
theorem dX10_of_104 : decode cX10_of 104 = .ok (.invokevirtual 83, 3) := by decide +kernel
theorem dX10_of_107 : decode cX10_of 107 = .ok (.istore 4, 2) := by decide +kernel
theorem dX10_of_109 : decode cX10_of 109 = .ok (.iconst 0, 1) := by decide +kernel
theorem dX10_of_110 : decode cX10_of 110 = .ok (.ireturn, 1) := by decide +kernel
theorem dX10_of_111 : decode cX10_of 111 = .ok (.iload_n 2, 1) := by decide +kernel
theorem dX10_of_112 : decode cX10_of 112 = .ok (.ifCond .ne 12, 3) := by decide +kernel
theorem dX10_of_115 : decode cX10_of 115 = .ok (.aload_n 0, 1) := by decide +kernel
theorem dX10_of_116 : decode cX10_of 116 = .ok (.getfield 26, 3) := by decide +kernel
theorem dX10_of_119 : decode cX10_of 119 = .ok (.iload_n 3, 1) := by decide +kernel
theorem dX10_of_120 : decode cX10_of 120 = .ok (.iaload, 1) := by decide +kernel
theorem dX10_of_121 : decode cX10_of 121 = .ok (.goto 36, 3) := by decide +kernel
theorem dX10_of_124 : decode cX10_of 124 = .ok (.iload_n 2, 1) := by decide +kernel
theorem dX10_of_125 : decode cX10_of 125 = .ok (.iconst 1, 1) := by decide +kernel
theorem dX10_of_126 : decode cX10_of 126 = .ok (.if_icmp .ne 12, 3) := by decide +kernel
theorem dX10_of_129 : decode cX10_of 129 = .ok (.aload_n 0, 1) := by decide +kernel
theorem dX10_of_130 : decode cX10_of 130 = .ok (.getfield 16, 3) := by decide +kernel
theorem dX10_of_133 : decode cX10_of 133 = .ok (.iload_n 3, 1) := by decide +kernel
theorem dX10_of_134 : decode cX10_of 134 = .ok (.iaload, 1) := by decide +kernel
theorem dX10_of_135 : decode cX10_of 135 = .ok (.goto 22, 3) := by decide +kernel
theorem dX10_of_138 : decode cX10_of 138 = .ok (.iload_n 2, 1) := by decide +kernel
theorem dX10_of_139 : decode cX10_of 139 = .ok (.iconst 2, 1) := by decide +kernel
theorem dX10_of_140 : decode cX10_of 140 = .ok (.if_icmp .ne 11, 3) := by decide +kernel
theorem dX10_of_143 : decode cX10_of 143 = .ok (.aload_n 0, 1) := by decide +kernel
theorem dX10_of_144 : decode cX10_of 144 = .ok (.iload_n 3, 1) := by decide +kernel
theorem dX10_of_145 : decode cX10_of 145 = .ok (.invokevirtual 90, 3) := by decide +kernel
theorem dX10_of_148 : decode cX10_of 148 = .ok (.goto 9, 3) := by decide +kernel
theorem dX10_of_151 : decode cX10_of 151 = .ok (.aload_n 0, 1) := by decide +kernel
theorem dX10_of_152 : decode cX10_of 152 = .ok (.getfield 19, 3) := by decide +kernel
theorem dX10_of_155 : decode cX10_of 155 = .ok (.iload_n 3, 1) := by decide +kernel
theorem dX10_of_156 : decode cX10_of 156 = .ok (.iaload, 1) := by decide +kernel
theorem dX10_of_157 : decode cX10_of 157 = .ok (.ireturn, 1) := by decide +kernel
theorem dX10_hone_0 : decode cX10_hone 0 = .ok (.iload_n 1, 1) := by decide +kernel
theorem dX10_hone_1 : decode cX10_hone 1 = .ok (.iconst 0, 1) := by decide +kernel
theorem dX10_hone_2 : decode cX10_hone 2 = .ok (.bipush 9, 2) := by decide +kernel
theorem dX10_hone_4 : decode cX10_hone 4 = .ok (.invokestatic 69, 3) := by decide +kernel
theorem dX10_hone_7 : decode cX10_hone 7 = .ok (.ifCond .ne 10, 3) := by decide +kernel
theorem dX10_hone_10 : decode cX10_hone 10 = .ok (.aload_n 0, 1) := by decide +kernel
theorem dX10_hone_11 : decode cX10_hone 11 = .ok (.bipush (-2), 2) := by decide +kernel
theorem dX10_hone_13 : decode cX10_hone 13 = .ok (.invokevirtual 73, 3) := by decide +kernel
theorem dX10_hone_16 : decode cX10_hone 16 = .ok (.ireturn, 1) := by decide +kernel
theorem dX10_hone_17 : decode cX10_hone 17 = .ok (.aload_n 0, 1) := by decide +kernel
theorem dX10_hone_18 : decode cX10_hone 18 = .ok (.getfield 7, 3) := by decide +kernel
theorem dX10_hone_21 : decode cX10_hone 21 = .ok (.iload_n 1, 1) := by decide +kernel
theorem dX10_hone_22 : decode cX10_hone 22 = .ok (.iaload, 1) := by decide +kernel
theorem dX10_hone_23 : decode cX10_hone 23 = .ok (.istore_n 3, 1) := by decide +kernel
theorem dX10_hone_24 : decode cX10_hone 24 = .ok (.iload_n 3, 1) := by decide +kernel
theorem dX10_hone_25 : decode cX10_hone 25 = .ok (.iconst (-1), 1) := by decide +kernel
theorem dX10_hone_26 : decode cX10_hone 26 = .ok (.if_icmp .eq 15, 3) := by decide +kernel
theorem dX10_hone_29 : decode cX10_hone 29 = .ok (.aload_n 0, 1) := by decide +kernel
theorem dX10_hone_30 : decode cX10_hone 30 = .ok (.getfield 13, 3) := by decide +kernel
theorem dX10_hone_33 : decode cX10_hone 33 = .ok (.iload_n 3, 1) := by decide +kernel
theorem dX10_hone_34 : decode cX10_hone 34 = .ok (.iaload, 1) := by decide +kernel
theorem dX10_hone_35 : decode cX10_hone 35 = .ok (.invokestatic 86, 3) := by decide +kernel
theorem dX10_hone_38 : decode cX10_hone 38 = .ok (.ifCond .ne 18, 3) := by decide +kernel
theorem dX10_hone_41 : decode cX10_hone 41 = .ok (.aload_n 0, 1) := by decide +kernel
theorem dX10_hone_42 : decode cX10_hone 42 = .ok (.iload_n 3, 1) := by decide +kernel
theorem dX10_hone_43 : decode cX10_hone 43 = .ok (.iconst (-1), 1) := by decide +kernel
theorem dX10_hone_44 : decode cX10_hone 44 = .ok (.if_icmp .ne 7, 3) := by decide +kernel
theorem dX10_hone_47 : decode cX10_hone 47 = .ok (.iconst 1, 1) := by decide +kernel
theorem dX10_hone_48 : decode cX10_hone 48 = .ok (.goto 4, 3) := by decide +kernel
theorem dX10_hone_51 : decode cX10_hone 51 = .ok (.iconst 4, 1) := by decide +kernel
theorem dX10_hone_52 : decode cX10_hone 52 = .ok (.invokevirtual 83, 3) := by decide +kernel
theorem dX10_hone_55 : decode cX10_hone 55 = .ok (.ireturn, 1) := by decide +kernel
theorem dX10_hone_56 : decode cX10_hone 56 = .ok (.aload_n 0, 1) := by decide +kernel
theorem dX10_hone_57 : decode cX10_hone 57 = .ok (.getfield 19, 3) := by decide +kernel
theorem dX10_hone_60 : decode cX10_hone 60 = .ok (.iload_n 3, 1) := by decide +kernel
theorem dX10_hone_61 : decode cX10_hone 61 = .ok (.iload_n 2, 1) := by decide +kernel
theorem dX10_hone_62 : decode cX10_hone 62 = .ok (.iastore, 1) := by decide +kernel
theorem dX10_hone_63 : decode cX10_hone 63 = .ok (.aload_n 0, 1) := by decide +kernel
theorem dX10_hone_64 : decode cX10_hone 64 = .ok (.iconst 1, 1) := by decide +kernel
theorem dX10_hone_65 : decode cX10_hone 65 = .ok (.invokevirtual 80, 3) := by decide +kernel
theorem dX10_hone_68 : decode cX10_hone 68 = .ok (.ireturn, 1) := by decide +kernel
theorem dX10_used_0 : decode cX10_used 0 = .ok (.aload_n 0, 1) := by decide +kernel
theorem dX10_used_1 : decode cX10_used 1 = .ok (.dup, 1) := by decide +kernel
theorem dX10_used_2 : decode cX10_used 2 = .ok (.getfield 93, 3) := by decide +kernel
theorem dX10_used_5 : decode cX10_used 5 = .ok (.iconst 1, 1) := by decide +kernel
theorem dX10_used_6 : decode cX10_used 6 = .ok (.iadd, 1) := by decide +kernel
theorem dX10_used_7 : decode cX10_used 7 = .ok (.putfield 93, 3) := by decide +kernel
theorem dX10_used_10 : decode cX10_used 10 = .ok (.aload_n 0, 1) := by decide +kernel
theorem dX10_used_11 : decode cX10_used 11 = .ok (.getfield 13, 3) := by decide +kernel
theorem dX10_used_14 : decode cX10_used 14 = .ok (.iload_n 1, 1) := by decide +kernel
theorem dX10_used_15 : decode cX10_used 15 = .ok (.iaload, 1) := by decide +kernel
theorem dX10_used_16 : decode cX10_used 16 = .ok (.tableswitch 88 0 2 #[28, 42, 61], 28) := by decide +kernel
theorem dX10_used_44 : decode cX10_used 44 = .ok (.aload_n 0, 1) := by decide +kernel
theorem dX10_used_45 : decode cX10_used 45 = .ok (.getfield 16, 3) := by decide +kernel
theorem dX10_used_48 : decode cX10_used 48 = .ok (.iload_n 1, 1) := by decide +kernel
theorem dX10_used_49 : decode cX10_used 49 = .ok (.dup2, 1) := by decide +kernel
theorem dX10_used_50 : decode cX10_used 50 = .ok (.iaload, 1) := by decide +kernel
theorem dX10_used_51 : decode cX10_used 51 = .ok (.iload_n 2, 1) := by decide +kernel
theorem dX10_used_52 : decode cX10_used 52 = .ok (.iadd, 1) := by decide +kernel
theorem dX10_used_53 : decode cX10_used 53 = .ok (.iastore, 1) := by decide +kernel
theorem dX10_used_54 : decode cX10_used 54 = .ok (.iload_n 2, 1) := by decide +kernel
theorem dX10_used_55 : decode cX10_used 55 = .ok (.iload_n 2, 1) := by decide +kernel
theorem dX10_used_56 : decode cX10_used 56 = .ok (.iadd, 1) := by decide +kernel
theorem dX10_used_57 : decode cX10_used 57 = .ok (.ireturn, 1) := by decide +kernel
theorem dX10_used_58 : decode cX10_used 58 = .ok (.aload_n 0, 1) := by decide +kernel
theorem dX10_used_59 : decode cX10_used 59 = .ok (.getfield 19, 3) := by decide +kernel
theorem dX10_used_62 : decode cX10_used 62 = .ok (.iload_n 1, 1) := by decide +kernel
theorem dX10_used_63 : decode cX10_used 63 = .ok (.dup2, 1) := by decide +kernel
theorem dX10_used_64 : decode cX10_used 64 = .ok (.iaload, 1) := by decide +kernel
theorem dX10_used_65 : decode cX10_used 65 = .ok (.iload_n 2, 1) := by decide +kernel
theorem dX10_used_66 : decode cX10_used 66 = .ok (.isub, 1) := by decide +kernel
theorem dX10_used_67 : decode cX10_used 67 = .ok (.iastore, 1) := by decide +kernel
theorem dX10_used_68 : decode cX10_used 68 = .ok (.iload_n 2, 1) := by decide +kernel
theorem dX10_used_69 : decode cX10_used 69 = .ok (.aload_n 0, 1) := by decide +kernel
theorem dX10_used_70 : decode cX10_used 70 = .ok (.getfield 16, 3) := by decide +kernel
theorem dX10_used_73 : decode cX10_used 73 = .ok (.iload_n 1, 1) := by decide +kernel
theorem dX10_used_74 : decode cX10_used 74 = .ok (.iaload, 1) := by decide +kernel
theorem dX10_used_75 : decode cX10_used 75 = .ok (.iadd, 1) := by decide +kernel
theorem dX10_used_76 : decode cX10_used 76 = .ok (.ireturn, 1) := by decide +kernel
theorem dX10_used_77 : decode cX10_used 77 = .ok (.aload_n 0, 1) := by decide +kernel
theorem dX10_used_78 : decode cX10_used 78 = .ok (.getfield 19, 3) := by decide +kernel
theorem dX10_used_81 : decode cX10_used 81 = .ok (.iload_n 1, 1) := by decide +kernel
theorem dX10_used_82 : decode cX10_used 82 = .ok (.aload_n 0, 1) := by decide +kernel
theorem dX10_used_83 : decode cX10_used 83 = .ok (.getfield 19, 3) := by decide +kernel
theorem dX10_used_86 : decode cX10_used 86 = .ok (.iload_n 1, 1) := by decide +kernel
theorem dX10_used_87 : decode cX10_used 87 = .ok (.iaload, 1) := by decide +kernel
theorem dX10_used_88 : decode cX10_used 88 = .ok (.iload_n 2, 1) := by decide +kernel
theorem dX10_used_89 : decode cX10_used 89 = .ok (.isub, 1) := by decide +kernel
theorem dX10_used_90 : decode cX10_used 90 = .ok (.iconst 1, 1) := by decide +kernel
theorem dX10_used_91 : decode cX10_used 91 = .ok (.iadd, 1) := by decide +kernel
theorem dX10_used_92 : decode cX10_used 92 = .ok (.iastore, 1) := by decide +kernel
theorem dX10_used_93 : decode cX10_used 93 = .ok (.iload_n 2, 1) := by decide +kernel
theorem dX10_used_94 : decode cX10_used 94 = .ok (.aload_n 0, 1) := by decide +kernel
theorem dX10_used_95 : decode cX10_used 95 = .ok (.getfield 16, 3) := by decide +kernel
theorem dX10_used_98 : decode cX10_used 98 = .ok (.iload_n 1, 1) := by decide +kernel
theorem dX10_used_99 : decode cX10_used 99 = .ok (.iaload, 1) := by decide +kernel
theorem dX10_used_100 : decode cX10_used 100 = .ok (.iadd, 1) := by decide +kernel
theorem dX10_used_101 : decode cX10_used 101 = .ok (.iconst 1, 1) := by decide +kernel
theorem dX10_used_102 : decode cX10_used 102 = .ok (.iadd, 1) := by decide +kernel
theorem dX10_used_103 : decode cX10_used 103 = .ok (.ireturn, 1) := by decide +kernel
theorem dX10_used_104 : decode cX10_used 104 = .ok (.aload_n 0, 1) := by decide +kernel
theorem dX10_used_105 : decode cX10_used 105 = .ok (.getfield 16, 3) := by decide +kernel
theorem dX10_used_108 : decode cX10_used 108 = .ok (.iload_n 1, 1) := by decide +kernel
theorem dX10_used_109 : decode cX10_used 109 = .ok (.iaload, 1) := by decide +kernel
theorem dX10_used_110 : decode cX10_used 110 = .ok (.istore_n 3, 1) := by decide +kernel
theorem dX10_used_111 : decode cX10_used 111 = .ok (.aload_n 0, 1) := by decide +kernel
theorem dX10_used_112 : decode cX10_used 112 = .ok (.getfield 16, 3) := by decide +kernel
theorem dX10_used_115 : decode cX10_used 115 = .ok (.iload_n 1, 1) := by decide +kernel
theorem dX10_used_116 : decode cX10_used 116 = .ok (.dup2, 1) := by decide +kernel
theorem dX10_used_117 : decode cX10_used 117 = .ok (.iaload, 1) := by decide +kernel
theorem dX10_used_118 : decode cX10_used 118 = .ok (.iconst 1, 1) := by decide +kernel
theorem dX10_used_119 : decode cX10_used 119 = .ok (.iadd, 1) := by decide +kernel
theorem dX10_used_120 : decode cX10_used 120 = .ok (.iastore, 1) := by decide +kernel
theorem dX10_used_121 : decode cX10_used 121 = .ok (.iload_n 3, 1) := by decide +kernel
theorem dX10_used_122 : decode cX10_used 122 = .ok (.ireturn, 1) := by decide +kernel
theorem dX10_use_0 : decode cX10_use 0 = .ok (.aload_n 0, 1) := by decide +kernel
theorem dX10_use_1 : decode cX10_use 1 = .ok (.iload_n 1, 1) := by decide +kernel
theorem dX10_use_2 : decode cX10_use 2 = .ok (.iconst 0, 1) := by decide +kernel
theorem dX10_use_3 : decode cX10_use 3 = .ok (.bipush 9, 2) := by decide +kernel
theorem dX10_use_5 : decode cX10_use 5 = .ok (.invokestatic 69, 3) := by decide +kernel
theorem dX10_use_8 : decode cX10_use 8 = .ok (.ifCond .eq 7, 3) := by decide +kernel
theorem dX10_use_11 : decode cX10_use 11 = .ok (.iconst 0, 1) := by decide +kernel
theorem dX10_use_12 : decode cX10_use 12 = .ok (.goto 5, 3) := by decide +kernel
theorem dX10_use_15 : decode cX10_use 15 = .ok (.bipush (-2), 2) := by decide +kernel
theorem dX10_use_17 : decode cX10_use 17 = .ok (.putfield 62, 3) := by decide +kernel
theorem dX10_use_20 : decode cX10_use 20 = .ok (.aload_n 0, 1) := by decide +kernel
theorem dX10_use_21 : decode cX10_use 21 = .ok (.getfield 62, 3) := by decide +kernel
theorem dX10_use_24 : decode cX10_use 24 = .ok (.ifCond .eq 5, 3) := by decide +kernel
theorem dX10_use_27 : decode cX10_use 27 = .ok (.iconst 0, 1) := by decide +kernel
theorem dX10_use_28 : decode cX10_use 28 = .ok (.ireturn, 1) := by decide +kernel
theorem dX10_use_29 : decode cX10_use 29 = .ok (.aload_n 0, 1) := by decide +kernel
theorem dX10_use_30 : decode cX10_use 30 = .ok (.getfield 7, 3) := by decide +kernel
theorem dX10_use_33 : decode cX10_use 33 = .ok (.iload_n 1, 1) := by decide +kernel
theorem dX10_use_34 : decode cX10_use 34 = .ok (.iaload, 1) := by decide +kernel
theorem dX10_use_35 : decode cX10_use 35 = .ok (.iconst (-1), 1) := by decide +kernel
theorem dX10_use_36 : decode cX10_use 36 = .ok (.if_icmp .ne 11, 3) := by decide +kernel
theorem dX10_use_39 : decode cX10_use 39 = .ok (.aload_n 0, 1) := by decide +kernel
theorem dX10_use_40 : decode cX10_use 40 = .ok (.iconst 1, 1) := by decide +kernel
theorem dX10_use_41 : decode cX10_use 41 = .ok (.invokevirtual 83, 3) := by decide +kernel
theorem dX10_use_44 : decode cX10_use 44 = .ok (.goto 4, 3) := by decide +kernel
theorem dX10_use_47 : decode cX10_use 47 = .ok (.iconst 0, 1) := by decide +kernel
theorem dX10_use_48 : decode cX10_use 48 = .ok (.istore_n 3, 1) := by decide +kernel
theorem dX10_use_49 : decode cX10_use 49 = .ok (.iload_n 3, 1) := by decide +kernel
theorem dX10_use_50 : decode cX10_use 50 = .ok (.ifCond .eq 7, 3) := by decide +kernel
theorem dX10_use_53 : decode cX10_use 53 = .ok (.iconst 0, 1) := by decide +kernel
theorem dX10_use_54 : decode cX10_use 54 = .ok (.goto 14, 3) := by decide +kernel
theorem dX10_use_57 : decode cX10_use 57 = .ok (.aload_n 0, 1) := by decide +kernel
theorem dX10_use_58 : decode cX10_use 58 = .ok (.aload_n 0, 1) := by decide +kernel
theorem dX10_use_59 : decode cX10_use 59 = .ok (.getfield 7, 3) := by decide +kernel
theorem dX10_use_62 : decode cX10_use 62 = .ok (.iload_n 1, 1) := by decide +kernel
theorem dX10_use_63 : decode cX10_use 63 = .ok (.iaload, 1) := by decide +kernel
theorem dX10_use_64 : decode cX10_use 64 = .ok (.iload_n 2, 1) := by decide +kernel
theorem dX10_use_65 : decode cX10_use 65 = .ok (.invokevirtual 96, 3) := by decide +kernel
theorem dX10_use_68 : decode cX10_use 68 = .ok (.ireturn, 1) := by decide +kernel
theorem dX10_shift_0 : decode cX10_shift 0 = .ok (.iload_n 1, 1) := by decide +kernel
theorem dX10_shift_1 : decode cX10_shift 1 = .ok (.iconst 0, 1) := by decide +kernel
theorem dX10_shift_2 : decode cX10_shift 2 = .ok (.bipush 9, 2) := by decide +kernel
theorem dX10_shift_4 : decode cX10_shift 4 = .ok (.invokestatic 69, 3) := by decide +kernel
theorem dX10_shift_7 : decode cX10_shift 7 = .ok (.ifCond .eq 13, 3) := by decide +kernel
theorem dX10_shift_10 : decode cX10_shift 10 = .ok (.iload 4, 2) := by decide +kernel
theorem dX10_shift_12 : decode cX10_shift 12 = .ok (.iconst 0, 1) := by decide +kernel
theorem dX10_shift_13 : decode cX10_shift 13 = .ok (.iconst 3, 1) := by decide +kernel
theorem dX10_shift_14 : decode cX10_shift 14 = .ok (.invokestatic 69, 3) := by decide +kernel
theorem dX10_shift_17 : decode cX10_shift 17 = .ok (.ifCond .ne 10, 3) := by decide +kernel
theorem dX10_shift_20 : decode cX10_shift 20 = .ok (.aload_n 0, 1) := by decide +kernel
theorem dX10_shift_21 : decode cX10_shift 21 = .ok (.bipush (-2), 2) := by decide +kernel
theorem dX10_shift_23 : decode cX10_shift 23 = .ok (.invokevirtual 73, 3) := by decide +kernel
theorem dX10_shift_26 : decode cX10_shift 26 = .ok (.ireturn, 1) := by decide +kernel
theorem dX10_shift_27 : decode cX10_shift 27 = .ok (.iload_n 2, 1) := by decide +kernel
theorem dX10_shift_28 : decode cX10_shift 28 = .ok (.iconst 0, 1) := by decide +kernel
theorem dX10_shift_29 : decode cX10_shift 29 = .ok (.bipush 9, 2) := by decide +kernel
theorem dX10_shift_31 : decode cX10_shift 31 = .ok (.invokestatic 69, 3) := by decide +kernel
theorem dX10_shift_34 : decode cX10_shift 34 = .ok (.ifCond .ne 10, 3) := by decide +kernel
theorem dX10_shift_37 : decode cX10_shift 37 = .ok (.aload_n 0, 1) := by decide +kernel
theorem dX10_shift_38 : decode cX10_shift 38 = .ok (.bipush (-3), 2) := by decide +kernel
theorem dX10_shift_40 : decode cX10_shift 40 = .ok (.invokevirtual 73, 3) := by decide +kernel
theorem dX10_shift_43 : decode cX10_shift 43 = .ok (.ireturn, 1) := by decide +kernel
theorem dX10_shift_44 : decode cX10_shift 44 = .ok (.iconst 0, 1) := by decide +kernel
theorem dX10_shift_45 : decode cX10_shift 45 = .ok (.istore 5, 2) := by decide +kernel
theorem dX10_shift_47 : decode cX10_shift 47 = .ok (.iload 5, 2) := by decide +kernel
theorem dX10_shift_49 : decode cX10_shift 49 = .ok (.iload_n 2, 1) := by decide +kernel
theorem dX10_shift_50 : decode cX10_shift 50 = .ok (.if_icmp .ge 108, 3) := by decide +kernel
theorem dX10_shift_53 : decode cX10_shift 53 = .ok (.iload_n 1, 1) := by decide +kernel
theorem dX10_shift_54 : decode cX10_shift 54 = .ok (.iload 5, 2) := by decide +kernel
theorem dX10_shift_56 : decode cX10_shift 56 = .ok (.iadd, 1) := by decide +kernel
theorem dX10_shift_57 : decode cX10_shift 57 = .ok (.bipush 9, 2) := by decide +kernel
theorem dX10_shift_59 : decode cX10_shift 59 = .ok (.if_icmp .le 9, 3) := by decide +kernel
theorem dX10_shift_62 : decode cX10_shift 62 = .ok (.aload_n 0, 1) := by decide +kernel
theorem dX10_shift_63 : decode cX10_shift 63 = .ok (.iconst 2, 1) := by decide +kernel
theorem dX10_shift_64 : decode cX10_shift 64 = .ok (.invokevirtual 83, 3) := by decide +kernel
theorem dX10_shift_67 : decode cX10_shift 67 = .ok (.ireturn, 1) := by decide +kernel
theorem dX10_shift_68 : decode cX10_shift 68 = .ok (.aload_n 0, 1) := by decide +kernel
theorem dX10_shift_69 : decode cX10_shift 69 = .ok (.getfield 7, 3) := by decide +kernel
theorem dX10_shift_72 : decode cX10_shift 72 = .ok (.iload_n 1, 1) := by decide +kernel
theorem dX10_shift_73 : decode cX10_shift 73 = .ok (.iload 5, 2) := by decide +kernel
theorem dX10_shift_75 : decode cX10_shift 75 = .ok (.iadd, 1) := by decide +kernel
theorem dX10_shift_76 : decode cX10_shift 76 = .ok (.iaload, 1) := by decide +kernel
theorem dX10_shift_77 : decode cX10_shift 77 = .ok (.iconst (-1), 1) := by decide +kernel
theorem dX10_shift_78 : decode cX10_shift 78 = .ok (.if_icmp .ne 9, 3) := by decide +kernel
theorem dX10_shift_81 : decode cX10_shift 81 = .ok (.aload_n 0, 1) := by decide +kernel
theorem dX10_shift_82 : decode cX10_shift 82 = .ok (.iconst 1, 1) := by decide +kernel
theorem dX10_shift_83 : decode cX10_shift 83 = .ok (.invokevirtual 83, 3) := by decide +kernel
theorem dX10_shift_86 : decode cX10_shift 86 = .ok (.ireturn, 1) := by decide +kernel
theorem dX10_shift_87 : decode cX10_shift 87 = .ok (.aload_n 0, 1) := by decide +kernel
theorem dX10_shift_88 : decode cX10_shift 88 = .ok (.aload_n 0, 1) := by decide +kernel
theorem dX10_shift_89 : decode cX10_shift 89 = .ok (.getfield 7, 3) := by decide +kernel
theorem dX10_shift_92 : decode cX10_shift 92 = .ok (.iload_n 1, 1) := by decide +kernel
theorem dX10_shift_93 : decode cX10_shift 93 = .ok (.iload 5, 2) := by decide +kernel
theorem dX10_shift_95 : decode cX10_shift 95 = .ok (.iadd, 1) := by decide +kernel
theorem dX10_shift_96 : decode cX10_shift 96 = .ok (.iaload, 1) := by decide +kernel
theorem dX10_shift_97 : decode cX10_shift 97 = .ok (.iload_n 3, 1) := by decide +kernel
theorem dX10_shift_98 : decode cX10_shift 98 = .ok (.invokevirtual 96, 3) := by decide +kernel
theorem dX10_shift_101 : decode cX10_shift 101 = .ok (.istore 6, 2) := by decide +kernel
theorem dX10_shift_103 : decode cX10_shift 103 = .ok (.aload_n 0, 1) := by decide +kernel
theorem dX10_shift_104 : decode cX10_shift 104 = .ok (.getfield 29, 3) := by decide +kernel
theorem dX10_shift_107 : decode cX10_shift 107 = .ok (.iload 4, 2) := by decide +kernel
theorem dX10_shift_109 : decode cX10_shift 109 = .ok (.iaload, 1) := by decide +kernel
theorem dX10_shift_110 : decode cX10_shift 110 = .ok (.ifCond .ge 9, 3) := by decide +kernel
theorem dX10_shift_113 : decode cX10_shift 113 = .ok (.aload_n 0, 1) := by decide +kernel
theorem dX10_shift_114 : decode cX10_shift 114 = .ok (.iconst 1, 1) := by decide +kernel
theorem dX10_shift_115 : decode cX10_shift 115 = .ok (.invokevirtual 83, 3) := by decide +kernel
theorem dX10_shift_118 : decode cX10_shift 118 = .ok (.ireturn, 1) := by decide +kernel
theorem dX10_shift_119 : decode cX10_shift 119 = .ok (.iload 5, 2) := by decide +kernel
theorem dX10_shift_121 : decode cX10_shift 121 = .ok (.aload_n 0, 1) := by decide +kernel
theorem dX10_shift_122 : decode cX10_shift 122 = .ok (.getfield 29, 3) := by decide +kernel
theorem dX10_shift_125 : decode cX10_shift 125 = .ok (.iload 4, 2) := by decide +kernel
theorem dX10_shift_127 : decode cX10_shift 127 = .ok (.iaload, 1) := by decide +kernel
theorem dX10_shift_128 : decode cX10_shift 128 = .ok (.if_icmp .lt 9, 3) := by decide +kernel
theorem dX10_shift_131 : decode cX10_shift 131 = .ok (.aload_n 0, 1) := by decide +kernel
theorem dX10_shift_132 : decode cX10_shift 132 = .ok (.iconst 2, 1) := by decide +kernel
theorem dX10_shift_133 : decode cX10_shift 133 = .ok (.invokevirtual 83, 3) := by decide +kernel
theorem dX10_shift_136 : decode cX10_shift 136 = .ok (.ireturn, 1) := by decide +kernel
theorem dX10_shift_137 : decode cX10_shift 137 = .ok (.aload_n 0, 1) := by decide +kernel
theorem dX10_shift_138 : decode cX10_shift 138 = .ok (.getfield 32, 3) := by decide +kernel
theorem dX10_shift_141 : decode cX10_shift 141 = .ok (.bipush 20, 2) := by decide +kernel
theorem dX10_shift_143 : decode cX10_shift 143 = .ok (.iload 4, 2) := by decide +kernel
theorem dX10_shift_145 : decode cX10_shift 145 = .ok (.imul, 1) := by decide +kernel
theorem dX10_shift_146 : decode cX10_shift 146 = .ok (.iload 5, 2) := by decide +kernel
theorem dX10_shift_148 : decode cX10_shift 148 = .ok (.iadd, 1) := by decide +kernel
theorem dX10_shift_149 : decode cX10_shift 149 = .ok (.iload 6, 2) := by decide +kernel
theorem dX10_shift_151 : decode cX10_shift 151 = .ok (.iastore, 1) := by decide +kernel
theorem dX10_shift_152 : decode cX10_shift 152 = .ok (.iinc 5 1, 3) := by decide +kernel
theorem dX10_shift_155 : decode cX10_shift 155 = .ok (.goto (-108), 3) := by decide +kernel
theorem dX10_shift_158 : decode cX10_shift 158 = .ok (.aload_n 0, 1) := by decide +kernel
theorem dX10_shift_159 : decode cX10_shift 159 = .ok (.iload_n 2, 1) := by decide +kernel
theorem dX10_shift_160 : decode cX10_shift 160 = .ok (.invokevirtual 80, 3) := by decide +kernel
theorem dX10_shift_163 : decode cX10_shift 163 = .ok (.ireturn, 1) := by decide +kernel
theorem dX10_tray_0 : decode cX10_tray 0 = .ok (.iload_n 1, 1) := by decide +kernel
theorem dX10_tray_1 : decode cX10_tray 1 = .ok (.iconst 0, 1) := by decide +kernel
theorem dX10_tray_2 : decode cX10_tray 2 = .ok (.iconst 3, 1) := by decide +kernel
theorem dX10_tray_3 : decode cX10_tray 3 = .ok (.invokestatic 69, 3) := by decide +kernel
theorem dX10_tray_6 : decode cX10_tray 6 = .ok (.ifCond .ne 10, 3) := by decide +kernel
theorem dX10_tray_9 : decode cX10_tray 9 = .ok (.aload_n 0, 1) := by decide +kernel
theorem dX10_tray_10 : decode cX10_tray 10 = .ok (.bipush (-2), 2) := by decide +kernel
theorem dX10_tray_12 : decode cX10_tray 12 = .ok (.invokevirtual 73, 3) := by decide +kernel
theorem dX10_tray_15 : decode cX10_tray 15 = .ok (.ireturn, 1) := by decide +kernel
theorem dX10_tray_16 : decode cX10_tray 16 = .ok (.iload_n 2, 1) := by decide +kernel
theorem dX10_tray_17 : decode cX10_tray 17 = .ok (.bipush 20, 2) := by decide +kernel
theorem dX10_tray_19 : decode cX10_tray 19 = .ok (.if_icmp .le 10, 3) := by decide +kernel
theorem dX10_tray_22 : decode cX10_tray 22 = .ok (.aload_n 0, 1) := by decide +kernel
theorem dX10_tray_23 : decode cX10_tray 23 = .ok (.bipush (-3), 2) := by decide +kernel
theorem dX10_tray_25 : decode cX10_tray 25 = .ok (.invokevirtual 73, 3) := by decide +kernel
theorem dX10_tray_28 : decode cX10_tray 28 = .ok (.ireturn, 1) := by decide +kernel
theorem dX10_tray_29 : decode cX10_tray 29 = .ok (.iload_n 2, 1) := by decide +kernel
theorem dX10_tray_30 : decode cX10_tray 30 = .ok (.ifCond .ge 9, 3) := by decide +kernel
theorem dX10_tray_33 : decode cX10_tray 33 = .ok (.aload_n 0, 1) := by decide +kernel
theorem dX10_tray_34 : decode cX10_tray 34 = .ok (.iconst 3, 1) := by decide +kernel
theorem dX10_tray_35 : decode cX10_tray 35 = .ok (.invokevirtual 83, 3) := by decide +kernel
theorem dX10_tray_38 : decode cX10_tray 38 = .ok (.ireturn, 1) := by decide +kernel
theorem dX10_tray_39 : decode cX10_tray 39 = .ok (.aload_n 0, 1) := by decide +kernel
theorem dX10_tray_40 : decode cX10_tray 40 = .ok (.getfield 29, 3) := by decide +kernel
theorem dX10_tray_43 : decode cX10_tray 43 = .ok (.iload_n 1, 1) := by decide +kernel
theorem dX10_tray_44 : decode cX10_tray 44 = .ok (.iload_n 2, 1) := by decide +kernel
theorem dX10_tray_45 : decode cX10_tray 45 = .ok (.iastore, 1) := by decide +kernel
theorem dX10_tray_46 : decode cX10_tray 46 = .ok (.iconst 0, 1) := by decide +kernel
theorem dX10_tray_47 : decode cX10_tray 47 = .ok (.istore_n 3, 1) := by decide +kernel
theorem dX10_tray_48 : decode cX10_tray 48 = .ok (.iload_n 3, 1) := by decide +kernel
theorem dX10_tray_49 : decode cX10_tray 49 = .ok (.iload_n 2, 1) := by decide +kernel
theorem dX10_tray_50 : decode cX10_tray 50 = .ok (.if_icmp .ge 21, 3) := by decide +kernel
theorem dX10_tray_53 : decode cX10_tray 53 = .ok (.aload_n 0, 1) := by decide +kernel
theorem dX10_tray_54 : decode cX10_tray 54 = .ok (.getfield 32, 3) := by decide +kernel
theorem dX10_tray_57 : decode cX10_tray 57 = .ok (.bipush 20, 2) := by decide +kernel
theorem dX10_tray_59 : decode cX10_tray 59 = .ok (.iload_n 1, 1) := by decide +kernel
theorem dX10_tray_60 : decode cX10_tray 60 = .ok (.imul, 1) := by decide +kernel
theorem dX10_tray_61 : decode cX10_tray 61 = .ok (.iload_n 3, 1) := by decide +kernel
theorem dX10_tray_62 : decode cX10_tray 62 = .ok (.iadd, 1) := by decide +kernel
theorem dX10_tray_63 : decode cX10_tray 63 = .ok (.iconst 0, 1) := by decide +kernel
theorem dX10_tray_64 : decode cX10_tray 64 = .ok (.iastore, 1) := by decide +kernel
theorem dX10_tray_65 : decode cX10_tray 65 = .ok (.iinc 3 1, 3) := by decide +kernel
theorem dX10_tray_68 : decode cX10_tray 68 = .ok (.goto (-20), 3) := by decide +kernel
theorem dX10_tray_71 : decode cX10_tray 71 = .ok (.aload_n 0, 1) := by decide +kernel
theorem dX10_tray_72 : decode cX10_tray 72 = .ok (.iload_n 2, 1) := by decide +kernel
theorem dX10_tray_73 : decode cX10_tray 73 = .ok (.invokevirtual 80, 3) := by decide +kernel
theorem dX10_tray_76 : decode cX10_tray 76 = .ok (.ireturn, 1) := by decide +kernel
theorem dX10_isThing_0 : decode cX10_isThing 0 = .ok (.iload_n 1, 1) := by decide +kernel
theorem dX10_isThing_1 : decode cX10_isThing 1 = .ok (.iconst 0, 1) := by decide +kernel
theorem dX10_isThing_2 : decode cX10_isThing 2 = .ok (.iload_n 0, 1) := by decide +kernel
theorem dX10_isThing_3 : decode cX10_isThing 3 = .ok (.iconst 2, 1) := by decide +kernel
theorem dX10_isThing_4 : decode cX10_isThing 4 = .ok (.if_icmp .ne 7, 3) := by decide +kernel
theorem dX10_isThing_7 : decode cX10_isThing 7 = .ok (.iconst 1, 1) := by decide +kernel
theorem dX10_isThing_8 : decode cX10_isThing 8 = .ok (.goto 4, 3) := by decide +kernel
theorem dX10_isThing_11 : decode cX10_isThing 11 = .ok (.iconst 3, 1) := by decide +kernel
theorem dX10_isThing_12 : decode cX10_isThing 12 = .ok (.invokestatic 69, 3) := by decide +kernel
theorem dX10_isThing_15 : decode cX10_isThing 15 = .ok (.ireturn, 1) := by decide +kernel
theorem dX10_sizeOf_0 : decode cX10_sizeOf 0 = .ok (.iload_n 1, 1) := by decide +kernel
theorem dX10_sizeOf_1 : decode cX10_sizeOf 1 = .ok (.ifCond .ne 12, 3) := by decide +kernel
theorem dX10_sizeOf_4 : decode cX10_sizeOf 4 = .ok (.aload_n 0, 1) := by decide +kernel
theorem dX10_sizeOf_5 : decode cX10_sizeOf 5 = .ok (.getfield 29, 3) := by decide +kernel
theorem dX10_sizeOf_8 : decode cX10_sizeOf 8 = .ok (.iload_n 2, 1) := by decide +kernel
theorem dX10_sizeOf_9 : decode cX10_sizeOf 9 = .ok (.iaload, 1) := by decide +kernel
theorem dX10_sizeOf_10 : decode cX10_sizeOf 10 = .ok (.goto 23, 3) := by decide +kernel
theorem dX10_sizeOf_13 : decode cX10_sizeOf 13 = .ok (.iload_n 1, 1) := by decide +kernel
theorem dX10_sizeOf_14 : decode cX10_sizeOf 14 = .ok (.iconst 1, 1) := by decide +kernel
theorem dX10_sizeOf_15 : decode cX10_sizeOf 15 = .ok (.if_icmp .ne 12, 3) := by decide +kernel
theorem dX10_sizeOf_18 : decode cX10_sizeOf 18 = .ok (.aload_n 0, 1) := by decide +kernel
theorem dX10_sizeOf_19 : decode cX10_sizeOf 19 = .ok (.getfield 35, 3) := by decide +kernel
theorem dX10_sizeOf_22 : decode cX10_sizeOf 22 = .ok (.iload_n 2, 1) := by decide +kernel
theorem dX10_sizeOf_23 : decode cX10_sizeOf 23 = .ok (.iaload, 1) := by decide +kernel
theorem dX10_sizeOf_24 : decode cX10_sizeOf 24 = .ok (.goto 9, 3) := by decide +kernel
theorem dX10_sizeOf_27 : decode cX10_sizeOf 27 = .ok (.aload_n 0, 1) := by decide +kernel
theorem dX10_sizeOf_28 : decode cX10_sizeOf 28 = .ok (.getfield 44, 3) := by decide +kernel
theorem dX10_sizeOf_31 : decode cX10_sizeOf 31 = .ok (.iload_n 2, 1) := by decide +kernel
theorem dX10_sizeOf_32 : decode cX10_sizeOf 32 = .ok (.iaload, 1) := by decide +kernel
theorem dX10_sizeOf_33 : decode cX10_sizeOf 33 = .ok (.ireturn, 1) := by decide +kernel
theorem dX10_lose_0 : decode cX10_lose 0 = .ok (.iload_n 1, 1) := by decide +kernel
theorem dX10_lose_1 : decode cX10_lose 1 = .ok (.iconst 0, 1) := by decide +kernel
theorem dX10_lose_2 : decode cX10_lose 2 = .ok (.iconst 2, 1) := by decide +kernel
theorem dX10_lose_3 : decode cX10_lose 3 = .ok (.invokestatic 69, 3) := by decide +kernel
theorem dX10_lose_6 : decode cX10_lose 6 = .ok (.ifCond .ne 10, 3) := by decide +kernel
theorem dX10_lose_9 : decode cX10_lose 9 = .ok (.aload_n 0, 1) := by decide +kernel
theorem dX10_lose_10 : decode cX10_lose 10 = .ok (.bipush (-3), 2) := by decide +kernel
theorem dX10_lose_12 : decode cX10_lose 12 = .ok (.invokevirtual 73, 3) := by decide +kernel
theorem dX10_lose_15 : decode cX10_lose 15 = .ok (.ireturn, 1) := by decide +kernel
theorem dX10_lose_16 : decode cX10_lose 16 = .ok (.iload_n 1, 1) := by decide +kernel
theorem dX10_lose_17 : decode cX10_lose 17 = .ok (.iload_n 2, 1) := by decide +kernel
theorem dX10_lose_18 : decode cX10_lose 18 = .ok (.invokestatic 100, 3) := by decide +kernel
theorem dX10_lose_21 : decode cX10_lose 21 = .ok (.ifCond .ne 10, 3) := by decide +kernel
theorem dX10_lose_24 : decode cX10_lose 24 = .ok (.aload_n 0, 1) := by decide +kernel
theorem dX10_lose_25 : decode cX10_lose 25 = .ok (.bipush (-2), 2) := by decide +kernel
theorem dX10_lose_27 : decode cX10_lose 27 = .ok (.invokevirtual 73, 3) := by decide +kernel
theorem dX10_lose_30 : decode cX10_lose 30 = .ok (.ireturn, 1) := by decide +kernel
theorem dX10_lose_31 : decode cX10_lose 31 = .ok (.aload_n 0, 1) := by decide +kernel
theorem dX10_lose_32 : decode cX10_lose 32 = .ok (.iload_n 1, 1) := by decide +kernel
theorem dX10_lose_33 : decode cX10_lose 33 = .ok (.iload_n 2, 1) := by decide +kernel
theorem dX10_lose_34 : decode cX10_lose 34 = .ok (.invokevirtual 104, 3) := by decide +kernel
theorem dX10_lose_37 : decode cX10_lose 37 = .ok (.ifCond .ge 7, 3) := by decide +kernel
theorem dX10_lose_40 : decode cX10_lose 40 = .ok (.iconst 0, 1) := by decide +kernel
theorem dX10_lose_41 : decode cX10_lose 41 = .ok (.goto 4, 3) := by decide +kernel
theorem dX10_lose_44 : decode cX10_lose 44 = .ok (.iconst 1, 1) := by decide +kernel
theorem dX10_lose_45 : decode cX10_lose 45 = .ok (.istore_n 3, 1) := by decide +kernel
theorem dX10_lose_46 : decode cX10_lose 46 = .ok (.iload_n 1, 1) := by decide +kernel
theorem dX10_lose_47 : decode cX10_lose 47 = .ok (.ifCond .ne 13, 3) := by decide +kernel
theorem dX10_lose_50 : decode cX10_lose 50 = .ok (.aload_n 0, 1) := by decide +kernel
theorem dX10_lose_51 : decode cX10_lose 51 = .ok (.getfield 29, 3) := by decide +kernel
theorem dX10_lose_54 : decode cX10_lose 54 = .ok (.iload_n 2, 1) := by decide +kernel
theorem dX10_lose_55 : decode cX10_lose 55 = .ok (.iconst (-1), 1) := by decide +kernel
theorem dX10_lose_56 : decode cX10_lose 56 = .ok (.iastore, 1) := by decide +kernel
theorem dX10_lose_57 : decode cX10_lose 57 = .ok (.goto 25, 3) := by decide +kernel
theorem dX10_lose_60 : decode cX10_lose 60 = .ok (.iload_n 1, 1) := by decide +kernel
theorem dX10_lose_61 : decode cX10_lose 61 = .ok (.iconst 1, 1) := by decide +kernel
theorem dX10_lose_62 : decode cX10_lose 62 = .ok (.if_icmp .ne 13, 3) := by decide +kernel
theorem dX10_lose_65 : decode cX10_lose 65 = .ok (.aload_n 0, 1) := by decide +kernel
theorem dX10_lose_66 : decode cX10_lose 66 = .ok (.getfield 35, 3) := by decide +kernel
theorem dX10_lose_69 : decode cX10_lose 69 = .ok (.iload_n 2, 1) := by decide +kernel
theorem dX10_lose_70 : decode cX10_lose 70 = .ok (.iconst (-1), 1) := by decide +kernel
theorem dX10_lose_71 : decode cX10_lose 71 = .ok (.iastore, 1) := by decide +kernel
theorem dX10_lose_72 : decode cX10_lose 72 = .ok (.goto 10, 3) := by decide +kernel
theorem dX10_lose_75 : decode cX10_lose 75 = .ok (.aload_n 0, 1) := by decide +kernel
theorem dX10_lose_76 : decode cX10_lose 76 = .ok (.getfield 44, 3) := by decide +kernel
theorem dX10_lose_79 : decode cX10_lose 79 = .ok (.iload_n 2, 1) := by decide +kernel
theorem dX10_lose_80 : decode cX10_lose 80 = .ok (.iconst (-1), 1) := by decide +kernel
theorem dX10_lose_81 : decode cX10_lose 81 = .ok (.iastore, 1) := by decide +kernel
theorem dX10_lose_82 : decode cX10_lose 82 = .ok (.aload_n 0, 1) := by decide +kernel
theorem dX10_lose_83 : decode cX10_lose 83 = .ok (.iload_n 3, 1) := by decide +kernel
theorem dX10_lose_84 : decode cX10_lose 84 = .ok (.invokevirtual 80, 3) := by decide +kernel
theorem dX10_lose_87 : decode cX10_lose 87 = .ok (.ireturn, 1) := by decide +kernel
theorem dX10_lacks_0 : decode cX10_lacks 0 = .ok (.iload_n 0, 1) := by decide +kernel
theorem dX10_lacks_1 : decode cX10_lacks 1 = .ok (.ifCond .ge 7, 3) := by decide +kernel
theorem dX10_lacks_4 : decode cX10_lacks 4 = .ok (.iconst 1, 1) := by decide +kernel
theorem dX10_lacks_5 : decode cX10_lacks 5 = .ok (.goto 19, 3) := by decide +kernel
theorem dX10_lacks_8 : decode cX10_lacks 8 = .ok (.iload_n 1, 1) := by decide +kernel
theorem dX10_lacks_9 : decode cX10_lacks 9 = .ok (.iconst 0, 1) := by decide +kernel
theorem dX10_lacks_10 : decode cX10_lacks 10 = .ok (.iload_n 0, 1) := by decide +kernel
theorem dX10_lacks_11 : decode cX10_lacks 11 = .ok (.iconst 1, 1) := by decide +kernel
theorem dX10_lacks_12 : decode cX10_lacks 12 = .ok (.isub, 1) := by decide +kernel
theorem dX10_lacks_13 : decode cX10_lacks 13 = .ok (.invokestatic 69, 3) := by decide +kernel
theorem dX10_lacks_16 : decode cX10_lacks 16 = .ok (.ifCond .eq 7, 3) := by decide +kernel
theorem dX10_lacks_19 : decode cX10_lacks 19 = .ok (.iconst 0, 1) := by decide +kernel
theorem dX10_lacks_20 : decode cX10_lacks 20 = .ok (.goto 4, 3) := by decide +kernel
theorem dX10_lacks_23 : decode cX10_lacks 23 = .ok (.iconst 2, 1) := by decide +kernel
theorem dX10_lacks_24 : decode cX10_lacks 24 = .ok (.ireturn, 1) := by decide +kernel
theorem dX10_put_0 : decode cX10_put 0 = .ok (.iload_n 1, 1) := by decide +kernel
theorem dX10_put_1 : decode cX10_put 1 = .ok (.iconst 0, 1) := by decide +kernel
theorem dX10_put_2 : decode cX10_put 2 = .ok (.iconst 3, 1) := by decide +kernel
theorem dX10_put_3 : decode cX10_put 3 = .ok (.invokestatic 69, 3) := by decide +kernel
theorem dX10_put_6 : decode cX10_put 6 = .ok (.ifCond .ne 10, 3) := by decide +kernel
theorem dX10_put_9 : decode cX10_put 9 = .ok (.aload_n 0, 1) := by decide +kernel
theorem dX10_put_10 : decode cX10_put 10 = .ok (.bipush (-2), 2) := by decide +kernel
theorem dX10_put_12 : decode cX10_put 12 = .ok (.invokevirtual 73, 3) := by decide +kernel
theorem dX10_put_15 : decode cX10_put 15 = .ok (.ireturn, 1) := by decide +kernel
theorem dX10_put_16 : decode cX10_put 16 = .ok (.aload_n 0, 1) := by decide +kernel
theorem dX10_put_17 : decode cX10_put 17 = .ok (.getfield 29, 3) := by decide +kernel
theorem dX10_put_20 : decode cX10_put 20 = .ok (.iload_n 1, 1) := by decide +kernel
theorem dX10_put_21 : decode cX10_put 21 = .ok (.iaload, 1) := by decide +kernel
theorem dX10_put_22 : decode cX10_put 22 = .ok (.iload_n 2, 1) := by decide +kernel
theorem dX10_put_23 : decode cX10_put 23 = .ok (.invokestatic 107, 3) := by decide +kernel
theorem dX10_put_26 : decode cX10_put 26 = .ok (.istore 4, 2) := by decide +kernel
theorem dX10_put_28 : decode cX10_put 28 = .ok (.iload 4, 2) := by decide +kernel
theorem dX10_put_30 : decode cX10_put 30 = .ok (.ifCond .eq 10, 3) := by decide +kernel
theorem dX10_put_33 : decode cX10_put 33 = .ok (.aload_n 0, 1) := by decide +kernel
theorem dX10_put_34 : decode cX10_put 34 = .ok (.iload 4, 2) := by decide +kernel
theorem dX10_put_36 : decode cX10_put 36 = .ok (.invokevirtual 83, 3) := by decide +kernel
theorem dX10_put_39 : decode cX10_put 39 = .ok (.ireturn, 1) := by decide +kernel
theorem dX10_put_40 : decode cX10_put 40 = .ok (.aload_n 0, 1) := by decide +kernel
theorem dX10_put_41 : decode cX10_put 41 = .ok (.getfield 32, 3) := by decide +kernel
theorem dX10_put_44 : decode cX10_put 44 = .ok (.bipush 20, 2) := by decide +kernel
theorem dX10_put_46 : decode cX10_put 46 = .ok (.iload_n 1, 1) := by decide +kernel
theorem dX10_put_47 : decode cX10_put 47 = .ok (.imul, 1) := by decide +kernel
theorem dX10_put_48 : decode cX10_put 48 = .ok (.iload_n 2, 1) := by decide +kernel
theorem dX10_put_49 : decode cX10_put 49 = .ok (.iadd, 1) := by decide +kernel
theorem dX10_put_50 : decode cX10_put 50 = .ok (.iload_n 3, 1) := by decide +kernel
theorem dX10_put_51 : decode cX10_put 51 = .ok (.iastore, 1) := by decide +kernel
theorem dX10_put_52 : decode cX10_put 52 = .ok (.aload_n 0, 1) := by decide +kernel
theorem dX10_put_53 : decode cX10_put 53 = .ok (.iconst 1, 1) := by decide +kernel
theorem dX10_put_54 : decode cX10_put 54 = .ok (.invokevirtual 80, 3) := by decide +kernel
theorem dX10_put_57 : decode cX10_put 57 = .ok (.ireturn, 1) := by decide +kernel
theorem dX10_get_0 : decode cX10_get 0 = .ok (.aload_n 0, 1) := by decide +kernel
theorem dX10_get_1 : decode cX10_get 1 = .ok (.iload_n 1, 1) := by decide +kernel
theorem dX10_get_2 : decode cX10_get 2 = .ok (.iconst 0, 1) := by decide +kernel
theorem dX10_get_3 : decode cX10_get 3 = .ok (.iconst 3, 1) := by decide +kernel
theorem dX10_get_4 : decode cX10_get 4 = .ok (.invokestatic 69, 3) := by decide +kernel
theorem dX10_get_7 : decode cX10_get 7 = .ok (.ifCond .eq 7, 3) := by decide +kernel
theorem dX10_get_10 : decode cX10_get 10 = .ok (.iconst 0, 1) := by decide +kernel
theorem dX10_get_11 : decode cX10_get 11 = .ok (.goto 5, 3) := by decide +kernel
theorem dX10_get_14 : decode cX10_get 14 = .ok (.bipush (-2), 2) := by decide +kernel
theorem dX10_get_16 : decode cX10_get 16 = .ok (.putfield 62, 3) := by decide +kernel
theorem dX10_get_19 : decode cX10_get 19 = .ok (.aload_n 0, 1) := by decide +kernel
theorem dX10_get_20 : decode cX10_get 20 = .ok (.getfield 62, 3) := by decide +kernel
theorem dX10_get_23 : decode cX10_get 23 = .ok (.ifCond .eq 5, 3) := by decide +kernel
theorem dX10_get_26 : decode cX10_get 26 = .ok (.iconst 0, 1) := by decide +kernel
theorem dX10_get_27 : decode cX10_get 27 = .ok (.ireturn, 1) := by decide +kernel
theorem dX10_get_28 : decode cX10_get 28 = .ok (.aload_n 0, 1) := by decide +kernel
theorem dX10_get_29 : decode cX10_get 29 = .ok (.getfield 29, 3) := by decide +kernel
theorem dX10_get_32 : decode cX10_get 32 = .ok (.iload_n 1, 1) := by decide +kernel
theorem dX10_get_33 : decode cX10_get 33 = .ok (.iaload, 1) := by decide +kernel
theorem dX10_get_34 : decode cX10_get 34 = .ok (.iload_n 2, 1) := by decide +kernel
theorem dX10_get_35 : decode cX10_get 35 = .ok (.invokestatic 107, 3) := by decide +kernel
theorem dX10_get_38 : decode cX10_get 38 = .ok (.istore_n 3, 1) := by decide +kernel
theorem dX10_get_39 : decode cX10_get 39 = .ok (.iload_n 3, 1) := by decide +kernel
theorem dX10_get_40 : decode cX10_get 40 = .ok (.ifCond .eq 11, 3) := by decide +kernel
theorem dX10_get_43 : decode cX10_get 43 = .ok (.aload_n 0, 1) := by decide +kernel
theorem dX10_get_44 : decode cX10_get 44 = .ok (.iload_n 3, 1) := by decide +kernel
theorem dX10_get_45 : decode cX10_get 45 = .ok (.invokevirtual 83, 3) := by decide +kernel
theorem dX10_get_48 : decode cX10_get 48 = .ok (.istore_n 3, 1) := by decide +kernel
theorem dX10_get_49 : decode cX10_get 49 = .ok (.iconst 0, 1) := by decide +kernel
theorem dX10_get_50 : decode cX10_get 50 = .ok (.ireturn, 1) := by decide +kernel
theorem dX10_get_51 : decode cX10_get 51 = .ok (.aload_n 0, 1) := by decide +kernel
theorem dX10_get_52 : decode cX10_get 52 = .ok (.getfield 32, 3) := by decide +kernel
theorem dX10_get_55 : decode cX10_get 55 = .ok (.bipush 20, 2) := by decide +kernel
theorem dX10_get_57 : decode cX10_get 57 = .ok (.iload_n 1, 1) := by decide +kernel
theorem dX10_get_58 : decode cX10_get 58 = .ok (.imul, 1) := by decide +kernel
theorem dX10_get_59 : decode cX10_get 59 = .ok (.iload_n 2, 1) := by decide +kernel
theorem dX10_get_60 : decode cX10_get 60 = .ok (.iadd, 1) := by decide +kernel
theorem dX10_get_61 : decode cX10_get 61 = .ok (.iaload, 1) := by decide +kernel
theorem dX10_get_62 : decode cX10_get 62 = .ok (.ireturn, 1) := by decide +kernel
theorem dX10_length_0 : decode cX10_length 0 = .ok (.iload_n 1, 1) := by decide +kernel
theorem dX10_length_1 : decode cX10_length 1 = .ok (.iconst 0, 1) := by decide +kernel
theorem dX10_length_2 : decode cX10_length 2 = .ok (.iconst 2, 1) := by decide +kernel
theorem dX10_length_3 : decode cX10_length 3 = .ok (.invokestatic 69, 3) := by decide +kernel
theorem dX10_length_6 : decode cX10_length 6 = .ok (.ifCond .ne 10, 3) := by decide +kernel
theorem dX10_length_9 : decode cX10_length 9 = .ok (.aload_n 0, 1) := by decide +kernel
theorem dX10_length_10 : decode cX10_length 10 = .ok (.bipush (-3), 2) := by decide +kernel
theorem dX10_length_12 : decode cX10_length 12 = .ok (.invokevirtual 73, 3) := by decide +kernel
theorem dX10_length_15 : decode cX10_length 15 = .ok (.ireturn, 1) := by decide +kernel
theorem dX10_length_16 : decode cX10_length 16 = .ok (.iload_n 1, 1) := by decide +kernel
theorem dX10_length_17 : decode cX10_length 17 = .ok (.iload_n 2, 1) := by decide +kernel
theorem dX10_length_18 : decode cX10_length 18 = .ok (.invokestatic 100, 3) := by decide +kernel
theorem dX10_length_21 : decode cX10_length 21 = .ok (.ifCond .ne 10, 3) := by decide +kernel
theorem dX10_length_24 : decode cX10_length 24 = .ok (.aload_n 0, 1) := by decide +kernel
theorem dX10_length_25 : decode cX10_length 25 = .ok (.bipush (-2), 2) := by decide +kernel
theorem dX10_length_27 : decode cX10_length 27 = .ok (.invokevirtual 73, 3) := by decide +kernel
theorem dX10_length_30 : decode cX10_length 30 = .ok (.ireturn, 1) := by decide +kernel
theorem dX10_length_31 : decode cX10_length 31 = .ok (.aload_n 0, 1) := by decide +kernel
theorem dX10_length_32 : decode cX10_length 32 = .ok (.iload_n 1, 1) := by decide +kernel
theorem dX10_length_33 : decode cX10_length 33 = .ok (.iload_n 2, 1) := by decide +kernel
theorem dX10_length_34 : decode cX10_length 34 = .ok (.invokevirtual 104, 3) := by decide +kernel
theorem dX10_length_37 : decode cX10_length 37 = .ok (.ifCond .ge 11, 3) := by decide +kernel
theorem dX10_length_40 : decode cX10_length 40 = .ok (.aload_n 0, 1) := by decide +kernel
theorem dX10_length_41 : decode cX10_length 41 = .ok (.iconst 1, 1) := by decide +kernel
theorem dX10_length_42 : decode cX10_length 42 = .ok (.invokevirtual 83, 3) := by decide +kernel
theorem dX10_length_45 : decode cX10_length 45 = .ok (.goto 13, 3) := by decide +kernel
theorem dX10_length_48 : decode cX10_length 48 = .ok (.aload_n 0, 1) := by decide +kernel
theorem dX10_length_49 : decode cX10_length 49 = .ok (.aload_n 0, 1) := by decide +kernel
theorem dX10_length_50 : decode cX10_length 50 = .ok (.iload_n 1, 1) := by decide +kernel
theorem dX10_length_51 : decode cX10_length 51 = .ok (.iload_n 2, 1) := by decide +kernel
theorem dX10_length_52 : decode cX10_length 52 = .ok (.invokevirtual 104, 3) := by decide +kernel
theorem dX10_length_55 : decode cX10_length 55 = .ok (.invokevirtual 80, 3) := by decide +kernel
theorem dX10_length_58 : decode cX10_length 58 = .ok (.ireturn, 1) := by decide +kernel
theorem dX10_rack_0 : decode cX10_rack 0 = .ok (.iload_n 1, 1) := by decide +kernel
theorem dX10_rack_1 : decode cX10_rack 1 = .ok (.iconst 0, 1) := by decide +kernel
theorem dX10_rack_2 : decode cX10_rack 2 = .ok (.iconst 3, 1) := by decide +kernel
theorem dX10_rack_3 : decode cX10_rack 3 = .ok (.invokestatic 69, 3) := by decide +kernel
theorem dX10_rack_6 : decode cX10_rack 6 = .ok (.ifCond .ne 10, 3) := by decide +kernel
theorem dX10_rack_9 : decode cX10_rack 9 = .ok (.aload_n 0, 1) := by decide +kernel
theorem dX10_rack_10 : decode cX10_rack 10 = .ok (.bipush (-2), 2) := by decide +kernel
theorem dX10_rack_12 : decode cX10_rack 12 = .ok (.invokevirtual 73, 3) := by decide +kernel
theorem dX10_rack_15 : decode cX10_rack 15 = .ok (.ireturn, 1) := by decide +kernel
theorem dX10_rack_16 : decode cX10_rack 16 = .ok (.iload_n 2, 1) := by decide +kernel
theorem dX10_rack_17 : decode cX10_rack 17 = .ok (.iconst 0, 1) := by decide +kernel
theorem dX10_rack_18 : decode cX10_rack 18 = .ok (.iconst 2, 1) := by decide +kernel
theorem dX10_rack_19 : decode cX10_rack 19 = .ok (.invokestatic 69, 3) := by decide +kernel
theorem dX10_rack_22 : decode cX10_rack 22 = .ok (.ifCond .eq 9, 3) := by decide +kernel
theorem dX10_rack_25 : decode cX10_rack 25 = .ok (.iload_n 3, 1) := by decide +kernel
theorem dX10_rack_26 : decode cX10_rack 26 = .ok (.bipush 10, 2) := by decide +kernel
theorem dX10_rack_28 : decode cX10_rack 28 = .ok (.if_icmp .le 10, 3) := by decide +kernel
theorem dX10_rack_31 : decode cX10_rack 31 = .ok (.aload_n 0, 1) := by decide +kernel
theorem dX10_rack_32 : decode cX10_rack 32 = .ok (.bipush (-3), 2) := by decide +kernel
theorem dX10_rack_34 : decode cX10_rack 34 = .ok (.invokevirtual 73, 3) := by decide +kernel
theorem dX10_rack_37 : decode cX10_rack 37 = .ok (.ireturn, 1) := by decide +kernel
theorem dX10_rack_38 : decode cX10_rack 38 = .ok (.iload_n 3, 1) := by decide +kernel
theorem dX10_rack_39 : decode cX10_rack 39 = .ok (.ifCond .ge 9, 3) := by decide +kernel
theorem dX10_rack_42 : decode cX10_rack 42 = .ok (.aload_n 0, 1) := by decide +kernel
theorem dX10_rack_43 : decode cX10_rack 43 = .ok (.iconst 3, 1) := by decide +kernel
theorem dX10_rack_44 : decode cX10_rack 44 = .ok (.invokevirtual 83, 3) := by decide +kernel
theorem dX10_rack_47 : decode cX10_rack 47 = .ok (.ireturn, 1) := by decide +kernel
theorem dX10_rack_48 : decode cX10_rack 48 = .ok (.aload_n 0, 1) := by decide +kernel
theorem dX10_rack_49 : decode cX10_rack 49 = .ok (.getfield 35, 3) := by decide +kernel
theorem dX10_rack_52 : decode cX10_rack 52 = .ok (.iload_n 1, 1) := by decide +kernel
theorem dX10_rack_53 : decode cX10_rack 53 = .ok (.iload_n 3, 1) := by decide +kernel
theorem dX10_rack_54 : decode cX10_rack 54 = .ok (.iastore, 1) := by decide +kernel
theorem dX10_rack_55 : decode cX10_rack 55 = .ok (.aload_n 0, 1) := by decide +kernel
theorem dX10_rack_56 : decode cX10_rack 56 = .ok (.getfield 38, 3) := by decide +kernel
theorem dX10_rack_59 : decode cX10_rack 59 = .ok (.iload_n 1, 1) := by decide +kernel
theorem dX10_rack_60 : decode cX10_rack 60 = .ok (.iload_n 2, 1) := by decide +kernel
theorem dX10_rack_61 : decode cX10_rack 61 = .ok (.iastore, 1) := by decide +kernel
theorem dX10_rack_62 : decode cX10_rack 62 = .ok (.iconst 0, 1) := by decide +kernel
theorem dX10_rack_63 : decode cX10_rack 63 = .ok (.istore 4, 2) := by decide +kernel
theorem dX10_rack_65 : decode cX10_rack 65 = .ok (.iload 4, 2) := by decide +kernel
theorem dX10_rack_67 : decode cX10_rack 67 = .ok (.iload_n 3, 1) := by decide +kernel
theorem dX10_rack_68 : decode cX10_rack 68 = .ok (.if_icmp .ge 22, 3) := by decide +kernel
theorem dX10_rack_71 : decode cX10_rack 71 = .ok (.aload_n 0, 1) := by decide +kernel
theorem dX10_rack_72 : decode cX10_rack 72 = .ok (.getfield 41, 3) := by decide +kernel
theorem dX10_rack_75 : decode cX10_rack 75 = .ok (.bipush 10, 2) := by decide +kernel
theorem dX10_rack_77 : decode cX10_rack 77 = .ok (.iload_n 1, 1) := by decide +kernel
theorem dX10_rack_78 : decode cX10_rack 78 = .ok (.imul, 1) := by decide +kernel
theorem dX10_rack_79 : decode cX10_rack 79 = .ok (.iload 4, 2) := by decide +kernel
theorem dX10_rack_81 : decode cX10_rack 81 = .ok (.iadd, 1) := by decide +kernel
theorem dX10_rack_82 : decode cX10_rack 82 = .ok (.iconst (-1), 1) := by decide +kernel
theorem dX10_rack_83 : decode cX10_rack 83 = .ok (.iastore, 1) := by decide +kernel
theorem dX10_rack_84 : decode cX10_rack 84 = .ok (.iinc 4 1, 3) := by decide +kernel
theorem dX10_rack_87 : decode cX10_rack 87 = .ok (.goto (-22), 3) := by decide +kernel
theorem dX10_rack_90 : decode cX10_rack 90 = .ok (.aload_n 0, 1) := by decide +kernel
theorem dX10_rack_91 : decode cX10_rack 91 = .ok (.iload_n 3, 1) := by decide +kernel
theorem dX10_rack_92 : decode cX10_rack 92 = .ok (.invokevirtual 80, 3) := by decide +kernel
theorem dX10_rack_95 : decode cX10_rack 95 = .ok (.ireturn, 1) := by decide +kernel
theorem dX10_isOf_0 : decode cX10_isOf 0 = .ok (.iload_n 1, 1) := by decide +kernel
theorem dX10_isOf_1 : decode cX10_isOf 1 = .ok (.iconst (-1), 1) := by decide +kernel
theorem dX10_isOf_2 : decode cX10_isOf 2 = .ok (.if_icmp .eq 37, 3) := by decide +kernel
theorem dX10_isOf_5 : decode cX10_isOf 5 = .ok (.iload_n 2, 1) := by decide +kernel
theorem dX10_isOf_6 : decode cX10_isOf 6 = .ok (.ifCond .eq 33, 3) := by decide +kernel
theorem dX10_isOf_9 : decode cX10_isOf 9 = .ok (.iload_n 2, 1) := by decide +kernel
theorem dX10_isOf_10 : decode cX10_isOf 10 = .ok (.iconst 1, 1) := by decide +kernel
theorem dX10_isOf_11 : decode cX10_isOf 11 = .ok (.if_icmp .ne 18, 3) := by decide +kernel
theorem dX10_isOf_14 : decode cX10_isOf 14 = .ok (.aload_n 0, 1) := by decide +kernel
theorem dX10_isOf_15 : decode cX10_isOf 15 = .ok (.getfield 13, 3) := by decide +kernel
theorem dX10_isOf_18 : decode cX10_isOf 18 = .ok (.iload_n 1, 1) := by decide +kernel
theorem dX10_isOf_19 : decode cX10_isOf 19 = .ok (.iaload, 1) := by decide +kernel
theorem dX10_isOf_20 : decode cX10_isOf 20 = .ok (.invokestatic 86, 3) := by decide +kernel
theorem dX10_isOf_23 : decode cX10_isOf 23 = .ok (.ifCond .eq 20, 3) := by decide +kernel
theorem dX10_isOf_26 : decode cX10_isOf 26 = .ok (.goto 13, 3) := by decide +kernel
theorem dX10_isOf_29 : decode cX10_isOf 29 = .ok (.aload_n 0, 1) := by decide +kernel
theorem dX10_isOf_30 : decode cX10_isOf 30 = .ok (.getfield 13, 3) := by decide +kernel
theorem dX10_isOf_33 : decode cX10_isOf 33 = .ok (.iload_n 1, 1) := by decide +kernel
theorem dX10_isOf_34 : decode cX10_isOf 34 = .ok (.iaload, 1) := by decide +kernel
theorem dX10_isOf_35 : decode cX10_isOf 35 = .ok (.iconst 3, 1) := by decide +kernel
theorem dX10_isOf_36 : decode cX10_isOf 36 = .ok (.if_icmp .ne 7, 3) := by decide +kernel
theorem dX10_isOf_39 : decode cX10_isOf 39 = .ok (.iconst 1, 1) := by decide +kernel
theorem dX10_isOf_40 : decode cX10_isOf 40 = .ok (.goto 4, 3) := by decide +kernel
theorem dX10_isOf_43 : decode cX10_isOf 43 = .ok (.iconst 0, 1) := by decide +kernel
theorem dX10_isOf_44 : decode cX10_isOf 44 = .ok (.ireturn, 1) := by decide +kernel
theorem dX10_lay_0 : decode cX10_lay 0 = .ok (.iload_n 1, 1) := by decide +kernel
theorem dX10_lay_1 : decode cX10_lay 1 = .ok (.iconst 0, 1) := by decide +kernel
theorem dX10_lay_2 : decode cX10_lay 2 = .ok (.iconst 3, 1) := by decide +kernel
theorem dX10_lay_3 : decode cX10_lay 3 = .ok (.invokestatic 69, 3) := by decide +kernel
theorem dX10_lay_6 : decode cX10_lay 6 = .ok (.ifCond .eq 13, 3) := by decide +kernel
theorem dX10_lay_9 : decode cX10_lay 9 = .ok (.iload_n 3, 1) := by decide +kernel
theorem dX10_lay_10 : decode cX10_lay 10 = .ok (.iconst 0, 1) := by decide +kernel
theorem dX10_lay_11 : decode cX10_lay 11 = .ok (.bipush 9, 2) := by decide +kernel
theorem dX10_lay_13 : decode cX10_lay 13 = .ok (.invokestatic 69, 3) := by decide +kernel
theorem dX10_lay_16 : decode cX10_lay 16 = .ok (.ifCond .ne 10, 3) := by decide +kernel
theorem dX10_lay_19 : decode cX10_lay 19 = .ok (.aload_n 0, 1) := by decide +kernel
theorem dX10_lay_20 : decode cX10_lay 20 = .ok (.bipush (-2), 2) := by decide +kernel
theorem dX10_lay_22 : decode cX10_lay 22 = .ok (.invokevirtual 73, 3) := by decide +kernel
theorem dX10_lay_25 : decode cX10_lay 25 = .ok (.ireturn, 1) := by decide +kernel
theorem dX10_lay_26 : decode cX10_lay 26 = .ok (.aload_n 0, 1) := by decide +kernel
theorem dX10_lay_27 : decode cX10_lay 27 = .ok (.getfield 35, 3) := by decide +kernel
theorem dX10_lay_30 : decode cX10_lay 30 = .ok (.iload_n 1, 1) := by decide +kernel
theorem dX10_lay_31 : decode cX10_lay 31 = .ok (.iaload, 1) := by decide +kernel
theorem dX10_lay_32 : decode cX10_lay 32 = .ok (.iload_n 2, 1) := by decide +kernel
theorem dX10_lay_33 : decode cX10_lay 33 = .ok (.invokestatic 107, 3) := by decide +kernel
theorem dX10_lay_36 : decode cX10_lay 36 = .ok (.istore 4, 2) := by decide +kernel
theorem dX10_lay_38 : decode cX10_lay 38 = .ok (.iload 4, 2) := by decide +kernel
theorem dX10_lay_40 : decode cX10_lay 40 = .ok (.ifCond .ne 25, 3) := by decide +kernel
theorem dX10_lay_43 : decode cX10_lay 43 = .ok (.aload_n 0, 1) := by decide +kernel
theorem dX10_lay_44 : decode cX10_lay 44 = .ok (.aload_n 0, 1) := by decide +kernel
theorem dX10_lay_45 : decode cX10_lay 45 = .ok (.getfield 7, 3) := by decide +kernel
theorem dX10_lay_48 : decode cX10_lay 48 = .ok (.iload_n 3, 1) := by decide +kernel
theorem dX10_lay_49 : decode cX10_lay 49 = .ok (.iaload, 1) := by decide +kernel
theorem dX10_lay_50 : decode cX10_lay 50 = .ok (.aload_n 0, 1) := by decide +kernel
theorem dX10_lay_51 : decode cX10_lay 51 = .ok (.getfield 38, 3) := by decide +kernel
theorem dX10_lay_54 : decode cX10_lay 54 = .ok (.iload_n 1, 1) := by decide +kernel
theorem dX10_lay_55 : decode cX10_lay 55 = .ok (.iaload, 1) := by decide +kernel
theorem dX10_lay_56 : decode cX10_lay 56 = .ok (.invokevirtual 110, 3) := by decide +kernel
theorem dX10_lay_59 : decode cX10_lay 59 = .ok (.ifCond .ne 6, 3) := by decide +kernel
theorem dX10_lay_62 : decode cX10_lay 62 = .ok (.iconst 5, 1) := by decide +kernel
theorem dX10_lay_63 : decode cX10_lay 63 = .ok (.istore 4, 2) := by decide +kernel
theorem dX10_lay_65 : decode cX10_lay 65 = .ok (.iload 4, 2) := by decide +kernel
theorem dX10_lay_67 : decode cX10_lay 67 = .ok (.ifCond .eq 10, 3) := by decide +kernel
theorem dX10_lay_70 : decode cX10_lay 70 = .ok (.aload_n 0, 1) := by decide +kernel
theorem dX10_lay_71 : decode cX10_lay 71 = .ok (.iload 4, 2) := by decide +kernel
theorem dX10_lay_73 : decode cX10_lay 73 = .ok (.invokevirtual 83, 3) := by decide +kernel
theorem dX10_lay_76 : decode cX10_lay 76 = .ok (.ireturn, 1) := by decide +kernel
theorem dX10_lay_77 : decode cX10_lay 77 = .ok (.aload_n 0, 1) := by decide +kernel
theorem dX10_lay_78 : decode cX10_lay 78 = .ok (.getfield 41, 3) := by decide +kernel
theorem dX10_lay_81 : decode cX10_lay 81 = .ok (.bipush 10, 2) := by decide +kernel
theorem dX10_lay_83 : decode cX10_lay 83 = .ok (.iload_n 1, 1) := by decide +kernel
theorem dX10_lay_84 : decode cX10_lay 84 = .ok (.imul, 1) := by decide +kernel
theorem dX10_lay_85 : decode cX10_lay 85 = .ok (.iload_n 2, 1) := by decide +kernel
theorem dX10_lay_86 : decode cX10_lay 86 = .ok (.iadd, 1) := by decide +kernel
theorem dX10_lay_87 : decode cX10_lay 87 = .ok (.aload_n 0, 1) := by decide +kernel
theorem dX10_lay_88 : decode cX10_lay 88 = .ok (.getfield 7, 3) := by decide +kernel
theorem dX10_lay_91 : decode cX10_lay 91 = .ok (.iload_n 3, 1) := by decide +kernel
theorem dX10_lay_92 : decode cX10_lay 92 = .ok (.iaload, 1) := by decide +kernel
theorem dX10_lay_93 : decode cX10_lay 93 = .ok (.iastore, 1) := by decide +kernel
theorem dX10_lay_94 : decode cX10_lay 94 = .ok (.aload_n 0, 1) := by decide +kernel
theorem dX10_lay_95 : decode cX10_lay 95 = .ok (.iconst 1, 1) := by decide +kernel
theorem dX10_lay_96 : decode cX10_lay 96 = .ok (.invokevirtual 80, 3) := by decide +kernel
theorem dX10_lay_99 : decode cX10_lay 99 = .ok (.ireturn, 1) := by decide +kernel
theorem dX10_fetch_0 : decode cX10_fetch 0 = .ok (.iload_n 1, 1) := by decide +kernel
theorem dX10_fetch_1 : decode cX10_fetch 1 = .ok (.iconst 0, 1) := by decide +kernel
theorem dX10_fetch_2 : decode cX10_fetch 2 = .ok (.iconst 3, 1) := by decide +kernel
theorem dX10_fetch_3 : decode cX10_fetch 3 = .ok (.invokestatic 69, 3) := by decide +kernel
theorem dX10_fetch_6 : decode cX10_fetch 6 = .ok (.ifCond .eq 14, 3) := by decide +kernel
theorem dX10_fetch_9 : decode cX10_fetch 9 = .ok (.iload 4, 2) := by decide +kernel
theorem dX10_fetch_11 : decode cX10_fetch 11 = .ok (.iconst 0, 1) := by decide +kernel
theorem dX10_fetch_12 : decode cX10_fetch 12 = .ok (.bipush 9, 2) := by decide +kernel
theorem dX10_fetch_14 : decode cX10_fetch 14 = .ok (.invokestatic 69, 3) := by decide +kernel
theorem dX10_fetch_17 : decode cX10_fetch 17 = .ok (.ifCond .ne 10, 3) := by decide +kernel
theorem dX10_fetch_20 : decode cX10_fetch 20 = .ok (.aload_n 0, 1) := by decide +kernel
theorem dX10_fetch_21 : decode cX10_fetch 21 = .ok (.bipush (-2), 2) := by decide +kernel
theorem dX10_fetch_23 : decode cX10_fetch 23 = .ok (.invokevirtual 73, 3) := by decide +kernel
theorem dX10_fetch_26 : decode cX10_fetch 26 = .ok (.ireturn, 1) := by decide +kernel
theorem dX10_fetch_27 : decode cX10_fetch 27 = .ok (.iload_n 3, 1) := by decide +kernel
theorem dX10_fetch_28 : decode cX10_fetch 28 = .ok (.iconst 0, 1) := by decide +kernel
theorem dX10_fetch_29 : decode cX10_fetch 29 = .ok (.iconst 2, 1) := by decide +kernel
theorem dX10_fetch_30 : decode cX10_fetch 30 = .ok (.invokestatic 69, 3) := by decide +kernel
theorem dX10_fetch_33 : decode cX10_fetch 33 = .ok (.ifCond .ne 10, 3) := by decide +kernel
theorem dX10_fetch_36 : decode cX10_fetch 36 = .ok (.aload_n 0, 1) := by decide +kernel
theorem dX10_fetch_37 : decode cX10_fetch 37 = .ok (.bipush (-3), 2) := by decide +kernel
theorem dX10_fetch_39 : decode cX10_fetch 39 = .ok (.invokevirtual 73, 3) := by decide +kernel
theorem dX10_fetch_42 : decode cX10_fetch 42 = .ok (.ireturn, 1) := by decide +kernel
theorem dX10_fetch_43 : decode cX10_fetch 43 = .ok (.aload_n 0, 1) := by decide +kernel
theorem dX10_fetch_44 : decode cX10_fetch 44 = .ok (.getfield 35, 3) := by decide +kernel
theorem dX10_fetch_47 : decode cX10_fetch 47 = .ok (.iload_n 1, 1) := by decide +kernel
theorem dX10_fetch_48 : decode cX10_fetch 48 = .ok (.iaload, 1) := by decide +kernel
theorem dX10_fetch_49 : decode cX10_fetch 49 = .ok (.iload_n 2, 1) := by decide +kernel
theorem dX10_fetch_50 : decode cX10_fetch 50 = .ok (.invokestatic 107, 3) := by decide +kernel
theorem dX10_fetch_53 : decode cX10_fetch 53 = .ok (.istore 5, 2) := by decide +kernel
theorem dX10_fetch_55 : decode cX10_fetch 55 = .ok (.iload 5, 2) := by decide +kernel
theorem dX10_fetch_57 : decode cX10_fetch 57 = .ok (.ifCond .ne 25, 3) := by decide +kernel
theorem dX10_fetch_60 : decode cX10_fetch 60 = .ok (.aload_n 0, 1) := by decide +kernel
theorem dX10_fetch_61 : decode cX10_fetch 61 = .ok (.aload_n 0, 1) := by decide +kernel
theorem dX10_fetch_62 : decode cX10_fetch 62 = .ok (.getfield 41, 3) := by decide +kernel
theorem dX10_fetch_65 : decode cX10_fetch 65 = .ok (.bipush 10, 2) := by decide +kernel
theorem dX10_fetch_67 : decode cX10_fetch 67 = .ok (.iload_n 1, 1) := by decide +kernel
theorem dX10_fetch_68 : decode cX10_fetch 68 = .ok (.imul, 1) := by decide +kernel
theorem dX10_fetch_69 : decode cX10_fetch 69 = .ok (.iload_n 2, 1) := by decide +kernel
theorem dX10_fetch_70 : decode cX10_fetch 70 = .ok (.iadd, 1) := by decide +kernel
theorem dX10_fetch_71 : decode cX10_fetch 71 = .ok (.iaload, 1) := by decide +kernel
theorem dX10_fetch_72 : decode cX10_fetch 72 = .ok (.iload_n 3, 1) := by decide +kernel
theorem dX10_fetch_73 : decode cX10_fetch 73 = .ok (.invokevirtual 110, 3) := by decide +kernel
theorem dX10_fetch_76 : decode cX10_fetch 76 = .ok (.ifCond .ne 6, 3) := by decide +kernel
theorem dX10_fetch_79 : decode cX10_fetch 79 = .ok (.iconst 4, 1) := by decide +kernel
theorem dX10_fetch_80 : decode cX10_fetch 80 = .ok (.istore 5, 2) := by decide +kernel
theorem dX10_fetch_82 : decode cX10_fetch 82 = .ok (.iload 5, 2) := by decide +kernel
theorem dX10_fetch_84 : decode cX10_fetch 84 = .ok (.ifCond .eq 10, 3) := by decide +kernel
theorem dX10_fetch_87 : decode cX10_fetch 87 = .ok (.aload_n 0, 1) := by decide +kernel
theorem dX10_fetch_88 : decode cX10_fetch 88 = .ok (.iload 5, 2) := by decide +kernel
theorem dX10_fetch_90 : decode cX10_fetch 90 = .ok (.invokevirtual 83, 3) := by decide +kernel
theorem dX10_fetch_93 : decode cX10_fetch 93 = .ok (.ireturn, 1) := by decide +kernel
theorem dX10_fetch_94 : decode cX10_fetch 94 = .ok (.aload_n 0, 1) := by decide +kernel
theorem dX10_fetch_95 : decode cX10_fetch 95 = .ok (.getfield 7, 3) := by decide +kernel
theorem dX10_fetch_98 : decode cX10_fetch 98 = .ok (.iload 4, 2) := by decide +kernel
theorem dX10_fetch_100 : decode cX10_fetch 100 = .ok (.aload_n 0, 1) := by decide +kernel
theorem dX10_fetch_101 : decode cX10_fetch 101 = .ok (.getfield 41, 3) := by decide +kernel
theorem dX10_fetch_104 : decode cX10_fetch 104 = .ok (.bipush 10, 2) := by decide +kernel
theorem dX10_fetch_106 : decode cX10_fetch 106 = .ok (.iload_n 1, 1) := by decide +kernel
theorem dX10_fetch_107 : decode cX10_fetch 107 = .ok (.imul, 1) := by decide +kernel
theorem dX10_fetch_108 : decode cX10_fetch 108 = .ok (.iload_n 2, 1) := by decide +kernel
theorem dX10_fetch_109 : decode cX10_fetch 109 = .ok (.iadd, 1) := by decide +kernel
theorem dX10_fetch_110 : decode cX10_fetch 110 = .ok (.iaload, 1) := by decide +kernel
theorem dX10_fetch_111 : decode cX10_fetch 111 = .ok (.iastore, 1) := by decide +kernel
theorem dX10_fetch_112 : decode cX10_fetch 112 = .ok (.aload_n 0, 1) := by decide +kernel
theorem dX10_fetch_113 : decode cX10_fetch 113 = .ok (.iconst 1, 1) := by decide +kernel
theorem dX10_fetch_114 : decode cX10_fetch 114 = .ok (.invokevirtual 80, 3) := by decide +kernel
theorem dX10_fetch_117 : decode cX10_fetch 117 = .ok (.ireturn, 1) := by decide +kernel
theorem dX10_grid_0 : decode cX10_grid 0 = .ok (.iload_n 1, 1) := by decide +kernel
theorem dX10_grid_1 : decode cX10_grid 1 = .ok (.iconst 0, 1) := by decide +kernel
theorem dX10_grid_2 : decode cX10_grid 2 = .ok (.iconst 1, 1) := by decide +kernel
theorem dX10_grid_3 : decode cX10_grid 3 = .ok (.invokestatic 69, 3) := by decide +kernel
theorem dX10_grid_6 : decode cX10_grid 6 = .ok (.ifCond .ne 10, 3) := by decide +kernel
theorem dX10_grid_9 : decode cX10_grid 9 = .ok (.aload_n 0, 1) := by decide +kernel
theorem dX10_grid_10 : decode cX10_grid 10 = .ok (.bipush (-2), 2) := by decide +kernel
theorem dX10_grid_12 : decode cX10_grid 12 = .ok (.invokevirtual 73, 3) := by decide +kernel
theorem dX10_grid_15 : decode cX10_grid 15 = .ok (.ireturn, 1) := by decide +kernel
theorem dX10_grid_16 : decode cX10_grid 16 = .ok (.iload_n 2, 1) := by decide +kernel
theorem dX10_grid_17 : decode cX10_grid 17 = .ok (.bipush 8, 2) := by decide +kernel
theorem dX10_grid_19 : decode cX10_grid 19 = .ok (.if_icmp .gt 9, 3) := by decide +kernel
theorem dX10_grid_22 : decode cX10_grid 22 = .ok (.iload_n 3, 1) := by decide +kernel
theorem dX10_grid_23 : decode cX10_grid 23 = .ok (.bipush 8, 2) := by decide +kernel
theorem dX10_grid_25 : decode cX10_grid 25 = .ok (.if_icmp .le 10, 3) := by decide +kernel
theorem dX10_grid_28 : decode cX10_grid 28 = .ok (.aload_n 0, 1) := by decide +kernel
theorem dX10_grid_29 : decode cX10_grid 29 = .ok (.bipush (-3), 2) := by decide +kernel
theorem dX10_grid_31 : decode cX10_grid 31 = .ok (.invokevirtual 73, 3) := by decide +kernel
theorem dX10_grid_34 : decode cX10_grid 34 = .ok (.ireturn, 1) := by decide +kernel
theorem dX10_grid_35 : decode cX10_grid 35 = .ok (.iload_n 2, 1) := by decide +kernel
theorem dX10_grid_36 : decode cX10_grid 36 = .ok (.ifCond .lt 7, 3) := by decide +kernel
theorem dX10_grid_39 : decode cX10_grid 39 = .ok (.iload_n 3, 1) := by decide +kernel
theorem dX10_grid_40 : decode cX10_grid 40 = .ok (.ifCond .ge 9, 3) := by decide +kernel
theorem dX10_grid_43 : decode cX10_grid 43 = .ok (.aload_n 0, 1) := by decide +kernel
theorem dX10_grid_44 : decode cX10_grid 44 = .ok (.iconst 3, 1) := by decide +kernel
theorem dX10_grid_45 : decode cX10_grid 45 = .ok (.invokevirtual 83, 3) := by decide +kernel
theorem dX10_grid_48 : decode cX10_grid 48 = .ok (.ireturn, 1) := by decide +kernel
theorem dX10_grid_49 : decode cX10_grid 49 = .ok (.aload_n 0, 1) := by decide +kernel
theorem dX10_grid_50 : decode cX10_grid 50 = .ok (.getfield 44, 3) := by decide +kernel
theorem dX10_grid_53 : decode cX10_grid 53 = .ok (.iload_n 1, 1) := by decide +kernel
theorem dX10_grid_54 : decode cX10_grid 54 = .ok (.iload_n 2, 1) := by decide +kernel
theorem dX10_grid_55 : decode cX10_grid 55 = .ok (.iastore, 1) := by decide +kernel
theorem dX10_grid_56 : decode cX10_grid 56 = .ok (.iconst 0, 1) := by decide +kernel
theorem dX10_grid_57 : decode cX10_grid 57 = .ok (.istore 4, 2) := by decide +kernel
theorem dX10_grid_59 : decode cX10_grid 59 = .ok (.iload 4, 2) := by decide +kernel
theorem dX10_grid_61 : decode cX10_grid 61 = .ok (.iload_n 2, 1) := by decide +kernel
theorem dX10_grid_62 : decode cX10_grid 62 = .ok (.if_icmp .ge 56, 3) := by decide +kernel
theorem dX10_grid_65 : decode cX10_grid 65 = .ok (.aload_n 0, 1) := by decide +kernel
theorem dX10_grid_66 : decode cX10_grid 66 = .ok (.getfield 47, 3) := by decide +kernel
theorem dX10_grid_69 : decode cX10_grid 69 = .ok (.bipush 8, 2) := by decide +kernel
theorem dX10_grid_71 : decode cX10_grid 71 = .ok (.iload_n 1, 1) := by decide +kernel
theorem dX10_grid_72 : decode cX10_grid 72 = .ok (.imul, 1) := by decide +kernel
theorem dX10_grid_73 : decode cX10_grid 73 = .ok (.iload 4, 2) := by decide +kernel
theorem dX10_grid_75 : decode cX10_grid 75 = .ok (.iadd, 1) := by decide +kernel
theorem dX10_grid_76 : decode cX10_grid 76 = .ok (.iload_n 3, 1) := by decide +kernel
theorem dX10_grid_77 : decode cX10_grid 77 = .ok (.iastore, 1) := by decide +kernel
theorem dX10_grid_78 : decode cX10_grid 78 = .ok (.iconst 0, 1) := by decide +kernel
theorem dX10_grid_79 : decode cX10_grid 79 = .ok (.istore 5, 2) := by decide +kernel
theorem dX10_grid_81 : decode cX10_grid 81 = .ok (.iload 5, 2) := by decide +kernel
theorem dX10_grid_83 : decode cX10_grid 83 = .ok (.iload_n 3, 1) := by decide +kernel
theorem dX10_grid_84 : decode cX10_grid 84 = .ok (.if_icmp .ge 28, 3) := by decide +kernel
theorem dX10_grid_87 : decode cX10_grid 87 = .ok (.aload_n 0, 1) := by decide +kernel
theorem dX10_grid_88 : decode cX10_grid 88 = .ok (.getfield 50, 3) := by decide +kernel
theorem dX10_grid_91 : decode cX10_grid 91 = .ok (.bipush 64, 2) := by decide +kernel
theorem dX10_grid_93 : decode cX10_grid 93 = .ok (.iload_n 1, 1) := by decide +kernel
theorem dX10_grid_94 : decode cX10_grid 94 = .ok (.imul, 1) := by decide +kernel
theorem dX10_grid_95 : decode cX10_grid 95 = .ok (.bipush 8, 2) := by decide +kernel
theorem dX10_grid_97 : decode cX10_grid 97 = .ok (.iload 4, 2) := by decide +kernel
theorem dX10_grid_99 : decode cX10_grid 99 = .ok (.imul, 1) := by decide +kernel
theorem dX10_grid_100 : decode cX10_grid 100 = .ok (.iadd, 1) := by decide +kernel
theorem dX10_grid_101 : decode cX10_grid 101 = .ok (.iload 5, 2) := by decide +kernel
theorem dX10_grid_103 : decode cX10_grid 103 = .ok (.iadd, 1) := by decide +kernel
theorem dX10_grid_104 : decode cX10_grid 104 = .ok (.iconst 0, 1) := by decide +kernel
theorem dX10_grid_105 : decode cX10_grid 105 = .ok (.iastore, 1) := by decide +kernel
theorem dX10_grid_106 : decode cX10_grid 106 = .ok (.iinc 5 1, 3) := by decide +kernel
theorem dX10_grid_109 : decode cX10_grid 109 = .ok (.goto (-28), 3) := by decide +kernel
theorem dX10_grid_112 : decode cX10_grid 112 = .ok (.iinc 4 1, 3) := by decide +kernel
theorem dX10_grid_115 : decode cX10_grid 115 = .ok (.goto (-56), 3) := by decide +kernel
theorem dX10_grid_118 : decode cX10_grid 118 = .ok (.aload_n 0, 1) := by decide +kernel
theorem dX10_grid_119 : decode cX10_grid 119 = .ok (.iload_n 2, 1) := by decide +kernel
theorem dX10_grid_120 : decode cX10_grid 120 = .ok (.invokevirtual 80, 3) := by decide +kernel
theorem dX10_grid_123 : decode cX10_grid 123 = .ok (.ireturn, 1) := by decide +kernel
theorem dX10_strike_0 : decode cX10_strike 0 = .ok (.iload_n 1, 1) := by decide +kernel
theorem dX10_strike_1 : decode cX10_strike 1 = .ok (.iconst 0, 1) := by decide +kernel
theorem dX10_strike_2 : decode cX10_strike 2 = .ok (.iconst 1, 1) := by decide +kernel
theorem dX10_strike_3 : decode cX10_strike 3 = .ok (.invokestatic 69, 3) := by decide +kernel
theorem dX10_strike_6 : decode cX10_strike 6 = .ok (.ifCond .ne 10, 3) := by decide +kernel
theorem dX10_strike_9 : decode cX10_strike 9 = .ok (.aload_n 0, 1) := by decide +kernel
theorem dX10_strike_10 : decode cX10_strike 10 = .ok (.bipush (-2), 2) := by decide +kernel
theorem dX10_strike_12 : decode cX10_strike 12 = .ok (.invokevirtual 73, 3) := by decide +kernel
theorem dX10_strike_15 : decode cX10_strike 15 = .ok (.ireturn, 1) := by decide +kernel
theorem dX10_strike_16 : decode cX10_strike 16 = .ok (.aload_n 0, 1) := by decide +kernel
theorem dX10_strike_17 : decode cX10_strike 17 = .ok (.getfield 44, 3) := by decide +kernel
theorem dX10_strike_20 : decode cX10_strike 20 = .ok (.iload_n 1, 1) := by decide +kernel
theorem dX10_strike_21 : decode cX10_strike 21 = .ok (.iaload, 1) := by decide +kernel
theorem dX10_strike_22 : decode cX10_strike 22 = .ok (.iload_n 2, 1) := by decide +kernel
theorem dX10_strike_23 : decode cX10_strike 23 = .ok (.invokestatic 107, 3) := by decide +kernel
theorem dX10_strike_26 : decode cX10_strike 26 = .ok (.istore_n 3, 1) := by decide +kernel
theorem dX10_strike_27 : decode cX10_strike 27 = .ok (.iload_n 3, 1) := by decide +kernel
theorem dX10_strike_28 : decode cX10_strike 28 = .ok (.ifCond .eq 9, 3) := by decide +kernel
theorem dX10_strike_31 : decode cX10_strike 31 = .ok (.aload_n 0, 1) := by decide +kernel
theorem dX10_strike_32 : decode cX10_strike 32 = .ok (.iload_n 3, 1) := by decide +kernel
theorem dX10_strike_33 : decode cX10_strike 33 = .ok (.invokevirtual 83, 3) := by decide +kernel
theorem dX10_strike_36 : decode cX10_strike 36 = .ok (.ireturn, 1) := by decide +kernel
theorem dX10_strike_37 : decode cX10_strike 37 = .ok (.aload_n 0, 1) := by decide +kernel
theorem dX10_strike_38 : decode cX10_strike 38 = .ok (.getfield 47, 3) := by decide +kernel
theorem dX10_strike_41 : decode cX10_strike 41 = .ok (.bipush 8, 2) := by decide +kernel
theorem dX10_strike_43 : decode cX10_strike 43 = .ok (.iload_n 1, 1) := by decide +kernel
theorem dX10_strike_44 : decode cX10_strike 44 = .ok (.imul, 1) := by decide +kernel
theorem dX10_strike_45 : decode cX10_strike 45 = .ok (.iload_n 2, 1) := by decide +kernel
theorem dX10_strike_46 : decode cX10_strike 46 = .ok (.iadd, 1) := by decide +kernel
theorem dX10_strike_47 : decode cX10_strike 47 = .ok (.iaload, 1) := by decide +kernel
theorem dX10_strike_48 : decode cX10_strike 48 = .ok (.ifCond .ge 7, 3) := by decide +kernel
theorem dX10_strike_51 : decode cX10_strike 51 = .ok (.iconst 0, 1) := by decide +kernel
theorem dX10_strike_52 : decode cX10_strike 52 = .ok (.goto 4, 3) := by decide +kernel
theorem dX10_strike_55 : decode cX10_strike 55 = .ok (.iconst 1, 1) := by decide +kernel
theorem dX10_strike_56 : decode cX10_strike 56 = .ok (.istore 4, 2) := by decide +kernel
theorem dX10_strike_58 : decode cX10_strike 58 = .ok (.aload_n 0, 1) := by decide +kernel
theorem dX10_strike_59 : decode cX10_strike 59 = .ok (.getfield 47, 3) := by decide +kernel
theorem dX10_strike_62 : decode cX10_strike 62 = .ok (.bipush 8, 2) := by decide +kernel
theorem dX10_strike_64 : decode cX10_strike 64 = .ok (.iload_n 1, 1) := by decide +kernel
theorem dX10_strike_65 : decode cX10_strike 65 = .ok (.imul, 1) := by decide +kernel
theorem dX10_strike_66 : decode cX10_strike 66 = .ok (.iload_n 2, 1) := by decide +kernel
theorem dX10_strike_67 : decode cX10_strike 67 = .ok (.iadd, 1) := by decide +kernel
theorem dX10_strike_68 : decode cX10_strike 68 = .ok (.iconst (-1), 1) := by decide +kernel
theorem dX10_strike_69 : decode cX10_strike 69 = .ok (.iastore, 1) := by decide +kernel
theorem dX10_strike_70 : decode cX10_strike 70 = .ok (.aload_n 0, 1) := by decide +kernel
theorem dX10_strike_71 : decode cX10_strike 71 = .ok (.iload 4, 2) := by decide +kernel
theorem dX10_strike_73 : decode cX10_strike 73 = .ok (.invokevirtual 80, 3) := by decide +kernel
theorem dX10_strike_76 : decode cX10_strike 76 = .ok (.ireturn, 1) := by decide +kernel
theorem dX10_lacksCell_0 : decode cX10_lacksCell 0 = .ok (.aload_n 0, 1) := by decide +kernel
theorem dX10_lacksCell_1 : decode cX10_lacksCell 1 = .ok (.getfield 44, 3) := by decide +kernel
theorem dX10_lacksCell_4 : decode cX10_lacksCell 4 = .ok (.iload_n 1, 1) := by decide +kernel
theorem dX10_lacksCell_5 : decode cX10_lacksCell 5 = .ok (.iaload, 1) := by decide +kernel
theorem dX10_lacksCell_6 : decode cX10_lacksCell 6 = .ok (.iload_n 2, 1) := by decide +kernel
theorem dX10_lacksCell_7 : decode cX10_lacksCell 7 = .ok (.invokestatic 107, 3) := by decide +kernel
theorem dX10_lacksCell_10 : decode cX10_lacksCell 10 = .ok (.istore 4, 2) := by decide +kernel
theorem dX10_lacksCell_12 : decode cX10_lacksCell 12 = .ok (.iload 4, 2) := by decide +kernel
theorem dX10_lacksCell_14 : decode cX10_lacksCell 14 = .ok (.ifCond .eq 8, 3) := by decide +kernel
theorem dX10_lacksCell_17 : decode cX10_lacksCell 17 = .ok (.iload 4, 2) := by decide +kernel
theorem dX10_lacksCell_19 : decode cX10_lacksCell 19 = .ok (.goto 18, 3) := by decide +kernel
theorem dX10_lacksCell_22 : decode cX10_lacksCell 22 = .ok (.aload_n 0, 1) := by decide +kernel
theorem dX10_lacksCell_23 : decode cX10_lacksCell 23 = .ok (.getfield 47, 3) := by decide +kernel
theorem dX10_lacksCell_26 : decode cX10_lacksCell 26 = .ok (.bipush 8, 2) := by decide +kernel
theorem dX10_lacksCell_28 : decode cX10_lacksCell 28 = .ok (.iload_n 1, 1) := by decide +kernel
theorem dX10_lacksCell_29 : decode cX10_lacksCell 29 = .ok (.imul, 1) := by decide +kernel
theorem dX10_lacksCell_30 : decode cX10_lacksCell 30 = .ok (.iload_n 2, 1) := by decide +kernel
theorem dX10_lacksCell_31 : decode cX10_lacksCell 31 = .ok (.iadd, 1) := by decide +kernel
theorem dX10_lacksCell_32 : decode cX10_lacksCell 32 = .ok (.iaload, 1) := by decide +kernel
theorem dX10_lacksCell_33 : decode cX10_lacksCell 33 = .ok (.iload_n 3, 1) := by decide +kernel
theorem dX10_lacksCell_34 : decode cX10_lacksCell 34 = .ok (.invokestatic 107, 3) := by decide +kernel
theorem dX10_lacksCell_37 : decode cX10_lacksCell 37 = .ok (.ireturn, 1) := by decide +kernel
theorem dX10_mark_0 : decode cX10_mark 0 = .ok (.iload_n 1, 1) := by decide +kernel
theorem dX10_mark_1 : decode cX10_mark 1 = .ok (.iconst 0, 1) := by decide +kernel
theorem dX10_mark_2 : decode cX10_mark 2 = .ok (.iconst 1, 1) := by decide +kernel
theorem dX10_mark_3 : decode cX10_mark 3 = .ok (.invokestatic 69, 3) := by decide +kernel
theorem dX10_mark_6 : decode cX10_mark 6 = .ok (.ifCond .ne 10, 3) := by decide +kernel
theorem dX10_mark_9 : decode cX10_mark 9 = .ok (.aload_n 0, 1) := by decide +kernel
theorem dX10_mark_10 : decode cX10_mark 10 = .ok (.bipush (-2), 2) := by decide +kernel
theorem dX10_mark_12 : decode cX10_mark 12 = .ok (.invokevirtual 73, 3) := by decide +kernel
theorem dX10_mark_15 : decode cX10_mark 15 = .ok (.ireturn, 1) := by decide +kernel
theorem dX10_mark_16 : decode cX10_mark 16 = .ok (.aload_n 0, 1) := by decide +kernel
theorem dX10_mark_17 : decode cX10_mark 17 = .ok (.iload_n 1, 1) := by decide +kernel
theorem dX10_mark_18 : decode cX10_mark 18 = .ok (.iload_n 2, 1) := by decide +kernel
theorem dX10_mark_19 : decode cX10_mark 19 = .ok (.iload_n 3, 1) := by decide +kernel
theorem dX10_mark_20 : decode cX10_mark 20 = .ok (.invokevirtual 113, 3) := by decide +kernel
theorem dX10_mark_23 : decode cX10_mark 23 = .ok (.istore 5, 2) := by decide +kernel
theorem dX10_mark_25 : decode cX10_mark 25 = .ok (.iload 5, 2) := by decide +kernel
theorem dX10_mark_27 : decode cX10_mark 27 = .ok (.ifCond .eq 10, 3) := by decide +kernel
theorem dX10_mark_30 : decode cX10_mark 30 = .ok (.aload_n 0, 1) := by decide +kernel
theorem dX10_mark_31 : decode cX10_mark 31 = .ok (.iload 5, 2) := by decide +kernel
theorem dX10_mark_33 : decode cX10_mark 33 = .ok (.invokevirtual 83, 3) := by decide +kernel
theorem dX10_mark_36 : decode cX10_mark 36 = .ok (.ireturn, 1) := by decide +kernel
theorem dX10_mark_37 : decode cX10_mark 37 = .ok (.aload_n 0, 1) := by decide +kernel
theorem dX10_mark_38 : decode cX10_mark 38 = .ok (.getfield 50, 3) := by decide +kernel
theorem dX10_mark_41 : decode cX10_mark 41 = .ok (.bipush 64, 2) := by decide +kernel
theorem dX10_mark_43 : decode cX10_mark 43 = .ok (.iload_n 1, 1) := by decide +kernel
theorem dX10_mark_44 : decode cX10_mark 44 = .ok (.imul, 1) := by decide +kernel
theorem dX10_mark_45 : decode cX10_mark 45 = .ok (.bipush 8, 2) := by decide +kernel
theorem dX10_mark_47 : decode cX10_mark 47 = .ok (.iload_n 2, 1) := by decide +kernel
theorem dX10_mark_48 : decode cX10_mark 48 = .ok (.imul, 1) := by decide +kernel
theorem dX10_mark_49 : decode cX10_mark 49 = .ok (.iadd, 1) := by decide +kernel
theorem dX10_mark_50 : decode cX10_mark 50 = .ok (.iload_n 3, 1) := by decide +kernel
theorem dX10_mark_51 : decode cX10_mark 51 = .ok (.iadd, 1) := by decide +kernel
theorem dX10_mark_52 : decode cX10_mark 52 = .ok (.iload 4, 2) := by decide +kernel
theorem dX10_mark_54 : decode cX10_mark 54 = .ok (.iastore, 1) := by decide +kernel
theorem dX10_mark_55 : decode cX10_mark 55 = .ok (.aload_n 0, 1) := by decide +kernel
theorem dX10_mark_56 : decode cX10_mark 56 = .ok (.iconst 1, 1) := by decide +kernel
theorem dX10_mark_57 : decode cX10_mark 57 = .ok (.invokevirtual 80, 3) := by decide +kernel
theorem dX10_mark_60 : decode cX10_mark 60 = .ok (.ireturn, 1) := by decide +kernel
theorem dX10_cell_0 : decode cX10_cell 0 = .ok (.aload_n 0, 1) := by decide +kernel
theorem dX10_cell_1 : decode cX10_cell 1 = .ok (.iload_n 1, 1) := by decide +kernel
theorem dX10_cell_2 : decode cX10_cell 2 = .ok (.iconst 0, 1) := by decide +kernel
theorem dX10_cell_3 : decode cX10_cell 3 = .ok (.iconst 1, 1) := by decide +kernel
theorem dX10_cell_4 : decode cX10_cell 4 = .ok (.invokestatic 69, 3) := by decide +kernel
theorem dX10_cell_7 : decode cX10_cell 7 = .ok (.ifCond .eq 7, 3) := by decide +kernel
theorem dX10_cell_10 : decode cX10_cell 10 = .ok (.iconst 0, 1) := by decide +kernel
theorem dX10_cell_11 : decode cX10_cell 11 = .ok (.goto 5, 3) := by decide +kernel
theorem dX10_cell_14 : decode cX10_cell 14 = .ok (.bipush (-2), 2) := by decide +kernel
theorem dX10_cell_16 : decode cX10_cell 16 = .ok (.putfield 62, 3) := by decide +kernel
theorem dX10_cell_19 : decode cX10_cell 19 = .ok (.aload_n 0, 1) := by decide +kernel
theorem dX10_cell_20 : decode cX10_cell 20 = .ok (.getfield 62, 3) := by decide +kernel
theorem dX10_cell_23 : decode cX10_cell 23 = .ok (.ifCond .eq 5, 3) := by decide +kernel
theorem dX10_cell_26 : decode cX10_cell 26 = .ok (.iconst 0, 1) := by decide +kernel
theorem dX10_cell_27 : decode cX10_cell 27 = .ok (.ireturn, 1) := by decide +kernel
theorem dX10_cell_28 : decode cX10_cell 28 = .ok (.aload_n 0, 1) := by decide +kernel
theorem dX10_cell_29 : decode cX10_cell 29 = .ok (.iload_n 1, 1) := by decide +kernel
theorem dX10_cell_30 : decode cX10_cell 30 = .ok (.iload_n 2, 1) := by decide +kernel
theorem dX10_cell_31 : decode cX10_cell 31 = .ok (.iload_n 3, 1) := by decide +kernel
theorem dX10_cell_32 : decode cX10_cell 32 = .ok (.invokevirtual 113, 3) := by decide +kernel
theorem dX10_cell_35 : decode cX10_cell 35 = .ok (.istore 4, 2) := by decide +kernel
theorem dX10_cell_37 : decode cX10_cell 37 = .ok (.iload 4, 2) := by decide +kernel
theorem dX10_cell_39 : decode cX10_cell 39 = .ok (.ifCond .eq 13, 3) := by decide +kernel
theorem dX10_cell_42 : decode cX10_cell 42 = .ok (.aload_n 0, 1) := by decide +kernel
theorem dX10_cell_43 : decode cX10_cell 43 = .ok (.iload 4, 2) := by decide +kernel
theorem dX10_cell_45 : decode cX10_cell 45 = .ok (.invokevirtual 83, 3) := by decide +kernel
theorem dX10_cell_48 : decode cX10_cell 48 = .ok (.istore 4, 2) := by decide +kernel
theorem dX10_cell_50 : decode cX10_cell 50 = .ok (.iconst 0, 1) := by decide +kernel
theorem dX10_cell_51 : decode cX10_cell 51 = .ok (.ireturn, 1) := by decide +kernel
theorem dX10_cell_52 : decode cX10_cell 52 = .ok (.aload_n 0, 1) := by decide +kernel
theorem dX10_cell_53 : decode cX10_cell 53 = .ok (.getfield 50, 3) := by decide +kernel
theorem dX10_cell_56 : decode cX10_cell 56 = .ok (.bipush 64, 2) := by decide +kernel
theorem dX10_cell_58 : decode cX10_cell 58 = .ok (.iload_n 1, 1) := by decide +kernel
theorem dX10_cell_59 : decode cX10_cell 59 = .ok (.imul, 1) := by decide +kernel
theorem dX10_cell_60 : decode cX10_cell 60 = .ok (.bipush 8, 2) := by decide +kernel
theorem dX10_cell_62 : decode cX10_cell 62 = .ok (.iload_n 2, 1) := by decide +kernel
theorem dX10_cell_63 : decode cX10_cell 63 = .ok (.imul, 1) := by decide +kernel
theorem dX10_cell_64 : decode cX10_cell 64 = .ok (.iadd, 1) := by decide +kernel
theorem dX10_cell_65 : decode cX10_cell 65 = .ok (.iload_n 3, 1) := by decide +kernel
theorem dX10_cell_66 : decode cX10_cell 66 = .ok (.iadd, 1) := by decide +kernel
theorem dX10_cell_67 : decode cX10_cell 67 = .ok (.iaload, 1) := by decide +kernel
theorem dX10_cell_68 : decode cX10_cell 68 = .ok (.ireturn, 1) := by decide +kernel
theorem dX10_alarm_0 : decode cX10_alarm 0 = .ok (.iload_n 1, 1) := by decide +kernel
theorem dX10_alarm_1 : decode cX10_alarm 1 = .ok (.iconst 0, 1) := by decide +kernel
theorem dX10_alarm_2 : decode cX10_alarm 2 = .ok (.iconst 3, 1) := by decide +kernel
theorem dX10_alarm_3 : decode cX10_alarm 3 = .ok (.invokestatic 69, 3) := by decide +kernel
theorem dX10_alarm_6 : decode cX10_alarm 6 = .ok (.ifCond .ne 10, 3) := by decide +kernel
theorem dX10_alarm_9 : decode cX10_alarm 9 = .ok (.aload_n 0, 1) := by decide +kernel
theorem dX10_alarm_10 : decode cX10_alarm 10 = .ok (.bipush (-2), 2) := by decide +kernel
theorem dX10_alarm_12 : decode cX10_alarm 12 = .ok (.invokevirtual 73, 3) := by decide +kernel
theorem dX10_alarm_15 : decode cX10_alarm 15 = .ok (.ireturn, 1) := by decide +kernel
theorem dX10_alarm_16 : decode cX10_alarm 16 = .ok (.aload_n 0, 1) := by decide +kernel
theorem dX10_alarm_17 : decode cX10_alarm 17 = .ok (.getfield 53, 3) := by decide +kernel
theorem dX10_alarm_20 : decode cX10_alarm 20 = .ok (.iload_n 1, 1) := by decide +kernel
theorem dX10_alarm_21 : decode cX10_alarm 21 = .ok (.baload, 1) := by decide +kernel
theorem dX10_alarm_22 : decode cX10_alarm 22 = .ok (.ifCond .eq 7, 3) := by decide +kernel
theorem dX10_alarm_25 : decode cX10_alarm 25 = .ok (.iconst 0, 1) := by decide +kernel
theorem dX10_alarm_26 : decode cX10_alarm 26 = .ok (.goto 4, 3) := by decide +kernel
theorem dX10_alarm_29 : decode cX10_alarm 29 = .ok (.iconst 1, 1) := by decide +kernel
theorem dX10_alarm_30 : decode cX10_alarm 30 = .ok (.istore_n 3, 1) := by decide +kernel
theorem dX10_alarm_31 : decode cX10_alarm 31 = .ok (.aload_n 0, 1) := by decide +kernel
theorem dX10_alarm_32 : decode cX10_alarm 32 = .ok (.getfield 53, 3) := by decide +kernel
theorem dX10_alarm_35 : decode cX10_alarm 35 = .ok (.iload_n 1, 1) := by decide +kernel
theorem dX10_alarm_36 : decode cX10_alarm 36 = .ok (.iconst 1, 1) := by decide +kernel
theorem dX10_alarm_37 : decode cX10_alarm 37 = .ok (.bastore, 1) := by decide +kernel
theorem dX10_alarm_38 : decode cX10_alarm 38 = .ok (.aload_n 0, 1) := by decide +kernel
theorem dX10_alarm_39 : decode cX10_alarm 39 = .ok (.getfield 56, 3) := by decide +kernel
theorem dX10_alarm_42 : decode cX10_alarm 42 = .ok (.iload_n 1, 1) := by decide +kernel
theorem dX10_alarm_43 : decode cX10_alarm 43 = .ok (.iload_n 2, 1) := by decide +kernel
theorem dX10_alarm_44 : decode cX10_alarm 44 = .ok (.iastore, 1) := by decide +kernel
theorem dX10_alarm_45 : decode cX10_alarm 45 = .ok (.aload_n 0, 1) := by decide +kernel
theorem dX10_alarm_46 : decode cX10_alarm 46 = .ok (.iload_n 3, 1) := by decide +kernel
theorem dX10_alarm_47 : decode cX10_alarm 47 = .ok (.invokevirtual 80, 3) := by decide +kernel
theorem dX10_alarm_50 : decode cX10_alarm 50 = .ok (.ireturn, 1) := by decide +kernel
theorem dX10_calm_0 : decode cX10_calm 0 = .ok (.iload_n 1, 1) := by decide +kernel
theorem dX10_calm_1 : decode cX10_calm 1 = .ok (.iconst 0, 1) := by decide +kernel
theorem dX10_calm_2 : decode cX10_calm 2 = .ok (.iconst 3, 1) := by decide +kernel
theorem dX10_calm_3 : decode cX10_calm 3 = .ok (.invokestatic 69, 3) := by decide +kernel
theorem dX10_calm_6 : decode cX10_calm 6 = .ok (.ifCond .ne 10, 3) := by decide +kernel
theorem dX10_calm_9 : decode cX10_calm 9 = .ok (.aload_n 0, 1) := by decide +kernel
theorem dX10_calm_10 : decode cX10_calm 10 = .ok (.bipush (-2), 2) := by decide +kernel
theorem dX10_calm_12 : decode cX10_calm 12 = .ok (.invokevirtual 73, 3) := by decide +kernel
theorem dX10_calm_15 : decode cX10_calm 15 = .ok (.ireturn, 1) := by decide +kernel
theorem dX10_calm_16 : decode cX10_calm 16 = .ok (.aload_n 0, 1) := by decide +kernel
theorem dX10_calm_17 : decode cX10_calm 17 = .ok (.getfield 53, 3) := by decide +kernel
theorem dX10_calm_20 : decode cX10_calm 20 = .ok (.iload_n 1, 1) := by decide +kernel
theorem dX10_calm_21 : decode cX10_calm 21 = .ok (.baload, 1) := by decide +kernel
theorem dX10_calm_22 : decode cX10_calm 22 = .ok (.ifCond .eq 7, 3) := by decide +kernel
theorem dX10_calm_25 : decode cX10_calm 25 = .ok (.iconst 1, 1) := by decide +kernel
theorem dX10_calm_26 : decode cX10_calm 26 = .ok (.goto 4, 3) := by decide +kernel
theorem dX10_calm_29 : decode cX10_calm 29 = .ok (.iconst 0, 1) := by decide +kernel
theorem dX10_calm_30 : decode cX10_calm 30 = .ok (.istore_n 2, 1) := by decide +kernel
theorem dX10_calm_31 : decode cX10_calm 31 = .ok (.aload_n 0, 1) := by decide +kernel
theorem dX10_calm_32 : decode cX10_calm 32 = .ok (.getfield 53, 3) := by decide +kernel
theorem dX10_calm_35 : decode cX10_calm 35 = .ok (.iload_n 1, 1) := by decide +kernel
theorem dX10_calm_36 : decode cX10_calm 36 = .ok (.iconst 0, 1) := by decide +kernel
theorem dX10_calm_37 : decode cX10_calm 37 = .ok (.bastore, 1) := by decide +kernel
theorem dX10_calm_38 : decode cX10_calm 38 = .ok (.aload_n 0, 1) := by decide +kernel
theorem dX10_calm_39 : decode cX10_calm 39 = .ok (.iload_n 2, 1) := by decide +kernel
theorem dX10_calm_40 : decode cX10_calm 40 = .ok (.invokevirtual 80, 3) := by decide +kernel
theorem dX10_calm_43 : decode cX10_calm 43 = .ok (.ireturn, 1) := by decide +kernel
theorem dX10_let_0 : decode cX10_let 0 = .ok (.iload_n 1, 1) := by decide +kernel
theorem dX10_let_1 : decode cX10_let 1 = .ok (.iconst 0, 1) := by decide +kernel
theorem dX10_let_2 : decode cX10_let 2 = .ok (.iconst 3, 1) := by decide +kernel
theorem dX10_let_3 : decode cX10_let 3 = .ok (.invokestatic 69, 3) := by decide +kernel
theorem dX10_let_6 : decode cX10_let 6 = .ok (.ifCond .ne 10, 3) := by decide +kernel
theorem dX10_let_9 : decode cX10_let 9 = .ok (.aload_n 0, 1) := by decide +kernel
theorem dX10_let_10 : decode cX10_let 10 = .ok (.bipush (-2), 2) := by decide +kernel
theorem dX10_let_12 : decode cX10_let 12 = .ok (.invokevirtual 73, 3) := by decide +kernel
theorem dX10_let_15 : decode cX10_let 15 = .ok (.ireturn, 1) := by decide +kernel
theorem dX10_let_16 : decode cX10_let 16 = .ok (.aload_n 0, 1) := by decide +kernel
theorem dX10_let_17 : decode cX10_let 17 = .ok (.getfield 53, 3) := by decide +kernel
theorem dX10_let_20 : decode cX10_let 20 = .ok (.iload_n 1, 1) := by decide +kernel
theorem dX10_let_21 : decode cX10_let 21 = .ok (.baload, 1) := by decide +kernel
theorem dX10_let_22 : decode cX10_let 22 = .ok (.ifCond .ne 9, 3) := by decide +kernel
theorem dX10_let_25 : decode cX10_let 25 = .ok (.aload_n 0, 1) := by decide +kernel
theorem dX10_let_26 : decode cX10_let 26 = .ok (.iconst 1, 1) := by decide +kernel
theorem dX10_let_27 : decode cX10_let 27 = .ok (.invokevirtual 83, 3) := by decide +kernel
theorem dX10_let_30 : decode cX10_let 30 = .ok (.ireturn, 1) := by decide +kernel
theorem dX10_let_31 : decode cX10_let 31 = .ok (.aload_n 0, 1) := by decide +kernel
theorem dX10_let_32 : decode cX10_let 32 = .ok (.bipush 6, 2) := by decide +kernel
theorem dX10_let_34 : decode cX10_let 34 = .ok (.invokevirtual 83, 3) := by decide +kernel
theorem dX10_let_37 : decode cX10_let 37 = .ok (.istore_n 2, 1) := by decide +kernel
theorem dX10_let_38 : decode cX10_let 38 = .ok (.aload_n 0, 1) := by decide +kernel
theorem dX10_let_39 : decode cX10_let 39 = .ok (.aload_n 0, 1) := by decide +kernel
theorem dX10_let_40 : decode cX10_let 40 = .ok (.getfield 56, 3) := by decide +kernel
theorem dX10_let_43 : decode cX10_let 43 = .ok (.iload_n 1, 1) := by decide +kernel
theorem dX10_let_44 : decode cX10_let 44 = .ok (.iaload, 1) := by decide +kernel
theorem dX10_let_45 : decode cX10_let 45 = .ok (.putfield 62, 3) := by decide +kernel
theorem dX10_let_48 : decode cX10_let 48 = .ok (.iload_n 2, 1) := by decide +kernel
theorem dX10_let_49 : decode cX10_let 49 = .ok (.ireturn, 1) := by decide +kernel
theorem dX10_why_0 : decode cX10_why 0 = .ok (.aload_n 0, 1) := by decide +kernel
theorem dX10_why_1 : decode cX10_why 1 = .ok (.getfield 62, 3) := by decide +kernel
theorem dX10_why_4 : decode cX10_why 4 = .ok (.ireturn, 1) := by decide +kernel
theorem dX10_count_0 : decode cX10_count 0 = .ok (.iload_n 1, 1) := by decide +kernel
theorem dX10_count_1 : decode cX10_count 1 = .ok (.iconst 0, 1) := by decide +kernel
theorem dX10_count_2 : decode cX10_count 2 = .ok (.bipush 7, 2) := by decide +kernel
theorem dX10_count_4 : decode cX10_count 4 = .ok (.invokestatic 69, 3) := by decide +kernel
theorem dX10_count_7 : decode cX10_count 7 = .ok (.ifCond .ne 6, 3) := by decide +kernel
theorem dX10_count_10 : decode cX10_count 10 = .ok (.bipush (-3), 2) := by decide +kernel
theorem dX10_count_12 : decode cX10_count 12 = .ok (.ireturn, 1) := by decide +kernel
theorem dX10_count_13 : decode cX10_count 13 = .ok (.iload_n 1, 1) := by decide +kernel
theorem dX10_count_14 : decode cX10_count 14 = .ok (.ifCond .ne 10, 3) := by decide +kernel
theorem dX10_count_17 : decode cX10_count 17 = .ok (.aload_n 0, 1) := by decide +kernel
theorem dX10_count_18 : decode cX10_count 18 = .ok (.getfield 66, 3) := by decide +kernel
theorem dX10_count_21 : decode cX10_count 21 = .ok (.goto 22, 3) := by decide +kernel
theorem dX10_count_24 : decode cX10_count 24 = .ok (.iload_n 1, 1) := by decide +kernel
theorem dX10_count_25 : decode cX10_count 25 = .ok (.bipush 7, 2) := by decide +kernel
theorem dX10_count_27 : decode cX10_count 27 = .ok (.if_icmp .ne 10, 3) := by decide +kernel
theorem dX10_count_30 : decode cX10_count 30 = .ok (.aload_n 0, 1) := by decide +kernel
theorem dX10_count_31 : decode cX10_count 31 = .ok (.getfield 93, 3) := by decide +kernel
theorem dX10_count_34 : decode cX10_count 34 = .ok (.goto 9, 3) := by decide +kernel
theorem dX10_count_37 : decode cX10_count 37 = .ok (.aload_n 0, 1) := by decide +kernel
theorem dX10_count_38 : decode cX10_count 38 = .ok (.getfield 59, 3) := by decide +kernel
theorem dX10_count_41 : decode cX10_count 41 = .ok (.iload_n 1, 1) := by decide +kernel
theorem dX10_count_42 : decode cX10_count 42 = .ok (.iaload, 1) := by decide +kernel
theorem dX10_count_43 : decode cX10_count 43 = .ok (.ireturn, 1) := by decide +kernel
end
section
/-! the state: ints by family, index, slot; tool references by family, index, slot -/
abbrev SS : Type := (Nat → Nat → Nat → Int32) × (Nat → Nat → Nat → Option Nat)
def wI (S : SS) (f i : Nat) (r : Nat → Int32) : SS := (fun g j => if g = f ∧ j = i then r else S.1 g j, S.2)
def wR (S : SS) (f i : Nat) (r : Nat → Option Nat) : SS := (S.1, fun g j => if g = f ∧ j = i then r else S.2 g j)
def uI (S : SS) (f i k : Nat) (v : Int32) : SS := wI S f i (upd (S.1 f i) k v)
def uR (S : SS) (f i k : Nat) (v : Option Nat) : SS := wR S f i (va_up (S.2 f i) k v)
theorem wI_eq (S : SS) (f i : Nat) (r : Nat → Int32) : (wI S f i r).1 f i = r := by simp [wI]
theorem wI_ne (S : SS) (f i : Nat) (r : Nat → Int32) {g j : Nat} (h : ¬ (g = f ∧ j = i)) : (wI S f i r).1 g j = S.1 g j := by simp [wI, h]
theorem wR_eq (S : SS) (f i : Nat) (r : Nat → Option Nat) : (wR S f i r).2 f i = r := by simp [wR]
theorem wR_ne (S : SS) (f i : Nat) (r : Nat → Option Nat) {g j : Nat} (h : ¬ (g = f ∧ j = i)) : (wR S f i r).2 g j = S.2 g j := by simp [wR, h]
theorem uI_at (S : SS) (f i k : Nat) (v : Int32) (g j h : Nat) : (uI S f i k v).1 g j h = if g = f ∧ j = i ∧ h = k then v else S.1 g j h := by
  unfold uI wI
  by_cases h1 : g = f ∧ j = i
  · obtain ⟨rfl, rfl⟩ := h1
    simp [upd]
  · have h2 : ¬ (g = f ∧ j = i ∧ h = k) := fun q => h1 ⟨q.1, q.2.1⟩
    simp only [if_neg h1, if_neg h2]
theorem uI_R (S : SS) (f i k : Nat) (v : Int32) : (uI S f i k v).2 = S.2 := rfl
theorem uR_I (S : SS) (f i k : Nat) (v : Option Nat) : (uR S f i k v).1 = S.1 := rfl
theorem uR_at (S : SS) (f i k : Nat) (v : Option Nat) (g j h : Nat) : (uR S f i k v).2 g j h = if g = f ∧ j = i ∧ h = k then v else S.2 g j h := by
  unfold uR wR
  by_cases h1 : g = f ∧ j = i
  · obtain ⟨rfl, rfl⟩ := h1
    simp [va_up]
  · have h2 : ¬ (g = f ∧ j = i ∧ h = k) := fun q => h1 ⟨q.1, q.2.1⟩
    simp only [if_neg h1, if_neg h2]
def mlen : Nat → Nat := fun j => match j with
  | 0 => 10 | 2 => 600 | 3 => 600 | 4 => 600 | 5 => 600 | 6 => 600 | 7 => 4 | 8 => 80 | 9 => 4 | 10 => 4 | 11 => 40 | 12 => 2 | 13 => 16 | 14 => 128 | 15 => 4 | 16 => 4
  | _ => 7
def mcl (cy : Nat → ClassId) : Nat → ClassId := fun j => match j with
  | 5 => cy 1 | 15 => cy 1
  | _ => cy 0
abbrev rq (q : Nat → Option Nat) : (Nat → Int32) ⊕ (Nat → Int64) ⊕ (Nat → UInt32) ⊕ (Nat → UInt64) ⊕ (Nat → Option Nat) := .inr (.inr (.inr (.inr q)))
def tE (r : Nat → Int32) : va_E := if r 4 = 0 then .inr (4, [.int (r 0), .int (r 1), .int (r 2)]) else if r 4 = 1 then .inr (0, [.int (r 0), .int (r 1), .int (r 2), .int (r 3)]) else if r 4 = 2 then .inr (1, [.int (r 3), .int (r 0), .int (r 1), .int (r 2)]) else .inr (2, [.int (r 0), .int (r 1), .int (r 2)])
def tq (ad : Nat → Nat → Nat) (q : Nat → Option Nat) : Nat → Option Nat := fun i => (q i).map (ad 16)
def sh (cy : Nat → ClassId) (ad : Nat → Nat → Nat) (f i : Nat) (r : Nat → Int32) (q : Nat → Option Nat) : va_E := match f with
  | 0 => .inr (7, [.ref (ad 1 0), .ref (ad 2 0), .ref (ad 3 0), .ref (ad 4 0), .ref (ad 5 0), .ref (ad 6 0), .ref (ad 7 0), .int (r 7), .int (r 8), .int (r 9)])
  | 1 => .inl (cy 2, 10, rq (tq ad q))
  | 2 => .inl (cy 3, 4, rq (fun j => some (ad 8 j)))
  | 3 => .inl (cy 4, 4, rq (fun j => some (ad 10 j)))
  | 4 => .inl (cy 5, 2, rq (fun j => some (ad 12 j)))
  | 5 => .inl (cy 1, 4, .inl r)
  | 6 => .inl (cy 0, 4, .inl r)
  | 7 => .inl (cy 0, 7, .inl r)
  | 8 => .inr (6, [.int (r 0), .ref (ad 9 i)])
  | 9 => .inl (cy 0, 20, .inl r)
  | 10 => .inr (5, [.int (r 0), .ref (ad 11 i), .int (r 2)])
  | 11 => .inl (cy 2, 10, rq (tq ad q))
  | 12 => .inr (3, [.int (r 0), .ref (ad 13 i)])
  | 13 => .inl (cy 3, 8, rq (fun j => some (ad 14 (8 * i + j))))
  | 14 => .inr (6, [.int (r 0), .ref (ad 15 i)])
  | 15 => .inl (cy 0, 8, .inl r)
  | 16 => tE r
  | 17 => .inr (8, [.ref (ad 18 0), .int (r 1), .ref (ad 18 2), .ref (ad 18 3), .ref (ad 18 4), .ref (ad 18 5), .ref (ad 18 6), .ref (ad 18 7), .ref (ad 18 8), .ref (ad 18 9), .ref (ad 18 10), .ref (ad 18 11), .ref (ad 18 12), .ref (ad 18 13), .ref (ad 18 14), .ref (ad 18 15), .ref (ad 18 16), .int (r 17), .int (r 18), .ref (ad 18 19), .int (r 20)])
  | _ => .inl (mcl cy i, mlen i, .inl r)
def idx (n f : Nat) : List Nat := match f with
  | 8 => List.range 4 | 9 => List.range 4 | 10 => List.range 4 | 11 => List.range 4
  | 12 => List.range 2 | 13 => List.range 2 | 14 => List.range 16 | 15 => List.range 16
  | 16 => List.range n
  | 18 => [0, 2, 3, 4, 5, 6, 7, 8, 9, 10, 11, 12, 13, 14, 15, 16, 19]
  | _ => [0]
def nmB : List (Nat × Nat) := [0, 1, 2, 3, 4, 5, 6, 7, 8, 9, 10, 11, 12, 13, 14, 15, 17, 18].flatMap (fun f => (idx 0 f).map (fun i => (f, i)))
def nms (n : Nat) : List (Nat × Nat) := nmB ++ (List.range n).map (fun i => (16, i))
/-- (f, i) is a cell -/
def isC (n f i : Nat) : Prop := f < 19 ∧ i ∈ idx n f
theorem nms_mem {n f i : Nat} (h : isC n f i) : (f, i) ∈ nms n := by
  obtain ⟨h1, h2⟩ := h
  match f, h1, h2 with
  | 0, _, h => exact List.mem_append_left _ (List.mem_flatMap.mpr ⟨0, by decide, List.mem_map.mpr ⟨i, h, rfl⟩⟩)
  | 1, _, h => exact List.mem_append_left _ (List.mem_flatMap.mpr ⟨1, by decide, List.mem_map.mpr ⟨i, h, rfl⟩⟩)
  | 2, _, h => exact List.mem_append_left _ (List.mem_flatMap.mpr ⟨2, by decide, List.mem_map.mpr ⟨i, h, rfl⟩⟩)
  | 3, _, h => exact List.mem_append_left _ (List.mem_flatMap.mpr ⟨3, by decide, List.mem_map.mpr ⟨i, h, rfl⟩⟩)
  | 4, _, h => exact List.mem_append_left _ (List.mem_flatMap.mpr ⟨4, by decide, List.mem_map.mpr ⟨i, h, rfl⟩⟩)
  | 5, _, h => exact List.mem_append_left _ (List.mem_flatMap.mpr ⟨5, by decide, List.mem_map.mpr ⟨i, h, rfl⟩⟩)
  | 6, _, h => exact List.mem_append_left _ (List.mem_flatMap.mpr ⟨6, by decide, List.mem_map.mpr ⟨i, h, rfl⟩⟩)
  | 7, _, h => exact List.mem_append_left _ (List.mem_flatMap.mpr ⟨7, by decide, List.mem_map.mpr ⟨i, h, rfl⟩⟩)
  | 8, _, h => exact List.mem_append_left _ (List.mem_flatMap.mpr ⟨8, by decide, List.mem_map.mpr ⟨i, h, rfl⟩⟩)
  | 9, _, h => exact List.mem_append_left _ (List.mem_flatMap.mpr ⟨9, by decide, List.mem_map.mpr ⟨i, h, rfl⟩⟩)
  | 10, _, h => exact List.mem_append_left _ (List.mem_flatMap.mpr ⟨10, by decide, List.mem_map.mpr ⟨i, h, rfl⟩⟩)
  | 11, _, h => exact List.mem_append_left _ (List.mem_flatMap.mpr ⟨11, by decide, List.mem_map.mpr ⟨i, h, rfl⟩⟩)
  | 12, _, h => exact List.mem_append_left _ (List.mem_flatMap.mpr ⟨12, by decide, List.mem_map.mpr ⟨i, h, rfl⟩⟩)
  | 13, _, h => exact List.mem_append_left _ (List.mem_flatMap.mpr ⟨13, by decide, List.mem_map.mpr ⟨i, h, rfl⟩⟩)
  | 14, _, h => exact List.mem_append_left _ (List.mem_flatMap.mpr ⟨14, by decide, List.mem_map.mpr ⟨i, h, rfl⟩⟩)
  | 15, _, h => exact List.mem_append_left _ (List.mem_flatMap.mpr ⟨15, by decide, List.mem_map.mpr ⟨i, h, rfl⟩⟩)
  | 16, _, h => exact List.mem_append_right _ (List.mem_map.mpr ⟨i, h, rfl⟩)
  | 17, _, h => exact List.mem_append_left _ (List.mem_flatMap.mpr ⟨17, by decide, List.mem_map.mpr ⟨i, h, rfl⟩⟩)
  | 18, _, h => exact List.mem_append_left _ (List.mem_flatMap.mpr ⟨18, by decide, List.mem_map.mpr ⟨i, h, rfl⟩⟩)
  | f + 19, h, _ => exact absurd h (by omega)
def ce (cy : Nat → ClassId) (ad : Nat → Nat → Nat) (S : SS) (x : Nat × Nat) : Nat × va_E := (ad x.1 x.2, sh cy ad x.1 x.2 (S.1 x.1 x.2) (S.2 x.1 x.2))
def pool (cy : Nat → ClassId) (ad : Nat → Nat → Nat) (n : Nat) (S : SS) : va_W := (nms n).map (ce cy ad S)
abbrev tysOf (cy : Nat → ClassId) : List (ClassId × FieldType) := [(cy 0, .int), (cy 1, .boolean), (cy 2, .object "ToolRoom$Tool"), (cy 3, .object "ToolRoom$Row"), (cy 4, .object "ToolRoom$Rack"), (cy 5, .object "ToolRoom$Grid")]
theorem pool_at {cy : Nat → ClassId} {ad : Nat → Nat → Nat} {n : Nat} {S : SS} {f i : Nat} (h : isC n f i) : ∃ k : Nat, (nms n)[k]? = some (f, i) ∧ (pool cy ad n S)[k]? = some (ad f i, sh cy ad f i (S.1 f i) (S.2 f i)) := by
  obtain ⟨k, hk⟩ := List.getElem?_of_mem (nms_mem h)
  exact ⟨k, hk, by unfold pool; rw [List.getElem?_map, hk]; rfl⟩
theorem pool_set {A : Nat → Prop} {cy : Nat → ClassId} {ad : Nat → Nat → Nat} {n : Nat} {S S' : SS} {f i k : Nat} (hD : va_D A (pool cy ad n S)) (hk : (nms n)[k]? = some (f, i)) (h' : ∀ g j, ¬ (g = f ∧ j = i) → S'.1 g j = S.1 g j ∧ S'.2 g j = S.2 g j) :
    (pool cy ad n S).set k (ad f i, sh cy ad f i (S'.1 f i) (S'.2 f i)) = pool cy ad n S' := by
  have hl : k < (pool cy ad n S).length := by unfold pool; rw [List.length_map]; exact (List.getElem?_eq_some_iff.mp hk).1
  apply List.ext_getElem?
  intro j
  by_cases hj : j = k
  · subst hj
    rw [List.getElem?_set_self hl]
    unfold pool
    rw [List.getElem?_map, hk]
    rfl
  · rw [List.getElem?_set_ne (Ne.symm hj)]
    unfold pool
    rw [List.getElem?_map, List.getElem?_map]
    cases hx : (nms n)[j]? with
    | none => rfl
    | some x =>
      have hne : ¬ (x.1 = f ∧ x.2 = i) := by
        rintro ⟨h1, h2⟩
        have hx2 : x = (f, i) := Prod.ext h1 h2
        subst hx2
        refine hj (hD.1 j k (ce cy ad S (f, i)) (ce cy ad S (f, i)) ?_ ?_ rfl)
        · unfold pool; rw [List.getElem?_map, hx]; rfl
        · unfold pool; rw [List.getElem?_map, hk]; rfl
      obtain ⟨e1, e2⟩ := h' x.1 x.2 hne
      show some (ce cy ad S x) = some (ce cy ad S' x)
      unfold ce
      rw [e1, e2]
theorem tq_up (ad : Nat → Nat → Nat) (q : Nat → Option Nat) (k t : Nat) : tq ad (va_up q k (some t)) = va_up (tq ad q) k (some (ad 16 t)) := by
  funext j
  by_cases h : j = k <;> simp [tq, va_up, h]
theorem tq_upN (ad : Nat → Nat → Nat) (q : Nat → Option Nat) (k : Nat) : tq ad (va_up q k none) = va_up (tq ad q) k none := by
  funext j
  by_cases h : j = k <;> simp [tq, va_up, h]
/-- what the tables say beside words: castable, not castable, arrays of classes, abstract methods, private constructors of nest mates -/
def xCast : List (String × String) := [("ToolRoom$Blade", "ToolRoom$Tool"), ("ToolRoom$FileBlade", "ToolRoom$Tool"), ("ToolRoom$Gauge", "ToolRoom$Tool"), ("ToolRoom$Hammer", "ToolRoom$Tool"), ("ToolRoom$Blade", "ToolRoom$Blade"), ("ToolRoom$FileBlade", "ToolRoom$Blade"), ("ToolRoom$Gauge", "ToolRoom$Gauge")]
def xNot : List (String × String) := [("ToolRoom$Gauge", "ToolRoom$Blade"), ("ToolRoom$Hammer", "ToolRoom$Blade"), ("ToolRoom$Blade", "ToolRoom$Gauge"), ("ToolRoom$FileBlade", "ToolRoom$Gauge"), ("ToolRoom$Hammer", "ToolRoom$Gauge")]
def xOver : List String := ["ToolRoom$Tool", "ToolRoom$Row", "ToolRoom$Rack", "ToolRoom$Grid"]
def xDecl : List MethodName := [⟨"ToolRoom$Holder", "vanish", "()Z"⟩, ⟨"ToolRoom$Tool", "kindNumber", "()I"⟩, ⟨"ToolRoom$Tool", "weight", "()I"⟩, ⟨"ToolRoom$Tool", "work", "(I)I"⟩]
def xNest : List (String × Nat × MethodName × String) := [("ToolRoom", 125, yX4_init, "ToolRoom"), ("ToolRoom", 126, yX0_init, "ToolRoom"), ("ToolRoom", 129, yX1_init, "ToolRoom"), ("ToolRoom", 132, yX2_init, "ToolRoom"), ("ToolRoom", 57, yX6_init, "ToolRoom"), ("ToolRoom$Blade", 3, yX8_init, "ToolRoom"), ("ToolRoom$FileBlade", 3, yX0_init, "ToolRoom"), ("ToolRoom$Gauge", 3, yX8_init, "ToolRoom"), ("ToolRoom$Grid", 3, yX5_init, "ToolRoom"), ("ToolRoom$Hammer", 3, yX8_init, "ToolRoom"), ("ToolRoom$Rack", 3, yX5_init, "ToolRoom"), ("ToolRoom$Row", 1, yX5_init, "ToolRoom")]
def Fx (U : State) : Prop := (∀ q ∈ xCast, va_Nw (.castable q.1 q.2) U) ∧ (∀ q ∈ xNot, va_Nc q.1 q.2 U) ∧ (∀ q ∈ xOver, va_AO q U) ∧ (∀ q ∈ xDecl, va_Nw (.declares q) U) ∧ ∀ q ∈ xNest, va_Nw (.methodLinkNest q.1 q.2.1 q.2.2.1 q.2.2.2) U
theorem Fx.warm {s U : State} (hW : s.WarmedH U.vm) (h : Fx s) : Fx U :=
  ⟨fun q hq => va_Nw.warmC hW (h.1 q hq), fun q hq => (h.2.1 q hq).moved hW.alike, fun q hq => (h.2.2.1 q hq).moved hW.alike, fun q hq => va_Nw.warmD hW (h.2.2.2.1 q hq), fun q hq => va_Nw.warmM hW (h.2.2.2.2 q hq)⟩
theorem Fx.vm {s U : State} (hv : s.vm = U.vm) (h : Fx s) : Fx U :=
  ⟨fun q hq => va_tabs rfl hv (h.1 q hq), fun q hq => (h.2.1 q hq).moved (hv ▸ Vm.Alike.refl s.vm), fun q hq => (h.2.2.1 q hq).moved (hv ▸ Vm.Alike.refl s.vm), fun q hq => va_tabs rfl hv (h.2.2.2.1 q hq), fun q hq => va_tabs rfl hv (h.2.2.2.2 q hq)⟩
/-- the world, inside a method -/
def Gd (D : va_G) (cy : Nat → ClassId) (sz : Nat) (ad : Nat → Nat → Nat) (n : Nat) (S : SS) (H0 H : Heap) (locs : List Loc) : Prop :=
  va_P D vwCl (pool cy ad n S) H ∧ va_D (fun q => sz ≤ q) (pool cy ad n S) ∧ va_S (fun q => sz ≤ q) H0 H locs
def Pre (D : va_G) (cy : Nat → ClassId) (sz : Nat) (ad : Nat → Nat → Nat) (n : Nat) (S : SS) (U : State) : Prop :=
  va_P D vwCl (pool cy ad n S) U.heap ∧ va_D (fun q => sz ≤ q) (pool cy ad n S) ∧ va_K D vwCl (tysOf cy) U ∧ Fx U ∧ sz ≤ U.heap.size
def Po (D : va_G) (cy : Nat → ClassId) (sz : Nat) (ad : Nat → Nat → Nat) (n : Nat) (S : SS) (t : State) : Prop :=
  va_P D vwCl (pool cy ad n S) t.heap ∧ va_D (fun q => sz ≤ q) (pool cy ad n S)
theorem Pre.blind {D : va_G} {cy : Nat → ClassId} {sz : Nat} {ad : Nat → Nat → Nat} {n : Nat} {S : SS} {av : List Value} : FrameBlind (va_Pc av (Pre D cy sz ad n S)) := fun a U g mk q =>
  ⟨q.1, q.2.1, q.2.2.1, va_K.moved (u := U) (U := U.calling g mk a) (Vm.Alike.refl U.vm) q.2.2.2.1, Fx.vm (s := U) (U := U.calling g mk a) rfl q.2.2.2.2.1, q.2.2.2.2.2⟩
abbrev wsB (y : MethodName) (b : ByteArray) (mL : Nat) (rt : Option FieldType) : List Cond := .code y b mL rt :: wl
abbrev Rm (fr lo mc ms : Nat) : Room := { frames := fr, cells := mc, slots := ms, locals := lo }
/-- a contract: the answer and the state behind it are F -/
abbrev CI (l : Launch) (y : MethodName) (b : ByteArray) (mL : Nat) (rt : Option FieldType) (fr lo : Nat) (av : List Value) (D : va_G) (cy : Nat → ClassId) (sz : Nat) (ad : Nat → Nat → Nat) (n : Nat) (S : SS) (F : Int32 × SS) : Prop :=
  Met l y (wsB y b mL rt) (Rm fr lo 0 0) (va_Pc av (Pre D cy sz ad n S)) (va_Qi (fun r u => (r, u) = F) (Po D cy sz ad n) (fun q => sz ≤ q)) 0 0 (fun q => sz ≤ q)
/-- a contract of a method that answers nothing -/
abbrev CV (l : Launch) (y : MethodName) (b : ByteArray) (mL : Nat) (fr lo : Nat) (av : List Value) (D : va_G) (cy : Nat → ClassId) (sz : Nat) (ad : Nat → Nat → Nat) (n : Nat) (S : SS) (F : SS) : Prop :=
  Met l y (wsB y b mL none) (Rm fr lo 0 0) (va_Pc av (Pre D cy sz ad n S)) (va_Qv (fun u => u = F) (Po D cy sz ad n) (fun q => sz ≤ q)) 0 0 (fun q => sz ≤ q)
/-- what holds inside a method -/
def En (p : Program) (s : State) (m : MethodId) (args : Array Value) (meth : Method) (c : Code) (cc : ByteArray) (mL : Nat) (rt : Option FieldType) (own : String) (D : va_G) (cy : Nat → ClassId) (sz : Nat) : Prop :=
  p.tables.exec = Jvm.exec ∧ c.code = cc ∧ meth.sig.returnType = rt ∧ c.maxLocals = mL ∧ s.vm.findClass own = some m.cls ∧ (∀ w ∈ wl, w.before args s = true) ∧ meth.locks = false ∧ va_K D vwCl (tysOf cy) s ∧ Fx s ∧ sz ≤ s.heap.size
theorem Met.enter {l : Launch} {y : MethodName} {b : ByteArray} {mL : Nat} {rt : Option FieldType} {rm : Room} {av : List Value} {D : va_G} {cy : Nat → ClassId} {sz : Nat} {ad : Nat → Nat → Nat} {n : Nat} {S : SS} {Qc : Array Value → State → Outcome → State → Prop} {mc ms : Nat} {free : Addr → Prop}
    (hy : plainName y.cls = true) (hlen : (lg_sl av).length ≤ mL)
    (body : ∀ (p : Program) (e : Env) (s : State) (m : MethodId) (args : Array Value) (below : List Frame) (meth : Method) (c : Code) (ls : Array Slot), En p s m args meth c b mL rt y.cls D cy sz → Gd D cy sz ad n S s.heap s.heap [] → lv_has ls mL (lv_args 0 av) →
      W p l e rm s m args below meth c s.heap [] 0 0 (MQ below Qc args s mc ms free) (F0 m 0 ls [])) :
    Met l y (wsB y b mL rt) rm (va_Pc av (Pre D cy sz ad n S)) Qc mc ms free := by
  refine Met.ofW (cc := b) (maxL := mL) (ret := rt) hy rfl ?_
  intro p e s m args below meth c s₁ B hml hv
  obtain ⟨rfl, hP, hD, hK, hF, hsz⟩ := hv
  have hts := atoms_spec (ws := wsB y b mL rt) B.pre
  have hl := lv_entry av (n := mL) hlen
  rw [lg_entry_eq]
  exact body p e s m av.toArray below meth c _ ⟨B.exec, B.bytes, B.returns, hml, findClass_of_methodNamed B.named, fun w hw => hts w (List.mem_cons_of_mem _ hw), B.notSynchronized, hK, hF, hsz⟩ ⟨hP, hD, va_S.rf⟩ hl
end
section
section RW
variable {p : Program} {l : Launch} {e : Env} {R : Room} {s : State} {m : MethodId} {args : Array Value} {below : List Frame} {meth : Method} {c : Code} {H : Heap} {locs : List Loc} {cells slots : Nat} {Q : State → Prop}
variable {cc : ByteArray} {mL : Nat} {rt : Option FieldType} {own : String} {pc : Nat} {ls : Array Slot} {rest : List Value} {D : va_G} {cy : Nat → ClassId} {sz : Nat} {ad : Nat → Nat → Nat} {n : Nat} {S : SS}
theorem En.hA (E : En p s m args meth c cc mL rt own D cy sz) : ∀ q : Nat, s.heap.size ≤ q → (fun q => sz ≤ q) q := fun q h => Nat.le_trans E.2.2.2.2.2.2.2.2.2 h
/-- a field is read -/
theorem q_get (E : En p s m args meth c cc mL rt own D cy sz) (G : Gd D cy sz ad n S s.heap H locs) {ref C : String} {T : u_T} {N ci index : Nat} (hin : ∀ w ∈ u_ws C T N, w ∈ wl) (f i : Nat) (hi : isC n f i) {fs : List Value} (hsh : sh cy ad f i (S.1 f i) (S.2 f i) = .inr (ci, fs)) (hc : vwCl[ci]? = some (C, T, N)) (k : Nat) (hk : k < N)
    (hlink : Cond.fieldLink own index ref (T k).2.1 (T k).2.2.1 ∈ wl) (hsame : (T k).1 = ref ∨ Cond.sameField ref (T k).1 (T k).2.1 (T k).2.2.1 ∈ wl) {v : Value} (hv : fs[k]? = some v) (hdg : decode cc pc = .ok (.getfield index, 3))
    (kk : W p l e R s m args below meth c H locs cells slots Q (F0 m (pc + 3) ls (v :: rest))) : W p l e R s m args below meth c H locs cells slots Q (F0 m pc ls (.ref (ad f i) :: rest)) := by
  obtain ⟨hx, hb, hr, hml, hown, hw, hlk, hK, hF, hsz⟩ := E
  obtain ⟨q0, -, hq⟩ := pool_at (cy := cy) (ad := ad) (S := S) hi
  rw [hsh] at hq
  exact va_get hx hb hw hin hown hK G.1 q0 hq hc k hk (hw _ hlink) (fun x h => hsame.elim (fun z => z ▸ h) (fun z => u_same (hw _ z) x h)) hv hdg kk
/-- an int field is written -/
theorem q_put (E : En p s m args meth c cc mL rt own D cy sz) (G : Gd D cy sz ad n S s.heap H locs) {ref C : String} {T : u_T} {N ci index : Nat} (hin : ∀ w ∈ u_ws C T N, w ∈ wl) (ty0 : Nat → FieldType) (hty : ∀ k, k < N → parseFieldDescriptor (T k).2.2.1 = some (ty0 k)) (hnm : ∀ a, a < N → ∀ b, b < N → a ≠ b → (T a).2.1 ≠ (T b).2.1)
    (f i : Nat) (hi : isC n f i) (j : Nat) {fs : List Value} (hsh : sh cy ad f i (S.1 f i) (S.2 f i) = .inr (ci, fs)) (hc : vwCl[ci]? = some (C, T, N)) (k : Nat) (hk : k < N)
    (hlink : Cond.fieldLink own index ref (T k).2.1 (T k).2.2.1 ∈ wl) (hsame : (T k).1 = ref ∨ Cond.sameField ref (T k).1 (T k).2.1 (T k).2.2.1 ∈ wl) (hfin : (T k).2.2.2 = false) {ty : FieldType} {v : Int32} (hd : parseFieldDescriptor (T k).2.2.1 = some ty) (hn : narrow ty (.int v) = .int v) (hfit : fits ty (.int v) = true) (hl : k < fs.length)
    (hsh' : sh cy ad f i (upd (S.1 f i) j v) (S.2 f i) = .inr (ci, fs.set k (.int v))) (hdg : decode cc pc = .ok (.putfield index, 3))
    (kk : ∀ (H1 : Heap) (locs1 : List Loc), Gd D cy sz ad n (uI S f i j v) s.heap H1 locs1 → W p l e R s m args below meth c H1 locs1 cells slots Q (F0 m (pc + 3) ls rest)) : W p l e R s m args below meth c H locs cells slots Q (F0 m pc ls (.int v :: .ref (ad f i) :: rest)) := by
  obtain ⟨hx, hb, hr, hml, hown, hw, hlk, hK, hF, hsz⟩ := E
  obtain ⟨q0, hn0, hq⟩ := pool_at (cy := cy) (ad := ad) (S := S) hi
  rw [hsh] at hq
  refine va_put hx hb hw hin ty0 hty hnm hown hK G.1 G.2.1 G.2.2 q0 hq hc k hk (hw _ hlink) (fun x h => hsame.elim (fun z => z ▸ h) (fun z => u_same (hw _ z) x h)) hfin hd hn hfit hl hdg (fun H1 locs1 h1 h2 h3 => ?_)
  have e1 : (pool cy ad n S).set q0 (ad f i, .inr (ci, fs.set k (.int v))) = pool cy ad n (uI S f i j v) := by
    rw [← hsh', ← pool_set (S' := uI S f i j v) G.2.1 hn0 (fun g j' h => ⟨wI_ne S f i _ h, rfl⟩)]
    rw [show (uI S f i j v).1 f i = upd (S.1 f i) j v from wI_eq S f i _]
    rfl
  rw [e1] at h1 h2
  exact kk H1 locs1 ⟨h1, h2, h3⟩
/-- an item of an array of ints -/
theorem q_iald (E : En p s m args meth c cc mL rt own D cy sz) (G : Gd D cy sz ad n S s.heap H locs) (f i : Nat) (hi : isC n f i) {N : Nat} (hsh : sh cy ad f i (S.1 f i) (S.2 f i) = .inl (cy 0, N, .inl (S.1 f i))) {x : Int32} (hin : vp_in x N) (hdg : decode cc pc = .ok (.iaload, 1))
    (kk : W p l e R s m args below meth c H locs cells slots Q (F0 m (pc + 1) ls (.int (S.1 f i x.toNatClampNeg) :: rest))) : W p l e R s m args below meth c H locs cells slots Q (F0 m pc ls (.int x :: .ref (ad f i) :: rest)) := by
  obtain ⟨hx, hb, hr, hml, hown, hw, hlk, hK, hF, hsz⟩ := E
  obtain ⟨q0, -, hq⟩ := pool_at (cy := cy) (ad := ad) (S := S) hi
  rw [hsh] at hq
  exact va_iald hx hb hK G.1 q0 0 hq rfl hin hdg kk
theorem q_zald (E : En p s m args meth c cc mL rt own D cy sz) (G : Gd D cy sz ad n S s.heap H locs) (f i : Nat) (hi : isC n f i) {N : Nat} (hsh : sh cy ad f i (S.1 f i) (S.2 f i) = .inl (cy 1, N, .inl (S.1 f i))) {x : Int32} (hin : vp_in x N) (hdg : decode cc pc = .ok (.baload, 1))
    (kk : W p l e R s m args below meth c H locs cells slots Q (F0 m (pc + 1) ls (.int (S.1 f i x.toNatClampNeg) :: rest))) : W p l e R s m args below meth c H locs cells slots Q (F0 m pc ls (.int x :: .ref (ad f i) :: rest)) := by
  obtain ⟨hx, hb, hr, hml, hown, hw, hlk, hK, hF, hsz⟩ := E
  obtain ⟨q0, -, hq⟩ := pool_at (cy := cy) (ad := ad) (S := S) hi
  rw [hsh] at hq
  exact va_zald hx hb hK G.1 q0 1 hq rfl hin hdg kk
theorem q_iast (E : En p s m args meth c cc mL rt own D cy sz) (G : Gd D cy sz ad n S s.heap H locs) (f i : Nat) (hi : isC n f i) {N : Nat} (hsh : ∀ r, sh cy ad f i r (S.2 f i) = .inl (cy 0, N, .inl r)) {x v : Int32} (hin : vp_in x N) (hdg : decode cc pc = .ok (.iastore, 1))
    (kk : ∀ (H1 : Heap) (locs1 : List Loc), Gd D cy sz ad n (uI S f i x.toNatClampNeg v) s.heap H1 locs1 → W p l e R s m args below meth c H1 locs1 cells slots Q (F0 m (pc + 1) ls rest)) : W p l e R s m args below meth c H locs cells slots Q (F0 m pc ls (.int v :: .int x :: .ref (ad f i) :: rest)) := by
  obtain ⟨hx, hb, hr, hml, hown, hw, hlk, hK, hF, hsz⟩ := E
  obtain ⟨q0, hn0, hq⟩ := pool_at (cy := cy) (ad := ad) (S := S) hi
  rw [hsh] at hq
  refine va_iast hx hb hK G.1 G.2.1 G.2.2 q0 0 hq rfl hin hdg (fun H1 locs1 h1 h2 h3 => ?_)
  have e1 : (pool cy ad n S).set q0 (ad f i, .inl (cy 0, N, .inl (upd (S.1 f i) x.toNatClampNeg v))) = pool cy ad n (uI S f i x.toNatClampNeg v) := by
    rw [← hsh, ← pool_set (S' := uI S f i x.toNatClampNeg v) G.2.1 hn0 (fun g j' h => ⟨wI_ne S f i _ h, rfl⟩)]
    rw [show (uI S f i x.toNatClampNeg v).1 f i = upd (S.1 f i) x.toNatClampNeg v from wI_eq S f i _]
    rfl
  rw [e1] at h1 h2
  exact kk H1 locs1 ⟨h1, h2, h3⟩
theorem q_zast (E : En p s m args meth c cc mL rt own D cy sz) (G : Gd D cy sz ad n S s.heap H locs) (f i : Nat) (hi : isC n f i) {N : Nat} (hsh : ∀ r, sh cy ad f i r (S.2 f i) = .inl (cy 1, N, .inl r)) {x v : Int32} (hin : vp_in x N) (hv : vp_nar .boolean v = v) (hdg : decode cc pc = .ok (.bastore, 1))
    (kk : ∀ (H1 : Heap) (locs1 : List Loc), Gd D cy sz ad n (uI S f i x.toNatClampNeg v) s.heap H1 locs1 → W p l e R s m args below meth c H1 locs1 cells slots Q (F0 m (pc + 1) ls rest)) : W p l e R s m args below meth c H locs cells slots Q (F0 m pc ls (.int v :: .int x :: .ref (ad f i) :: rest)) := by
  obtain ⟨hx, hb, hr, hml, hown, hw, hlk, hK, hF, hsz⟩ := E
  obtain ⟨q0, hn0, hq⟩ := pool_at (cy := cy) (ad := ad) (S := S) hi
  rw [hsh] at hq
  refine va_zast hx hb hK G.1 G.2.1 G.2.2 q0 1 hq rfl hin hdg (fun H1 locs1 h1 h2 h3 => ?_)
  rw [hv] at h1 h2
  have e1 : (pool cy ad n S).set q0 (ad f i, .inl (cy 1, N, .inl (upd (S.1 f i) x.toNatClampNeg v))) = pool cy ad n (uI S f i x.toNatClampNeg v) := by
    rw [← hsh, ← pool_set (S' := uI S f i x.toNatClampNeg v) G.2.1 hn0 (fun g j' h => ⟨wI_ne S f i _ h, rfl⟩)]
    rw [show (uI S f i x.toNatClampNeg v).1 f i = upd (S.1 f i) x.toNatClampNeg v from wI_eq S f i _]
    rfl
  rw [e1] at h1 h2
  exact kk H1 locs1 ⟨h1, h2, h3⟩
/-- an item of an array of references -/
theorem q_aald (E : En p s m args meth c cc mL rt own D cy sz) (G : Gd D cy sz ad n S s.heap H locs) (f i : Nat) (hi : isC n f i) {N : Nat} {cA : ClassId} {C : String} {g : Nat → Option Nat} (hsh : sh cy ad f i (S.1 f i) (S.2 f i) = .inl (cA, N, rq g)) (t0 : Nat) (ht : (tysOf cy)[t0]? = some (cA, .object C)) {x : Int32} (hin : vp_in x N) (hdg : decode cc pc = .ok (.aaload, 1))
    (kk : W p l e R s m args below meth c H locs cells slots Q (F0 m (pc + 1) ls (va_rf (g x.toNatClampNeg) :: rest))) : W p l e R s m args below meth c H locs cells slots Q (F0 m pc ls (.int x :: .ref (ad f i) :: rest)) := by
  obtain ⟨hx, hb, hr, hml, hown, hw, hlk, hK, hF, hsz⟩ := E
  obtain ⟨q0, -, hq⟩ := pool_at (cy := cy) (ad := ad) (S := S) hi
  rw [hsh] at hq
  exact va_aldq hx hb hK G.1 q0 t0 hq ht hin hdg kk
/-- nothing is put into an array of tools -/
theorem q_aastN (E : En p s m args meth c cc mL rt own D cy sz) (G : Gd D cy sz ad n S s.heap H locs) (f i : Nat) (hi : isC n f i) {N : Nat} (hsh : ∀ q, sh cy ad f i (S.1 f i) q = .inl (cy 2, N, rq (tq ad q))) {x : Int32} (hin : vp_in x N) (hdg : decode cc pc = .ok (.aastore, 1))
    (kk : ∀ (H1 : Heap) (locs1 : List Loc), Gd D cy sz ad n (uR S f i x.toNatClampNeg none) s.heap H1 locs1 → W p l e R s m args below meth c H1 locs1 cells slots Q (F0 m (pc + 1) ls rest)) : W p l e R s m args below meth c H locs cells slots Q (F0 m pc ls (.null :: .int x :: .ref (ad f i) :: rest)) := by
  obtain ⟨hx, hb, hr, hml, hown, hw, hlk, hK, hF, hsz⟩ := E
  obtain ⟨q0, hn0, hq⟩ := pool_at (cy := cy) (ad := ad) (S := S) hi
  rw [hsh] at hq
  refine va_astqN (C := "ToolRoom$Tool") hx hb hK G.1 G.2.1 G.2.2 q0 2 hq rfl hin hdg (fun H1 locs1 h1 h2 h3 => ?_)
  have e1 : (pool cy ad n S).set q0 (ad f i, .inl (cy 2, N, .inr (.inr (.inr (.inr (va_up (tq ad (S.2 f i)) x.toNatClampNeg none)))))) = pool cy ad n (uR S f i x.toNatClampNeg none) := by
    rw [← tq_upN, ← hsh, ← pool_set (S' := uR S f i x.toNatClampNeg none) G.2.1 hn0 (fun g j' h => ⟨rfl, wR_ne S f i _ h⟩)]
    rw [show (uR S f i x.toNatClampNeg none).2 f i = va_up (S.2 f i) x.toNatClampNeg none from wR_eq S f i _]
    rfl
  rw [e1] at h1 h2
  exact kk H1 locs1 ⟨h1, h2, h3⟩
theorem tE_cases (r : Nat → Int32) : (r 4 = 0 ∧ tE r = .inr (4, [.int (r 0), .int (r 1), .int (r 2)])) ∨ (r 4 = 1 ∧ tE r = .inr (0, [.int (r 0), .int (r 1), .int (r 2), .int (r 3)])) ∨ (r 4 = 2 ∧ tE r = .inr (1, [.int (r 3), .int (r 0), .int (r 1), .int (r 2)])) ∨ ((¬ r 4 = 0 ∧ ¬ r 4 = 1 ∧ ¬ r 4 = 2) ∧ tE r = .inr (2, [.int (r 0), .int (r 1), .int (r 2)])) := by
  unfold tE
  by_cases h0 : r 4 = 0
  · exact Or.inl ⟨h0, by rw [if_pos h0]⟩
  · by_cases h1 : r 4 = 1
    · exact Or.inr (Or.inl ⟨h1, by rw [if_neg h0, if_pos h1]⟩)
    · by_cases h2 : r 4 = 2
      · exact Or.inr (Or.inr (Or.inl ⟨h2, by rw [if_neg h0, if_neg h1, if_pos h2]⟩))
      · exact Or.inr (Or.inr (Or.inr ⟨⟨h0, h1, h2⟩, by rw [if_neg h0, if_neg h1, if_neg h2]⟩))
/-- a tool is put into an array of tools -/
theorem q_aast (E : En p s m args meth c cc mL rt own D cy sz) (G : Gd D cy sz ad n S s.heap H locs) (f i : Nat) (hi : isC n f i) {N : Nat} (hsh : ∀ q, sh cy ad f i (S.1 f i) q = .inl (cy 2, N, rq (tq ad q))) {t : Nat} (ht : t < n) {x : Int32} (hin : vp_in x N) (hdg : decode cc pc = .ok (.aastore, 1))
    (kk : ∀ (H1 : Heap) (locs1 : List Loc), Gd D cy sz ad n (uR S f i x.toNatClampNeg (some t)) s.heap H1 locs1 → W p l e R s m args below meth c H1 locs1 cells slots Q (F0 m (pc + 1) ls rest)) : W p l e R s m args below meth c H locs cells slots Q (F0 m pc ls (.ref (ad 16 t) :: .int x :: .ref (ad f i) :: rest)) := by
  obtain ⟨hx, hb, hr, hml, hown, hw, hlk, hK, hF, hsz⟩ := E
  obtain ⟨q0, hn0, hq⟩ := pool_at (cy := cy) (ad := ad) (S := S) hi
  rw [hsh] at hq
  have hit : isC n 16 t := ⟨by decide, List.mem_range.mpr ht⟩
  obtain ⟨q1, -, hq1⟩ := pool_at (cy := cy) (ad := ad) (S := S) hit
  have e1 : (pool cy ad n S).set q0 (ad f i, .inl (cy 2, N, .inr (.inr (.inr (.inr (va_up (tq ad (S.2 f i)) x.toNatClampNeg (some (ad 16 t)))))))) = pool cy ad n (uR S f i x.toNatClampNeg (some t)) := by
    rw [← tq_up, ← hsh, ← pool_set (S' := uR S f i x.toNatClampNeg (some t)) G.2.1 hn0 (fun g j' h => ⟨rfl, wR_ne S f i _ h⟩)]
    rw [show (uR S f i x.toNatClampNeg (some t)).2 f i = va_up (S.2 f i) x.toNatClampNeg (some t) from wR_eq S f i _]
    rfl
  have k2 : ∀ (H1 : Heap) (locs1 : List Loc), va_P D vwCl ((pool cy ad n S).set q0 (ad f i, .inl (cy 2, N, .inr (.inr (.inr (.inr (va_up (tq ad (S.2 f i)) x.toNatClampNeg (some (ad 16 t))))))))) H1 → va_D (fun q => sz ≤ q) ((pool cy ad n S).set q0 (ad f i, .inl (cy 2, N, .inr (.inr (.inr (.inr (va_up (tq ad (S.2 f i)) x.toNatClampNeg (some (ad 16 t))))))))) → va_S (fun q => sz ≤ q) s.heap H1 locs1 → W p l e R s m args below meth c H1 locs1 cells slots Q (F0 m (pc + 1) ls rest) := by
    intro H1 locs1 h1 h2 h3
    rw [e1] at h1 h2
    exact kk H1 locs1 ⟨h1, h2, h3⟩
  rcases tE_cases (S.1 16 t) with ⟨-, h⟩ | ⟨-, h⟩ | ⟨-, h⟩ | ⟨-, h⟩ <;> rw [show sh cy ad 16 t (S.1 16 t) (S.2 16 t) = tE (S.1 16 t) from rfl, h] at hq1
  · exact va_astqO (E := "ToolRoom$Tool") (r := (RX4, TX4, 3)) hx hb hK G.1 G.2.1 G.2.2 q0 2 q1 4 hq rfl (hF.1 ("ToolRoom$Hammer", "ToolRoom$Tool") (by decide +kernel)) hq1 rfl hin hdg k2
  · exact va_astqO (E := "ToolRoom$Tool") (r := (RX0, TX0, 4)) hx hb hK G.1 G.2.1 G.2.2 q0 2 q1 0 hq rfl (hF.1 ("ToolRoom$Blade", "ToolRoom$Tool") (by decide +kernel)) hq1 rfl hin hdg k2
  · exact va_astqO (E := "ToolRoom$Tool") (r := (RX1, TX1, 4)) hx hb hK G.1 G.2.1 G.2.2 q0 2 q1 1 hq rfl (hF.1 ("ToolRoom$FileBlade", "ToolRoom$Tool") (by decide +kernel)) hq1 rfl hin hdg k2
  · exact va_astqO (E := "ToolRoom$Tool") (r := (RX2, TX2, 3)) hx hb hK G.1 G.2.1 G.2.2 q0 2 q1 2 hq rfl (hF.1 ("ToolRoom$Gauge", "ToolRoom$Tool") (by decide +kernel)) hq1 rfl hin hdg k2
/-- the length of an array of ints -/
theorem q_alen (E : En p s m args meth c cc mL rt own D cy sz) (G : Gd D cy sz ad n S s.heap H locs) (f i : Nat) (hi : isC n f i) {N : Nat} (hsh : sh cy ad f i (S.1 f i) (S.2 f i) = .inl (cy 0, N, .inl (S.1 f i))) {v : Int32} (hv : Int32.ofNat N = v) (hdg : decode cc pc = .ok (.arraylength, 1))
    (kk : W p l e R s m args below meth c H locs cells slots Q (F0 m (pc + 1) ls (.int v :: rest))) : W p l e R s m args below meth c H locs cells slots Q (F0 m pc ls (.ref (ad f i) :: rest)) := by
  obtain ⟨hx, hb, hr, hml, hown, hw, hlk, hK, hF, hsz⟩ := E
  obtain ⟨q0, -, hq⟩ := pool_at (cy := cy) (ad := ad) (S := S) hi
  rw [hsh] at hq
  exact va_alen hx hb hK G.1 q0 0 hq rfl hv hdg kk
/-- the receiver of a call -/
theorem q_recv (E : En p s m args meth c cc mL rt own D cy sz) (G : Gd D cy sz ad n S s.heap H locs) (f i : Nat) (hi : isC n f i) {ci : Nat} {fs : List Value} (hsh : sh cy ad f i (S.1 f i) (S.2 f i) = .inr (ci, fs)) {q : vw_C} (hc : vwCl[ci]? = some q) : ∃ cell : Cell, H[ad f i]? = some cell ∧ cell.vm.isStatics = false ∧ s.vm.findClass q.1 = some cell.cls := by
  obtain ⟨q0, -, hq⟩ := pool_at (cy := cy) (ad := ad) (S := S) hi
  rw [hsh] at hq
  exact va_recv E.2.2.2.2.2.2.2.1 G.1 hc hq
theorem q_pre (E : En p s m args meth c cc mL rt own D cy sz) (G : Gd D cy sz ad n S s.heap H locs) (av : List Value) : ∀ U : State, U.heap = H → s.WarmedH U.vm → va_Pc av (Pre D cy sz ad n S) av.toArray U := fun U hU hW =>
  ⟨rfl, by rw [hU]; exact G.1, G.2.1, va_K.moved hW.alike E.2.2.2.2.2.2.2.1, Fx.warm hW E.2.2.2.2.2.2.2.2.1, by rw [hU]; exact Nat.le_trans E.2.2.2.2.2.2.2.2.2 G.2.2.1⟩

theorem gB {y : MethodName} {b : ByteArray} {k : Nat} {r : Option FieldType} (h : Cond.code y b k r ∈ wl) : GoodIn wl (wsB y b k r) := fun w hw => by
  rcases List.mem_cons.mp hw with rfl | hw
  · exact ⟨h, wl_good _ h⟩
  · exact ⟨hw, wl_good _ hw⟩
theorem gX {y : MethodName} {b : ByteArray} {k : Nat} {r : Option FieldType} (h : Cond.code y b k r ∈ wl) {pre : List Cond} (hp : ∀ w ∈ pre, w ∈ wl) : GoodIn wl (pre ++ wsB y b k r) := fun w hw => by
  rcases List.mem_append.mp hw with hw | hw
  · exact ⟨hp w hw, wl_good _ (hp w hw)⟩
  · exact gB h w hw
end RW
end
section
section CL
variable {p : Program} {l : Launch} {e : Env} {R : Room} {s : State} {m : MethodId} {args : Array Value} {below : List Frame} {meth : Method} {c : Code} {H : Heap} {locs : List Loc} {cells slots : Nat} {Q : State → Prop}
variable {cc : ByteArray} {mL : Nat} {rt : Option FieldType} {own : String} {pc : Nat} {ls : Array Slot} {rest st : List Value} {D : va_G} {cy : Nat → ClassId} {sz : Nat} {ad : Nat → Nat → Nat} {n : Nat} {S : SS}
variable {y : MethodName} {b : ByteArray} {k fr lo index nn : Nat} {r : Option FieldType} {As : List Value} {F : Int32 × SS}
/-- behind a call that answers an int -/
theorem q_back {a : Array Value} (hr : va_Run p l e R s m args below meth c H locs cells slots 0 0 (F0 m pc ls st) rest (va_Qi (fun r u => (r, u) = F) (Po D cy sz ad n) (fun q => sz ≤ q) a) (fun q => sz ≤ q)) (G : Gd D cy sz ad n S s.heap H locs)
    (kk : ∀ (H1 : Heap) (locs1 : List Loc), Gd D cy sz ad n F.2 s.heap H1 locs1 → W p l e R s m args below meth c H1 locs1 cells slots Q (F0 m (pc + 3) ls (.int F.1 :: rest))) : W p l e R s m args below meth c H locs cells slots Q (F0 m pc ls st) := by
  refine va_calli hr G.2.2 (fun q _ h => h) (fun q h => h) (fun r1 u t H1 locs1 ht hvm hp hB hz hk hS => ?_)
  have h1 : r1 = F.1 := congrArg Prod.fst hp
  have h2 : u = F.2 := congrArg Prod.snd hp
  subst h1
  subst h2
  exact kk H1 locs1 ⟨ht ▸ hB.1, hB.2, hS⟩
theorem q_backv {F : SS} {a : Array Value} (hr : va_Run p l e R s m args below meth c H locs cells slots 0 0 (F0 m pc ls st) rest (va_Qv (fun u => u = F) (Po D cy sz ad n) (fun q => sz ≤ q) a) (fun q => sz ≤ q)) (G : Gd D cy sz ad n S s.heap H locs)
    (kk : ∀ (H1 : Heap) (locs1 : List Loc), Gd D cy sz ad n F s.heap H1 locs1 → W p l e R s m args below meth c H1 locs1 cells slots Q (F0 m (pc + 3) ls rest)) : W p l e R s m args below meth c H locs cells slots Q (F0 m pc ls st) := by
  refine va_callv hr G.2.2 (fun q _ h => h) (fun q h => h) (fun u t H1 locs1 ht hvm hp hB hz hk hS => ?_)
  subst hp
  exact kk H1 locs1 ⟨ht ▸ hB.1, hB.2, hS⟩
/-- a method of the receiver's own class is called -/
theorem q_cV (E : En p s m args meth c cc mL rt own D cy sz) (G : Gd D cy sz ad n S s.heap H locs) (f i : Nat) (hi : isC n f i) {ci : Nat} {fs : List Value} (hsh : sh cy ad f i (S.1 f i) (S.2 f i) = .inr (ci, fs)) {C : String} {T : u_T} {N : Nat} (hc : vwCl[ci]? = some (C, T, N))
    (hM : CI l y b k r fr lo (.ref (ad f i) :: As) D cy sz ad n S F) (h1 : Cond.methodLink own index y ∈ wl) (h2 : Cond.instanceMethod y ∈ wl) (h3 : Cond.selects C y y ∈ wl) (h4 : Cond.initialized C ∈ wl) (h5 : Cond.code y b k r ∈ wl)
    (hd : y.cls = C ∧ y.cls ≠ "java/lang/invoke/MethodHandle" ∧ y.cls ≠ "java/lang/invoke/VarHandle" ∧ (parseMethodDescriptor y.desc).map (fun d => d.parameters.length) = some nn) (hR : fr + 1 ≤ R.frames ∧ 8 + (k + 11) + lo ≤ R.locals) (hn : As.length = nn) (hls : ls.size = mL) (hst : st = As.reverse ++ .ref (ad f i) :: rest) (hrest : (rest.map fun v => v.category).sum ≤ 8)
    (hdg : decode cc pc = .ok (.invokevirtual index, 3)) (hcs : cells ≤ R.cells ∧ slots ≤ R.slots)
    (kk : ∀ (H1 : Heap) (locs1 : List Loc), Gd D cy sz ad n F.2 s.heap H1 locs1 → W p l e R s m args below meth c H1 locs1 cells slots Q (F0 m (pc + 3) ls (.int F.1 :: rest))) : W p l e R s m args below meth c H locs cells slots Q (F0 m pc ls st) := by
  obtain ⟨hx, hb, hr, hml, hown, hw, hlk, hK, hF, hsz⟩ := id E
  refine q_back (va_runV (As := As) (rest := rest) ⟨hx, hb, hml, hown, hw⟩ hM (cwV nn hw (gX h5 (fun w hw => by simp only [List.mem_cons, List.not_mem_nil, or_false] at hw; rcases hw with rfl | rfl | rfl | rfl <;> assumption)) rfl rfl rfl hd hR) ⟨Pre.blind, q_recv E G f i hi hsh hc, q_pre E G _⟩ rfl hn hls hst (lv_room hrest) hdg hcs) G kk
theorem q_cVv {F : SS} (E : En p s m args meth c cc mL rt own D cy sz) (G : Gd D cy sz ad n S s.heap H locs) (f i : Nat) (hi : isC n f i) {ci : Nat} {fs : List Value} (hsh : sh cy ad f i (S.1 f i) (S.2 f i) = .inr (ci, fs)) {C : String} {T : u_T} {N : Nat} (hc : vwCl[ci]? = some (C, T, N))
    (hM : CV l y b k fr lo (.ref (ad f i) :: As) D cy sz ad n S F) (h1 : Cond.methodLink own index y ∈ wl) (h2 : Cond.instanceMethod y ∈ wl) (h3 : Cond.selects C y y ∈ wl) (h4 : Cond.initialized C ∈ wl) (h5 : Cond.code y b k none ∈ wl)
    (hd : y.cls = C ∧ y.cls ≠ "java/lang/invoke/MethodHandle" ∧ y.cls ≠ "java/lang/invoke/VarHandle" ∧ (parseMethodDescriptor y.desc).map (fun d => d.parameters.length) = some nn) (hR : fr + 1 ≤ R.frames ∧ 8 + (k + 11) + lo ≤ R.locals) (hn : As.length = nn) (hls : ls.size = mL) (hst : st = As.reverse ++ .ref (ad f i) :: rest) (hrest : (rest.map fun v => v.category).sum ≤ 8)
    (hdg : decode cc pc = .ok (.invokevirtual index, 3)) (hcs : cells ≤ R.cells ∧ slots ≤ R.slots)
    (kk : ∀ (H1 : Heap) (locs1 : List Loc), Gd D cy sz ad n F s.heap H1 locs1 → W p l e R s m args below meth c H1 locs1 cells slots Q (F0 m (pc + 3) ls rest)) : W p l e R s m args below meth c H locs cells slots Q (F0 m pc ls st) := by
  obtain ⟨hx, hb, hr, hml, hown, hw, hlk, hK, hF, hsz⟩ := id E
  refine q_backv (va_runV (As := As) (rest := rest) ⟨hx, hb, hml, hown, hw⟩ hM (cwV nn hw (gX h5 (fun w hw => by simp only [List.mem_cons, List.not_mem_nil, or_false] at hw; rcases hw with rfl | rfl | rfl | rfl <;> assumption)) rfl rfl rfl hd hR) ⟨Pre.blind, q_recv E G f i hi hsh hc, q_pre E G _⟩ rfl hn hls hst (lv_room hrest) hdg hcs) G kk
/-- a static method of the own class is called -/
theorem q_cS (E : En p s m args meth c cc mL rt own D cy sz) (G : Gd D cy sz ad n S s.heap H locs) 
    (hM : CI l y b k r fr lo As D cy sz ad n S F) (h1 : Cond.methodLink own index y ∈ wl) (h2 : Cond.static y ∈ wl) (h4 : Cond.initialized own ∈ wl) (h5 : Cond.code y b k r ∈ wl)
    (hd : y.cls = own ∧ y.cls ≠ "java/lang/invoke/MethodHandle" ∧ y.cls ≠ "java/lang/invoke/VarHandle" ∧ (parseMethodDescriptor y.desc).map (fun d => d.parameters.length) = some nn) (hR : fr + 1 ≤ R.frames ∧ 8 + (k + 11) + lo ≤ R.locals) (hn : As.length = nn) (hls : ls.size = mL) (hst : st = As.reverse ++ rest) (hrest : (rest.map fun v => v.category).sum ≤ 8)
    (hdg : decode cc pc = .ok (.invokestatic index, 3)) (hcs : cells ≤ R.cells ∧ slots ≤ R.slots)
    (kk : ∀ (H1 : Heap) (locs1 : List Loc), Gd D cy sz ad n F.2 s.heap H1 locs1 → W p l e R s m args below meth c H1 locs1 cells slots Q (F0 m (pc + 3) ls (.int F.1 :: rest))) : W p l e R s m args below meth c H locs cells slots Q (F0 m pc ls st) := by
  obtain ⟨hx, hb, hr, hml, hown, hw, hlk, hK, hF, hsz⟩ := id E
  refine q_back (va_runS (As := As) (rest := rest) ⟨hx, hb, hml, hown, hw⟩ hM (cwS nn hw (gX h5 (fun w hw => by simp only [List.mem_cons, List.not_mem_nil, or_false] at hw; rcases hw with rfl | rfl | rfl <;> assumption)) rfl rfl rfl hd hR) ⟨Pre.blind, q_pre E G _⟩ rfl hn hls hst (lv_room hrest) hdg hcs) G kk
/-- an inherited method, by the class that has it -/
theorem q_cU {x : MethodName} {owner : String} (E : En p s m args meth c cc mL rt own D cy sz) (G : Gd D cy sz ad n S s.heap H locs) (f i : Nat) (hi : isC n f i) {ci : Nat} {fs : List Value} (hsh : sh cy ad f i (S.1 f i) (S.2 f i) = .inr (ci, fs)) {C : String} {T : u_T} {N : Nat} (hc : vwCl[ci]? = some (C, T, N))
    (hM : CI l y b k r fr lo (.ref (ad f i) :: As) D cy sz ad n S F) (h1 : Cond.methodLink own index x ∈ wl) (h2 : Cond.sameMethod x.cls owner x.name x.desc ∈ wl) (h3 : Cond.selects C x y ∈ wl) (h6 : Cond.instanceMethod y ∈ wl) (h4 : Cond.initialized y.cls ∈ wl) (h5 : Cond.code y b k r ∈ wl) (hyx : y = ⟨owner, x.name, x.desc⟩)
    (hd : owner ≠ "java/lang/invoke/MethodHandle" ∧ owner ≠ "java/lang/invoke/VarHandle" ∧ (parseMethodDescriptor x.desc).map (fun d => d.parameters.length) = some nn) (hR : fr + 1 ≤ R.frames ∧ 8 + (k + 11) + lo ≤ R.locals) (hn : As.length = nn) (hls : ls.size = mL) (hst : st = As.reverse ++ .ref (ad f i) :: rest) (hrest : (rest.map fun v => v.category).sum ≤ 8)
    (hdg : decode cc pc = .ok (.invokevirtual index, 3)) (hcs : cells ≤ R.cells ∧ slots ≤ R.slots)
    (kk : ∀ (H1 : Heap) (locs1 : List Loc), Gd D cy sz ad n F.2 s.heap H1 locs1 → W p l e R s m args below meth c H1 locs1 cells slots Q (F0 m (pc + 3) ls (.int F.1 :: rest))) : W p l e R s m args below meth c H locs cells slots Q (F0 m pc ls st) := by
  obtain ⟨hx, hb, hr, hml, hown, hw, hlk, hK, hF, hsz⟩ := id E
  refine q_back (va_runU (As := As) (rest := rest) ⟨hx, hb, hml, hown, hw⟩ hM (va_cwU nn hw (gX h5 (fun w hw => by simp only [List.mem_cons, List.not_mem_nil, or_false] at hw; rcases hw with rfl | rfl | rfl | rfl | rfl <;> assumption)) rfl rfl rfl hyx hd hR) ⟨Pre.blind, q_recv E G f i hi hsh hc, q_pre E G _⟩ rfl hn hls hst (lv_room hrest) hdg hcs) G kk
/-- a method that is abstract where the call names it -/
theorem q_cA {x : MethodName} {owner : String} (E : En p s m args meth c cc mL rt own D cy sz) (G : Gd D cy sz ad n S s.heap H locs) (f i : Nat) (hi : isC n f i) {ci : Nat} {fs : List Value} (hsh : sh cy ad f i (S.1 f i) (S.2 f i) = .inr (ci, fs)) {C : String} {T : u_T} {N : Nat} (hc : vwCl[ci]? = some (C, T, N))
    (hM : CI l y b k r fr lo (.ref (ad f i) :: As) D cy sz ad n S F) (h1 : Cond.methodLink own index x ∈ wl) (h2 : Cond.sameMethod x.cls owner x.name x.desc ∈ wl) (h3 : Cond.selects C x y ∈ wl) (h6 : Cond.instanceMethod y ∈ wl) (h4 : Cond.initialized y.cls ∈ wl) (h5 : Cond.code y b k r ∈ wl) (hz : ⟨owner, x.name, x.desc⟩ ∈ xDecl)
    (hd : owner ≠ "java/lang/invoke/MethodHandle" ∧ owner ≠ "java/lang/invoke/VarHandle" ∧ (parseMethodDescriptor x.desc).map (fun d => d.parameters.length) = some nn) (hR : fr + 1 ≤ R.frames ∧ 8 + (k + 11) + lo ≤ R.locals) (hn : As.length = nn) (hls : ls.size = mL) (hst : st = As.reverse ++ .ref (ad f i) :: rest) (hrest : (rest.map fun v => v.category).sum ≤ 8)
    (hdg : decode cc pc = .ok (.invokevirtual index, 3)) (hcs : cells ≤ R.cells ∧ slots ≤ R.slots)
    (kk : ∀ (H1 : Heap) (locs1 : List Loc), Gd D cy sz ad n F.2 s.heap H1 locs1 → W p l e R s m args below meth c H1 locs1 cells slots Q (F0 m (pc + 3) ls (.int F.1 :: rest))) : W p l e R s m args below meth c H locs cells slots Q (F0 m pc ls st) := by
  obtain ⟨hx, hb, hr, hml, hown, hw, hlk, hK, hF, hsz⟩ := id E
  refine q_back (va_runU (As := As) (rest := rest) ⟨hx, hb, hml, hown, hw⟩ hM (va_cwA nn hw (gX h5 (fun w hw => by simp only [List.mem_cons, List.not_mem_nil, or_false] at hw; rcases hw with rfl | rfl | rfl | rfl | rfl <;> assumption)) rfl rfl rfl (hF.2.2.2.1 _ hz) hd hR) ⟨Pre.blind, q_recv E G f i hi hsh hc, q_pre E G _⟩ rfl hn hls hst (lv_room hrest) hdg hcs) G kk
/-- super.method() -/
theorem q_cSup (E : En p s m args meth c cc mL rt own D cy sz) (G : Gd D cy sz ad n S s.heap H locs) (f i : Nat) (hi : isC n f i) {ci : Nat} {fs : List Value} (hsh : sh cy ad f i (S.1 f i) (S.2 f i) = .inr (ci, fs)) {C : String} {T : u_T} {N : Nat} (hc : vwCl[ci]? = some (C, T, N))
    (hM : CI l y b k r fr lo (.ref (ad f i) :: As) D cy sz ad n S F) (h1 : Cond.methodLink own index y ∈ wl) (h2 : Cond.sameMethod y.cls y.cls y.name y.desc ∈ wl) (h3 : Cond.superclass own y.cls ∈ wl) (h6 : Cond.instanceMethod y ∈ wl) (h4 : Cond.initialized y.cls ∈ wl) (h5 : Cond.code y b k r ∈ wl)
    (hd : y.name ≠ "<init>" ∧ (parseMethodDescriptor y.desc).map (fun d => d.parameters.length) = some nn) (hR : fr + 1 ≤ R.frames ∧ 8 + (k + 11) + lo ≤ R.locals) (hn : As.length = nn) (hls : ls.size = mL) (hst : st = As.reverse ++ .ref (ad f i) :: rest) (hrest : (rest.map fun v => v.category).sum ≤ 8)
    (hdg : decode cc pc = .ok (.invokespecial index, 3)) (hcs : cells ≤ R.cells ∧ slots ≤ R.slots)
    (kk : ∀ (H1 : Heap) (locs1 : List Loc), Gd D cy sz ad n F.2 s.heap H1 locs1 → W p l e R s m args below meth c H1 locs1 cells slots Q (F0 m (pc + 3) ls (.int F.1 :: rest))) : W p l e R s m args below meth c H locs cells slots Q (F0 m pc ls st) := by
  obtain ⟨hx, hb, hr, hml, hown, hw, hlk, hK, hF, hsz⟩ := id E
  refine q_back (va_runSU (hK.1 ci _ hc).2 (As := As) (rest := rest) ⟨hx, hb, hml, hown, hw⟩ hM (va_cwSU nn hw (gX h5 (fun w hw => by simp only [List.mem_cons, List.not_mem_nil, or_false] at hw; rcases hw with rfl | rfl | rfl | rfl | rfl <;> assumption)) rfl rfl rfl hd hR) ⟨Pre.blind, q_recv E G f i hi hsh hc, q_pre E G _⟩ rfl hn hls hst (lv_room hrest) hdg hcs) G kk
/-- the end: an int -/
theorem q_iret {fr' : Room} {v : Int32} (E : En p s m args meth c cc mL (some .int) own D cy sz) (G : Gd D cy sz ad n S s.heap H locs) (hF : (v, S) = F) (hdg : decode cc pc = .ok (.ireturn, 1)) :
    W p l e fr' s m args below meth c H locs 0 0 (MQ below (va_Qi (fun r u => (r, u) = F) (Po D cy sz ad n) (fun q => sz ≤ q)) args s 0 0 (fun q => sz ≤ q)) (F0 m pc ls [.int v]) := by
  obtain ⟨hx, hb, hr, hml, hown, hw, hlk, hK, hF2, hsz⟩ := E
  exact W.iret hx hb hr (fun t ht hW => ⟨⟨v, S, rfl, hF, by rw [ht]; exact G.1, G.2.1⟩, G.2.2.F ht⟩) G.2.2.2.2 hdg hlk
theorem q_zret {fr' : Room} {v : Int32} (E : En p s m args meth c cc mL (some .boolean) own D cy sz) (G : Gd D cy sz ad n S s.heap H locs) (hn : narrow .boolean (.int v) = .int v) (hF : (v, S) = F) (hdg : decode cc pc = .ok (.ireturn, 1)) :
    W p l e fr' s m args below meth c H locs 0 0 (MQ below (va_Qi (fun r u => (r, u) = F) (Po D cy sz ad n) (fun q => sz ≤ q)) args s 0 0 (fun q => sz ≤ q)) (F0 m pc ls [.int v]) := by
  obtain ⟨hx, hb, hr, hml, hown, hw, hlk, hK, hF2, hsz⟩ := E
  exact W.zret hx hb hr hn (fun t ht hW => ⟨⟨v, S, rfl, hF, by rw [ht]; exact G.1, G.2.1⟩, G.2.2.F ht⟩) G.2.2.2.2 hdg hlk
theorem q_vret {F : SS} {fr' : Room} (E : En p s m args meth c cc mL none own D cy sz) (G : Gd D cy sz ad n S s.heap H locs) (hF : S = F) (hdg : decode cc pc = .ok (.return_, 1)) :
    W p l e fr' s m args below meth c H locs 0 0 (MQ below (va_Qv (fun u => u = F) (Po D cy sz ad n) (fun q => sz ≤ q)) args s 0 0 (fun q => sz ≤ q)) (F0 m pc ls []) := by
  obtain ⟨hx, hb, hr, hml, hown, hw, hlk, hK, hF2, hsz⟩ := E
  exact W.vret hx hb hr (fun t ht hW => ⟨⟨S, rfl, hF, by rw [ht]; exact G.1, G.2.1⟩, G.2.2.F ht⟩) G.2.2.2.2 hdg hlk
/-- a place of an array of tools -/
theorem q_aaldT (E : En p s m args meth c cc mL rt own D cy sz) (G : Gd D cy sz ad n S s.heap H locs) (f i : Nat) (hi : isC n f i) {N : Nat} (hsh : sh cy ad f i (S.1 f i) (S.2 f i) = .inl (cy 2, N, rq (tq ad (S.2 f i)))) {x : Int32} (hin : vp_in x N) (hdg : decode cc pc = .ok (.aaload, 1))
    (k0 : S.2 f i x.toNatClampNeg = none → W p l e R s m args below meth c H locs cells slots Q (F0 m (pc + 1) ls (.null :: rest)))
    (k1 : ∀ t, S.2 f i x.toNatClampNeg = some t → W p l e R s m args below meth c H locs cells slots Q (F0 m (pc + 1) ls (.ref (ad 16 t) :: rest))) : W p l e R s m args below meth c H locs cells slots Q (F0 m pc ls (.int x :: .ref (ad f i) :: rest)) := by
  refine q_aald (C := "ToolRoom$Tool") E G f i hi hsh 2 rfl hin hdg ?_
  cases h : S.2 f i x.toNatClampNeg with
  | none =>
    have e1 : tq ad (S.2 f i) x.toNatClampNeg = none := by simp [tq, h]
    rw [e1]
    exact k0 h
  | some t =>
    have e1 : tq ad (S.2 f i) x.toNatClampNeg = some (ad 16 t) := by simp [tq, h]
    rw [e1]
    exact k1 t h
/-- a field that every tool has -/
theorem q_getT {ref : String} (E : En p s m args meth c cc mL rt own D cy sz) (G : Gd D cy sz ad n S s.heap H locs) {t : Nat} (ht : t < n) (j : Nat) {nm desc : String} (hj : j < 3) (h4 : TX4 j = ("ToolRoom$Tool", nm, desc, false)) (h0 : TX0 j = ("ToolRoom$Tool", nm, desc, false)) (h1 : TX1 (j + 1) = ("ToolRoom$Tool", nm, desc, false)) (h2 : TX2 j = ("ToolRoom$Tool", nm, desc, false))
    (hlink : Cond.fieldLink own index ref nm desc ∈ wl) (hsame : "ToolRoom$Tool" = ref ∨ Cond.sameField ref "ToolRoom$Tool" nm desc ∈ wl) (hdg : decode cc pc = .ok (.getfield index, 3))
    (kk : W p l e R s m args below meth c H locs cells slots Q (F0 m (pc + 3) ls (.int (S.1 16 t j) :: rest))) : W p l e R s m args below meth c H locs cells slots Q (F0 m pc ls (.ref (ad 16 t) :: rest)) := by
  have hit : isC n 16 t := ⟨by decide, List.mem_range.mpr ht⟩
  rcases tE_cases (S.1 16 t) with ⟨-, h⟩ | ⟨-, h⟩ | ⟨-, h⟩ | ⟨-, h⟩
  · exact q_get (index := index) (ref := ref) E G inX4 16 t hit h rfl j (by omega) (by rw [h4]; exact hlink) (by rw [h4]; exact hsame) (by rcases (show j = 0 ∨ j = 1 ∨ j = 2 by omega) with rfl | rfl | rfl <;> rfl) hdg kk
  · exact q_get (index := index) (ref := ref) E G inX0 16 t hit h rfl j (by omega) (by rw [h0]; exact hlink) (by rw [h0]; exact hsame) (by rcases (show j = 0 ∨ j = 1 ∨ j = 2 by omega) with rfl | rfl | rfl <;> rfl) hdg kk
  · exact q_get (index := index) (ref := ref) E G inX1 16 t hit h rfl (j + 1) (by omega) (by rw [h1]; exact hlink) (by rw [h1]; exact hsame) (by rcases (show j = 0 ∨ j = 1 ∨ j = 2 by omega) with rfl | rfl | rfl <;> rfl) hdg kk
  · exact q_get (index := index) (ref := ref) E G inX2 16 t hit h rfl j (by omega) (by rw [h2]; exact hlink) (by rw [h2]; exact hsame) (by rcases (show j = 0 ∨ j = 1 ∨ j = 2 by omega) with rfl | rfl | rfl <;> rfl) hdg kk
theorem tE_upd (r : Nat → Int32) (j : Nat) (v : Int32) (hj : j < 3) : ((r 4 = 0 ∧ tE r = .inr (4, [.int (r 0), .int (r 1), .int (r 2)]) ∧ tE (upd r j v) = .inr (4, [.int (r 0), .int (r 1), .int (r 2)].set j (.int v))) ∨ (r 4 = 1 ∧ tE r = .inr (0, [.int (r 0), .int (r 1), .int (r 2), .int (r 3)]) ∧ tE (upd r j v) = .inr (0, [.int (r 0), .int (r 1), .int (r 2), .int (r 3)].set j (.int v)))) ∨ ((r 4 = 2 ∧ tE r = .inr (1, [.int (r 3), .int (r 0), .int (r 1), .int (r 2)]) ∧ tE (upd r j v) = .inr (1, [.int (r 3), .int (r 0), .int (r 1), .int (r 2)].set (j + 1) (.int v))) ∨ ((¬ r 4 = 0 ∧ ¬ r 4 = 1 ∧ ¬ r 4 = 2) ∧ tE r = .inr (2, [.int (r 0), .int (r 1), .int (r 2)]) ∧ tE (upd r j v) = .inr (2, [.int (r 0), .int (r 1), .int (r 2)].set j (.int v)))) := by
  unfold tE
  by_cases h0 : r 4 = 0
  · refine Or.inl (Or.inl ⟨h0, by rw [if_pos h0], ?_⟩)
    rcases (show j = 0 ∨ j = 1 ∨ j = 2 by omega) with rfl | rfl | rfl <;> simp [upd, h0]
  · by_cases h1 : r 4 = 1
    · refine Or.inl (Or.inr ⟨h1, by rw [if_neg h0, if_pos h1], ?_⟩)
      rcases (show j = 0 ∨ j = 1 ∨ j = 2 by omega) with rfl | rfl | rfl <;> simp [upd, h1]
    · by_cases h2 : r 4 = 2
      · refine Or.inr (Or.inl ⟨h2, by rw [if_neg h0, if_neg h1, if_pos h2], ?_⟩)
        rcases (show j = 0 ∨ j = 1 ∨ j = 2 by omega) with rfl | rfl | rfl <;> simp [upd, h2]
      · refine Or.inr (Or.inr ⟨⟨h0, h1, h2⟩, by rw [if_neg h0, if_neg h1, if_neg h2], ?_⟩)
        rcases (show j = 0 ∨ j = 1 ∨ j = 2 by omega) with rfl | rfl | rfl <;> simp [upd, h0, h1, h2]
theorem q_putT {ref : String} (E : En p s m args meth c cc mL rt own D cy sz) (G : Gd D cy sz ad n S s.heap H locs) {t : Nat} (ht : t < n) (j : Nat) {nm desc : String} (hj : j < 3) (h4 : TX4 j = ("ToolRoom$Tool", nm, desc, false)) (h0 : TX0 j = ("ToolRoom$Tool", nm, desc, false)) (h1 : TX1 (j + 1) = ("ToolRoom$Tool", nm, desc, false)) (h2 : TX2 j = ("ToolRoom$Tool", nm, desc, false))
    (hlink : Cond.fieldLink own index ref nm desc ∈ wl) (hsame : "ToolRoom$Tool" = ref ∨ Cond.sameField ref "ToolRoom$Tool" nm desc ∈ wl) {ty : FieldType} {v : Int32} (hd : parseFieldDescriptor desc = some ty) (hn : narrow ty (.int v) = .int v) (hfit : fits ty (.int v) = true) (hdg : decode cc pc = .ok (.putfield index, 3))
    (kk : ∀ (H1 : Heap) (locs1 : List Loc), Gd D cy sz ad n (uI S 16 t j v) s.heap H1 locs1 → W p l e R s m args below meth c H1 locs1 cells slots Q (F0 m (pc + 3) ls rest)) : W p l e R s m args below meth c H locs cells slots Q (F0 m pc ls (.int v :: .ref (ad 16 t) :: rest)) := by
  have hit : isC n 16 t := ⟨by decide, List.mem_range.mpr ht⟩
  rcases tE_upd (S.1 16 t) j v hj with (⟨-, h, h'⟩ | ⟨-, h, h'⟩) | (⟨-, h, h'⟩ | ⟨-, h, h'⟩)
  · exact q_put (index := index) (ref := ref) E G inX4 tyX4 tyX4_ok nmX4 16 t hit j h rfl j (by omega) (by rw [h4]; exact hlink) (by rw [h4]; exact hsame) (by rw [h4]) (by rw [h4]; exact hd) hn hfit (by show j < 3; omega) h' hdg kk
  · exact q_put (index := index) (ref := ref) E G inX0 tyX0 tyX0_ok nmX0 16 t hit j h rfl j (by omega) (by rw [h0]; exact hlink) (by rw [h0]; exact hsame) (by rw [h0]) (by rw [h0]; exact hd) hn hfit (by show j < 4; omega) h' hdg kk
  · exact q_put (index := index) (ref := ref) E G inX1 tyX1 tyX1_ok nmX1 16 t hit j h rfl (j + 1) (by omega) (by rw [h1]; exact hlink) (by rw [h1]; exact hsame) (by rw [h1]) (by rw [h1]; exact hd) hn hfit (by show j + 1 < 4; omega) h' hdg kk
  · exact q_put (index := index) (ref := ref) E G inX2 tyX2 tyX2_ok nmX2 16 t hit j h rfl j (by omega) (by rw [h2]; exact hlink) (by rw [h2]; exact hsame) (by rw [h2]) (by rw [h2]; exact hd) hn hfit (by show j < 3; omega) h' hdg kk
/-- a BLADE's edge -/
theorem q_getE {ref : String} (E : En p s m args meth c cc mL rt own D cy sz) (G : Gd D cy sz ad n S s.heap H locs) {t : Nat} (ht : t < n) (hk : S.1 16 t 4 = 1 ∨ S.1 16 t 4 = 2) (hlink : Cond.fieldLink own index ref "edge" "I" ∈ wl) (hsame : "ToolRoom$Blade" = ref ∨ Cond.sameField ref "ToolRoom$Blade" "edge" "I" ∈ wl) (hdg : decode cc pc = .ok (.getfield index, 3))
    (kk : W p l e R s m args below meth c H locs cells slots Q (F0 m (pc + 3) ls (.int (S.1 16 t 3) :: rest))) : W p l e R s m args below meth c H locs cells slots Q (F0 m pc ls (.ref (ad 16 t) :: rest)) := by
  have hit : isC n 16 t := ⟨by decide, List.mem_range.mpr ht⟩
  rcases hk with hk | hk
  · exact q_get (index := index) (ref := ref) E G inX0 16 t hit (ci := 0) (fs := [.int (S.1 16 t 0), .int (S.1 16 t 1), .int (S.1 16 t 2), .int (S.1 16 t 3)]) (by show tE _ = _; simp [tE, hk]) rfl 3 (by decide) hlink hsame rfl hdg kk
  · exact q_get (index := index) (ref := ref) E G inX1 16 t hit (ci := 1) (fs := [.int (S.1 16 t 3), .int (S.1 16 t 0), .int (S.1 16 t 1), .int (S.1 16 t 2)]) (by show tE _ = _; simp [tE, hk]) rfl 0 (by decide) hlink hsame rfl hdg kk
theorem q_putE {ref : String} (E : En p s m args meth c cc mL rt own D cy sz) (G : Gd D cy sz ad n S s.heap H locs) {t : Nat} (ht : t < n) (hk : S.1 16 t 4 = 1 ∨ S.1 16 t 4 = 2) (hlink : Cond.fieldLink own index ref "edge" "I" ∈ wl) (hsame : "ToolRoom$Blade" = ref ∨ Cond.sameField ref "ToolRoom$Blade" "edge" "I" ∈ wl) {v : Int32} (hdg : decode cc pc = .ok (.putfield index, 3))
    (kk : ∀ (H1 : Heap) (locs1 : List Loc), Gd D cy sz ad n (uI S 16 t 3 v) s.heap H1 locs1 → W p l e R s m args below meth c H1 locs1 cells slots Q (F0 m (pc + 3) ls rest)) : W p l e R s m args below meth c H locs cells slots Q (F0 m pc ls (.int v :: .ref (ad 16 t) :: rest)) := by
  have hit : isC n 16 t := ⟨by decide, List.mem_range.mpr ht⟩
  rcases hk with hk | hk
  · exact q_put (index := index) (ref := ref) E G inX0 tyX0 tyX0_ok nmX0 16 t hit 3 (ci := 0) (fs := [.int (S.1 16 t 0), .int (S.1 16 t 1), .int (S.1 16 t 2), .int (S.1 16 t 3)]) (by show tE _ = _; simp [tE, hk]) rfl 3 (by decide) hlink hsame rfl (ty := .int) (by decide +kernel) rfl rfl (by show 3 < 4; decide) (by show tE _ = _; simp [tE, upd, hk]) hdg kk
  · exact q_put (index := index) (ref := ref) E G inX1 tyX1 tyX1_ok nmX1 16 t hit 3 (ci := 1) (fs := [.int (S.1 16 t 3), .int (S.1 16 t 0), .int (S.1 16 t 1), .int (S.1 16 t 2)]) (by show tE _ = _; simp [tE, hk]) rfl 0 (by decide) hlink hsame rfl (ty := .int) (by decide +kernel) rfl rfl (by show 0 < 4; decide) (by show tE _ = _; simp [tE, upd, hk]) hdg kk
theorem q_recvT (E : En p s m args meth c cc mL rt own D cy sz) (G : Gd D cy sz ad n S s.heap H locs) {t : Nat} (ht : t < n) : (S.1 16 t 4 = 0 ∧ ∃ cell : Cell, H[ad 16 t]? = some cell ∧ cell.vm.isStatics = false ∧ s.vm.findClass RX4 = some cell.cls) ∨ (S.1 16 t 4 = 1 ∧ ∃ cell : Cell, H[ad 16 t]? = some cell ∧ cell.vm.isStatics = false ∧ s.vm.findClass RX0 = some cell.cls) ∨ (S.1 16 t 4 = 2 ∧ ∃ cell : Cell, H[ad 16 t]? = some cell ∧ cell.vm.isStatics = false ∧ s.vm.findClass RX1 = some cell.cls) ∨ ((¬ S.1 16 t 4 = 0 ∧ ¬ S.1 16 t 4 = 1 ∧ ¬ S.1 16 t 4 = 2) ∧ ∃ cell : Cell, H[ad 16 t]? = some cell ∧ cell.vm.isStatics = false ∧ s.vm.findClass RX2 = some cell.cls) := by
  have hit : isC n 16 t := ⟨by decide, List.mem_range.mpr ht⟩
  rcases tE_cases (S.1 16 t) with ⟨h0, h⟩ | ⟨h0, h⟩ | ⟨h0, h⟩ | ⟨h0, h⟩
  · exact Or.inl ⟨h0, q_recv E G 16 t hit h (q := (RX4, TX4, 3)) rfl⟩
  · exact Or.inr (Or.inl ⟨h0, q_recv E G 16 t hit h (q := (RX0, TX0, 4)) rfl⟩)
  · exact Or.inr (Or.inr (Or.inl ⟨h0, q_recv E G 16 t hit h (q := (RX1, TX1, 4)) rfl⟩))
  · exact Or.inr (Or.inr (Or.inr ⟨h0, q_recv E G 16 t hit h (q := (RX2, TX2, 3)) rfl⟩))
/-- is it a BLADE -/
theorem q_instB (E : En p s m args meth c cc mL rt own D cy sz) (G : Gd D cy sz ad n S s.heap H locs) {t : Nat} (ht : t < n) (hlink : Cond.classLink own index RX0 ∈ wl) (hdg : decode cc pc = .ok (.instanceof index, 3))
    (k1 : (S.1 16 t 4 = 1 ∨ S.1 16 t 4 = 2) → W p l e R s m args below meth c H locs cells slots Q (F0 m (pc + 3) ls (.int 1 :: rest)))
    (k0 : ¬ (S.1 16 t 4 = 1 ∨ S.1 16 t 4 = 2) → W p l e R s m args below meth c H locs cells slots Q (F0 m (pc + 3) ls (.int 0 :: rest))) : W p l e R s m args below meth c H locs cells slots Q (F0 m pc ls (.ref (ad 16 t) :: rest)) := by
  obtain ⟨hx, hb, hr, hml, hown, hw, hlk, hK, hF, hsz⟩ := id E
  rcases q_recvT E G ht with ⟨h0, h⟩ | ⟨h0, h⟩ | ⟨h0, h⟩ | ⟨h0, h⟩
  · exact va_instNo (nm := RX0) hx hb hown (hw _ hlink) (hF.2.1 ("ToolRoom$Hammer", "ToolRoom$Blade") (by decide +kernel)) h hdg (k0 (by rw [h0]; decide))
  · exact va_instY (nm := RX0) hx hb hown (hw _ hlink) (hF.1 ("ToolRoom$Blade", "ToolRoom$Blade") (by decide +kernel)) h hdg (k1 (Or.inl h0))
  · exact va_instY (nm := RX0) hx hb hown (hw _ hlink) (hF.1 ("ToolRoom$FileBlade", "ToolRoom$Blade") (by decide +kernel)) h hdg (k1 (Or.inr h0))
  · exact va_instNo (nm := RX0) hx hb hown (hw _ hlink) (hF.2.1 ("ToolRoom$Gauge", "ToolRoom$Blade") (by decide +kernel)) h hdg (k0 (fun q => q.elim h0.2.1 h0.2.2))
theorem q_castB (E : En p s m args meth c cc mL rt own D cy sz) (G : Gd D cy sz ad n S s.heap H locs) {t : Nat} (ht : t < n) (hk : S.1 16 t 4 = 1 ∨ S.1 16 t 4 = 2) (hlink : Cond.classLink own index RX0 ∈ wl) (hdg : decode cc pc = .ok (.checkcast index, 3))
    (kk : W p l e R s m args below meth c H locs cells slots Q (F0 m (pc + 3) ls (.ref (ad 16 t) :: rest))) : W p l e R s m args below meth c H locs cells slots Q (F0 m pc ls (.ref (ad 16 t) :: rest)) := by
  obtain ⟨hx, hb, hr, hml, hown, hw, hlk, hK, hF, hsz⟩ := id E
  rcases q_recvT E G ht with ⟨h0, h⟩ | ⟨h0, h⟩ | ⟨h0, h⟩ | ⟨h0, h⟩
  · exact absurd hk (by rw [h0]; decide)
  · exact va_castY (nm := RX0) hx hb hown (hw _ hlink) (hF.1 ("ToolRoom$Blade", "ToolRoom$Blade") (by decide +kernel)) h hdg kk
  · exact va_castY (nm := RX0) hx hb hown (hw _ hlink) (hF.1 ("ToolRoom$FileBlade", "ToolRoom$Blade") (by decide +kernel)) h hdg kk
  · exact absurd hk (fun q => q.elim h0.2.1 h0.2.2)
/-- is it a GAUGE -/
theorem q_instG (E : En p s m args meth c cc mL rt own D cy sz) (G : Gd D cy sz ad n S s.heap H locs) {t : Nat} (ht : t < n) (hlink : Cond.classLink own index RX2 ∈ wl) (hdg : decode cc pc = .ok (.instanceof index, 3))
    (k1 : (¬ S.1 16 t 4 = 0 ∧ ¬ S.1 16 t 4 = 1 ∧ ¬ S.1 16 t 4 = 2) → W p l e R s m args below meth c H locs cells slots Q (F0 m (pc + 3) ls (.int 1 :: rest)))
    (k0 : ¬ (¬ S.1 16 t 4 = 0 ∧ ¬ S.1 16 t 4 = 1 ∧ ¬ S.1 16 t 4 = 2) → W p l e R s m args below meth c H locs cells slots Q (F0 m (pc + 3) ls (.int 0 :: rest))) : W p l e R s m args below meth c H locs cells slots Q (F0 m pc ls (.ref (ad 16 t) :: rest)) := by
  obtain ⟨hx, hb, hr, hml, hown, hw, hlk, hK, hF, hsz⟩ := id E
  rcases q_recvT E G ht with ⟨h0, h⟩ | ⟨h0, h⟩ | ⟨h0, h⟩ | ⟨h0, h⟩
  · exact va_instNo (nm := RX2) hx hb hown (hw _ hlink) (hF.2.1 ("ToolRoom$Hammer", "ToolRoom$Gauge") (by decide +kernel)) h hdg (k0 (fun q => q.1 h0))
  · exact va_instNo (nm := RX2) hx hb hown (hw _ hlink) (hF.2.1 ("ToolRoom$Blade", "ToolRoom$Gauge") (by decide +kernel)) h hdg (k0 (fun q => q.2.1 h0))
  · exact va_instNo (nm := RX2) hx hb hown (hw _ hlink) (hF.2.1 ("ToolRoom$FileBlade", "ToolRoom$Gauge") (by decide +kernel)) h hdg (k0 (fun q => q.2.2 h0))
  · exact va_instY (nm := RX2) hx hb hown (hw _ hlink) (hF.1 ("ToolRoom$Gauge", "ToolRoom$Gauge") (by decide +kernel)) h hdg (k1 h0)
end CL
end
section
def wi (x b : Int32) : Bool := decide (0 ≤ x) && decide (x < b)
def wj (x a b : Int32) : Bool := decide (a ≤ x) && decide (x ≤ b)
theorem vp_lt {x : Int32} {N : Nat} (h : vp_in x N) : x.toNatClampNeg < N := Nat.not_le.mp fun q => h (Or.inr q)
theorem wi_le {x b : Int32} {N : Nat} (h : wi x b = true) (hb : b ≤ nI N) (hN : N < 2 ^ 31) : vp_in x N := by
  unfold wi at h
  simp only [Bool.and_eq_true, decide_eq_true_eq] at h
  have h1 := Int32.le_iff_toInt_le.mp h.1
  have h2 := Int32.lt_iff_toInt_lt.mp h.2
  have h3 := Int32.le_iff_toInt_le.mp hb
  rw [nI_toInt hN] at h3
  exact vp_in_iff.mpr ⟨by simpa using h1, by omega⟩
theorem wi_in {x b : Int32} {N : Nat} (h : wi x b = true) (hb : b = nI N) (hN : N < 2 ^ 31) : vp_in x N := wi_le h (by rw [hb]; exact Int32.le_refl _) hN
theorem wj_in {x b : Int32} {N : Nat} (h : wj x 0 b = true) (hb : b = nI N) (hN : N + 1 < 2 ^ 31) : vp_in x (N + 1) := by
  unfold wj at h
  simp only [Bool.and_eq_true, decide_eq_true_eq] at h
  have h1 := Int32.le_iff_toInt_le.mp h.1
  have h2 := Int32.le_iff_toInt_le.mp h.2
  rw [hb, nI_toInt (by omega)] at h2
  exact vp_in_iff.mpr ⟨by simpa using h1, by omega⟩
theorem c0 {n : Nat} : isC n 0 0 := ⟨by decide, List.mem_cons_self⟩
theorem c1 {n : Nat} : isC n 1 0 := ⟨by decide, List.mem_cons_self⟩
theorem c2 {n : Nat} : isC n 2 0 := ⟨by decide, List.mem_cons_self⟩
theorem c3 {n : Nat} : isC n 3 0 := ⟨by decide, List.mem_cons_self⟩
theorem c4 {n : Nat} : isC n 4 0 := ⟨by decide, List.mem_cons_self⟩
theorem c5 {n : Nat} : isC n 5 0 := ⟨by decide, List.mem_cons_self⟩
theorem c6 {n : Nat} : isC n 6 0 := ⟨by decide, List.mem_cons_self⟩
theorem c7 {n : Nat} : isC n 7 0 := ⟨by decide, List.mem_cons_self⟩
theorem c8 {n t : Nat} (h : t < 4) : isC n 8 t := ⟨by decide, List.mem_range.mpr h⟩
theorem c9 {n t : Nat} (h : t < 4) : isC n 9 t := ⟨by decide, List.mem_range.mpr h⟩
theorem c10 {n t : Nat} (h : t < 4) : isC n 10 t := ⟨by decide, List.mem_range.mpr h⟩
theorem c11 {n t : Nat} (h : t < 4) : isC n 11 t := ⟨by decide, List.mem_range.mpr h⟩
theorem c12 {n t : Nat} (h : t < 2) : isC n 12 t := ⟨by decide, List.mem_range.mpr h⟩
theorem c13 {n t : Nat} (h : t < 2) : isC n 13 t := ⟨by decide, List.mem_range.mpr h⟩
theorem c14 {n t : Nat} (h : t < 16) : isC n 14 t := ⟨by decide, List.mem_range.mpr h⟩
theorem c15 {n t : Nat} (h : t < 16) : isC n 15 t := ⟨by decide, List.mem_range.mpr h⟩
theorem c16 {n t : Nat} (h : t < n) : isC n 16 t := ⟨by decide, List.mem_range.mpr h⟩
theorem c17 {n : Nat} : isC n 17 0 := ⟨by decide, List.mem_cons_self⟩
theorem c18 {n : Nat} (j : Nat) (h : j ∈ [0, 2, 3, 4, 5, 6, 7, 8, 9, 10, 11, 12, 13, 14, 15, 16, 19]) : isC n 18 j := ⟨by decide, h⟩
/-- the bounds of the class's cells -/
def okC (n : Nat) (S : SS) : Prop := (∀ f i j k, S.2 f i j = some k → k < n) ∧ (∀ t, t < 4 → S.1 8 t 0 ≤ 20) ∧ (∀ t, t < 4 → S.1 10 t 0 ≤ 10) ∧ (∀ t, t < 2 → S.1 12 t 0 ≤ 8) ∧ ∀ t, t < 16 → S.1 14 t 0 ≤ 8
/-- the bounds of the reference's cells -/
def okM (S : SS) : Prop := (∀ j, j < 10 → S.1 18 0 j = -1 ∨ vp_in (S.1 18 0 j) 600) ∧ (∀ j, j < 40 → S.1 18 11 j = -1 ∨ vp_in (S.1 18 11 j) 600) ∧ vp_in (S.1 17 0 1) 600 ∧ (∀ t, t < 4 → S.1 18 7 t ≤ 20) ∧ (∀ t, t < 4 → S.1 18 9 t ≤ 10) ∧ (∀ t, t < 2 → S.1 18 12 t ≤ 8) ∧ ∀ t, t < 16 → S.1 18 13 t ≤ 8
/-- what failureAt answers: holder (f, i), place x -/
def pA (S : SS) (f i : Nat) (x : Int32) : Int32 := if S.1 f i 0 = -1 then 1 else if wi x (S.1 f i 0) = true then 0 else 2
theorem pA_0 {S : SS} {f i : Nat} {x : Int32} (h : pA S f i x = 0) : wi x (S.1 f i 0) = true := by
  unfold pA at h
  split at h
  · exact absurd h (by decide)
  · split at h
    · assumption
    · exact absurd h (by decide)
theorem pA_in {S : SS} {f i : Nat} {x : Int32} : vp_in (pA S f i x) 7 := by
  unfold pA
  split
  · unfold vp_in; decide
  · split
    · unfold vp_in; decide
    · unfold vp_in; decide
def pC (S : SS) (g : Nat) (i j : Int32) : Int32 := if pA S 12 g i = 0 then pA S 14 (8 * g + i.toNatClampNeg) j else pA S 12 g i
theorem pC_in {S : SS} {g : Nat} {i j : Int32} : vp_in (pC S g i j) 7 := by
  unfold pC
  split
  · exact pA_in
  · exact pA_in
def pS (S : SS) (o : Option Nat) (sort : Int32) : Int32 := match o with
  | none => 1
  | some t => if sort = 0 then 1 else if sort = 1 then (if S.1 16 t 4 = 1 ∨ S.1 16 t 4 = 2 then 1 else 0) else if ¬ S.1 16 t 4 = 0 ∧ ¬ S.1 16 t 4 = 1 ∧ ¬ S.1 16 t 4 = 2 then 1 else 0
def isH (f : Nat) : Prop := f = 8 ∨ f = 10 ∨ f = 12 ∨ f = 14
section HD
variable {p : Program} {l : Launch} {e : Env} {R : Room} {s : State} {m : MethodId} {args : Array Value} {below : List Frame} {meth : Method} {c : Code} {H : Heap} {locs : List Loc} {cells slots : Nat} {Q : State → Prop}
variable {cc : ByteArray} {mL : Nat} {rt : Option FieldType} {own : String} {pc : Nat} {ls : Array Slot} {rest st : List Value} {D : va_G} {cy : Nat → ClassId} {sz : Nat} {ad : Nat → Nat → Nat} {n : Nat} {S : SS}
variable {y : MethodName} {b : ByteArray} {k fr lo index nn : Nat} {r : Option FieldType} {As : List Value} {F : Int32 × SS}
theorem q_getH {ref : String} (E : En p s m args meth c cc mL rt own D cy sz) (G : Gd D cy sz ad n S s.heap H locs) (f i : Nat) (hf : isH f) (hi : isC n f i) (hlink : Cond.fieldLink own index ref "size" "I" ∈ wl) (hsame : "ToolRoom$Holder" = ref ∨ Cond.sameField ref "ToolRoom$Holder" "size" "I" ∈ wl) (hdg : decode cc pc = .ok (.getfield index, 3))
    (kk : W p l e R s m args below meth c H locs cells slots Q (F0 m (pc + 3) ls (.int (S.1 f i 0) :: rest))) : W p l e R s m args below meth c H locs cells slots Q (F0 m pc ls (.ref (ad f i) :: rest)) := by
  rcases hf with rfl | rfl | rfl | rfl
  · exact q_get (index := index) (ref := ref) E G inX7 8 i hi rfl rfl 0 (by decide) hlink hsame rfl hdg kk
  · exact q_get (index := index) (ref := ref) E G inX6 10 i hi rfl rfl 0 (by decide) hlink hsame rfl hdg kk
  · exact q_get (index := index) (ref := ref) E G inX3 12 i hi rfl rfl 0 (by decide) hlink hsame rfl hdg kk
  · exact q_get (index := index) (ref := ref) E G inX7 14 i hi rfl rfl 0 (by decide) hlink hsame rfl hdg kk
theorem q_putH {ref : String} (E : En p s m args meth c cc mL rt own D cy sz) (G : Gd D cy sz ad n S s.heap H locs) (f i : Nat) (hf : isH f) (hi : isC n f i) (hlink : Cond.fieldLink own index ref "size" "I" ∈ wl) (hsame : "ToolRoom$Holder" = ref ∨ Cond.sameField ref "ToolRoom$Holder" "size" "I" ∈ wl) {v : Int32} (hdg : decode cc pc = .ok (.putfield index, 3))
    (kk : ∀ (H1 : Heap) (locs1 : List Loc), Gd D cy sz ad n (uI S f i 0 v) s.heap H1 locs1 → W p l e R s m args below meth c H1 locs1 cells slots Q (F0 m (pc + 3) ls rest)) : W p l e R s m args below meth c H locs cells slots Q (F0 m pc ls (.int v :: .ref (ad f i) :: rest)) := by
  rcases hf with rfl | rfl | rfl | rfl
  · exact q_put (index := index) (ref := ref) E G inX7 tyX7 tyX7_ok nmX7 8 i hi 0 rfl rfl 0 (by decide) hlink hsame rfl (ty := .int) (by decide +kernel) rfl rfl (Nat.le_of_ble_eq_true rfl) rfl hdg kk
  · exact q_put (index := index) (ref := ref) E G inX6 tyX6 tyX6_ok nmX6 10 i hi 0 rfl rfl 0 (by decide) hlink hsame rfl (ty := .int) (by decide +kernel) rfl rfl (Nat.le_of_ble_eq_true rfl) rfl hdg kk
  · exact q_put (index := index) (ref := ref) E G inX3 tyX3 tyX3_ok nmX3 12 i hi 0 rfl rfl 0 (by decide) hlink hsame rfl (ty := .int) (by decide +kernel) rfl rfl (Nat.le_of_ble_eq_true rfl) rfl hdg kk
  · exact q_put (index := index) (ref := ref) E G inX7 tyX7 tyX7_ok nmX7 14 i hi 0 rfl rfl 0 (by decide) hlink hsame rfl (ty := .int) (by decide +kernel) rfl rfl (Nat.le_of_ble_eq_true rfl) rfl hdg kk
/-- a Holder's own method, of a TRAY, a RACK, a GRID, a GRID's row -/
theorem q_cH {x : MethodName} (E : En p s m args meth c cc mL rt own D cy sz) (G : Gd D cy sz ad n S s.heap H locs) (f i : Nat) (hf : isH f) (hi : isC n f i)
    (hM : CI l y b k r fr lo (.ref (ad f i) :: As) D cy sz ad n S F) (h1 : Cond.methodLink own index x ∈ wl) (h2 : Cond.sameMethod x.cls "ToolRoom$Holder" x.name x.desc ∈ wl) (h3 : Cond.selects RX3 x y ∈ wl) (h32 : Cond.selects RX6 x y ∈ wl) (h33 : Cond.selects RX7 x y ∈ wl) (h6 : Cond.instanceMethod y ∈ wl) (h4 : Cond.initialized y.cls ∈ wl) (h5 : Cond.code y b k r ∈ wl) (hyx : y = ⟨"ToolRoom$Holder", x.name, x.desc⟩)
    (hd : "ToolRoom$Holder" ≠ "java/lang/invoke/MethodHandle" ∧ "ToolRoom$Holder" ≠ "java/lang/invoke/VarHandle" ∧ (parseMethodDescriptor x.desc).map (fun d => d.parameters.length) = some nn) (hR : fr + 1 ≤ R.frames ∧ 8 + (k + 11) + lo ≤ R.locals) (hn : As.length = nn) (hls : ls.size = mL) (hst : st = As.reverse ++ .ref (ad f i) :: rest) (hrest : (rest.map fun v => v.category).sum ≤ 8)
    (hdg : decode cc pc = .ok (.invokevirtual index, 3)) (hcs : cells ≤ R.cells ∧ slots ≤ R.slots)
    (kk : ∀ (H1 : Heap) (locs1 : List Loc), Gd D cy sz ad n F.2 s.heap H1 locs1 → W p l e R s m args below meth c H1 locs1 cells slots Q (F0 m (pc + 3) ls (.int F.1 :: rest))) : W p l e R s m args below meth c H locs cells slots Q (F0 m pc ls st) := by
  rcases hf with rfl | rfl | rfl | rfl
  · exact q_cU (owner := "ToolRoom$Holder") E G 8 i hi rfl (C := RX7) (T := TX7) (N := 2) rfl hM h1 h2 h33 h6 h4 h5 hyx hd hR hn hls hst hrest hdg hcs kk
  · exact q_cU (owner := "ToolRoom$Holder") E G 10 i hi rfl (C := RX6) (T := TX6) (N := 3) rfl hM h1 h2 h32 h6 h4 h5 hyx hd hR hn hls hst hrest hdg hcs kk
  · exact q_cU (owner := "ToolRoom$Holder") E G 12 i hi rfl (C := RX3) (T := TX3) (N := 2) rfl hM h1 h2 h3 h6 h4 h5 hyx hd hR hn hls hst hrest hdg hcs kk
  · exact q_cU (owner := "ToolRoom$Holder") E G 14 i hi rfl (C := RX7) (T := TX7) (N := 2) rfl hM h1 h2 h33 h6 h4 h5 hyx hd hR hn hls hst hrest hdg hcs kk
/-- a switch over 0, 1, 2 -/
theorem q_tab3 (hx : p.tables.exec = Jvm.exec) (hb : c.code = cc) {d o0 o1 o2 : Int} {len : Nat} {x : Int32} {t0 t1 t2 t3 : Nat} (hdg : decode cc pc = .ok (.tableswitch d 0 2 #[o0, o1, o2], len)) (h0 : (pc : Int) + o0 = (t0 : Int)) (h1 : (pc : Int) + o1 = (t1 : Int)) (h2 : (pc : Int) + o2 = (t2 : Int)) (h3 : (pc : Int) + d = (t3 : Int))
    (k0 : x = 0 → W p l e R s m args below meth c H locs cells slots Q (F0 m t0 ls rest)) (k1 : ¬ x = 0 → x = 1 → W p l e R s m args below meth c H locs cells slots Q (F0 m t1 ls rest)) (k2 : ¬ x = 0 → ¬ x = 1 → x = 2 → W p l e R s m args below meth c H locs cells slots Q (F0 m t2 ls rest)) (k3 : ¬ x = 0 → ¬ x = 1 → ¬ x = 2 → W p l e R s m args below meth c H locs cells slots Q (F0 m t3 ls rest)) :
    W p l e R s m args below meth c H locs cells slots Q (F0 m pc ls (.int x :: rest)) := by
  by_cases e0 : x = 0
  · subst e0
    exact lv_tableIn hx hb hdg (by decide) (by decide) (by rfl) h0 (k0 rfl)
  · by_cases e1 : x = 1
    · subst e1
      exact lv_tableIn hx hb hdg (by decide) (by decide) (by rfl) h1 (k1 e0 rfl)
    · by_cases e2 : x = 2
      · subst e2
        exact lv_tableIn hx hb hdg (by decide) (by decide) (by rfl) h2 (k2 e0 e1 rfl)
      · have n0 : ¬ x.toInt = 0 := lv_neT (k := 0) e0 (by decide)
        have n1 : ¬ x.toInt = 1 := lv_neT (k := 1) e1 (by decide)
        have n2 : ¬ x.toInt = 2 := lv_neT (k := 2) e2 (by decide)
        exact lv_tableOut hx hb hdg (by omega) h3 (k3 e0 e1 e2)
end HD
theorem uI_self {S : SS} {f i k : Nat} {v : Int32} : (uI S f i k v).1 f i k = v := by rw [uI_at]; simp
theorem uI_nf {S : SS} {f i k g j h : Nat} {v : Int32} (hn : g ≠ f) : (uI S f i k v).1 g j h = S.1 g j h := by rw [uI_at, if_neg (fun q => hn q.1)]
theorem uI_ni {S : SS} {f i k j h : Nat} {v : Int32} (hn : j ≠ i) : (uI S f i k v).1 f j h = S.1 f j h := by rw [uI_at, if_neg (fun q => hn q.2.1)]
theorem uI_nk {S : SS} {f i k h : Nat} {v : Int32} (hn : h ≠ k) : (uI S f i k v).1 f i h = S.1 f i h := by rw [uI_at, if_neg (fun q => hn q.2.2)]
section PR
variable {p : Program} {l : Launch} {e : Env} {R : Room} {s : State} {m : MethodId} {args : Array Value} {below : List Frame} {meth : Method} {c : Code} {H : Heap} {locs : List Loc} {cells slots : Nat} {Q : State → Prop}
variable {cc : ByteArray} {mL : Nat} {rt : Option FieldType} {own : String} {pc : Nat} {ls : Array Slot} {rest st : List Value} {D : va_G} {cy : Nat → ClassId} {sz : Nat} {ad : Nat → Nat → Nat} {n : Nat} {S : SS}
variable {y : MethodName} {b : ByteArray} {k fr lo index nn : Nat} {r : Option FieldType} {As : List Value} {a : Int32} {u : SS}
theorem q_cSp (E : En p s m args meth c cc mL rt own D cy sz) (G : Gd D cy sz ad n S s.heap H locs) (rest : List Value)
    (hM : CI l y b k r fr lo As D cy sz ad n S (a, u)) (h1 : Cond.methodLink own index y ∈ wl) (h2 : Cond.static y ∈ wl) (h4 : Cond.initialized own ∈ wl) (h5 : Cond.code y b k r ∈ wl)
    (hd : y.cls = own ∧ y.cls ≠ "java/lang/invoke/MethodHandle" ∧ y.cls ≠ "java/lang/invoke/VarHandle" ∧ (parseMethodDescriptor y.desc).map (fun d => d.parameters.length) = some nn) (hR : fr + 1 ≤ R.frames ∧ 8 + (k + 11) + lo ≤ R.locals) (hn : As.length = nn) (hls : ls.size = mL) (hst : st = As.reverse ++ rest) (hrest : (rest.map fun v => v.category).sum ≤ 8)
    (hdg : decode cc pc = .ok (.invokestatic index, 3)) (hcs : cells ≤ R.cells ∧ slots ≤ R.slots)
    (kk : ∀ (H1 : Heap) (locs1 : List Loc), Gd D cy sz ad n u s.heap H1 locs1 → W p l e R s m args below meth c H1 locs1 cells slots Q (F0 m (pc + 3) ls (.int a :: rest))) : W p l e R s m args below meth c H locs cells slots Q (F0 m pc ls st) :=
  q_cS E G hM h1 h2 h4 h5 hd hR hn hls hst hrest hdg hcs kk
theorem q_cVp (E : En p s m args meth c cc mL rt own D cy sz) (G : Gd D cy sz ad n S s.heap H locs) (f i : Nat) (hi : isC n f i) {ci : Nat} {fs : List Value} (hsh : sh cy ad f i (S.1 f i) (S.2 f i) = .inr (ci, fs)) {C : String} {T : u_T} {N : Nat} (hc : vwCl[ci]? = some (C, T, N)) (rest : List Value)
    (hM : CI l y b k r fr lo (.ref (ad f i) :: As) D cy sz ad n S (a, u)) (h1 : Cond.methodLink own index y ∈ wl) (h2 : Cond.instanceMethod y ∈ wl) (h3 : Cond.selects C y y ∈ wl) (h4 : Cond.initialized C ∈ wl) (h5 : Cond.code y b k r ∈ wl)
    (hd : y.cls = C ∧ y.cls ≠ "java/lang/invoke/MethodHandle" ∧ y.cls ≠ "java/lang/invoke/VarHandle" ∧ (parseMethodDescriptor y.desc).map (fun d => d.parameters.length) = some nn) (hR : fr + 1 ≤ R.frames ∧ 8 + (k + 11) + lo ≤ R.locals) (hn : As.length = nn) (hls : ls.size = mL) (hst : st = As.reverse ++ .ref (ad f i) :: rest) (hrest : (rest.map fun v => v.category).sum ≤ 8)
    (hdg : decode cc pc = .ok (.invokevirtual index, 3)) (hcs : cells ≤ R.cells ∧ slots ≤ R.slots)
    (kk : ∀ (H1 : Heap) (locs1 : List Loc), Gd D cy sz ad n u s.heap H1 locs1 → W p l e R s m args below meth c H1 locs1 cells slots Q (F0 m (pc + 3) ls (.int a :: rest))) : W p l e R s m args below meth c H locs cells slots Q (F0 m pc ls st) :=
  q_cV E G f i hi hsh hc hM h1 h2 h3 h4 h5 hd hR hn hls hst hrest hdg hcs kk
end PR
theorem pr_eta {α β : Type} (q : α × β) : (q.1, q.2) = q := rfl
theorem sg_0 {cy : Nat → ClassId} {ad : Nat → Nat → Nat} {i : Nat} {r : Nat → Int32} {q : Nat → Option Nat} : sh cy ad 0 i r q = .inr (7, [.ref (ad 1 0), .ref (ad 2 0), .ref (ad 3 0), .ref (ad 4 0), .ref (ad 5 0), .ref (ad 6 0), .ref (ad 7 0), .int (r 7), .int (r 8), .int (r 9)]) := rfl
theorem sp_0_7 {cy : Nat → ClassId} {ad : Nat → Nat → Nat} {i : Nat} {r : Nat → Int32} {q : Nat → Option Nat} {v : Int32} : sh cy ad 0 i (upd r 7 v) q = .inr (7, ([.ref (ad 1 0), .ref (ad 2 0), .ref (ad 3 0), .ref (ad 4 0), .ref (ad 5 0), .ref (ad 6 0), .ref (ad 7 0), .int (r 7), .int (r 8), .int (r 9)] : List Value).set 7 (.int v)) := rfl
theorem sp_0_8 {cy : Nat → ClassId} {ad : Nat → Nat → Nat} {i : Nat} {r : Nat → Int32} {q : Nat → Option Nat} {v : Int32} : sh cy ad 0 i (upd r 8 v) q = .inr (7, ([.ref (ad 1 0), .ref (ad 2 0), .ref (ad 3 0), .ref (ad 4 0), .ref (ad 5 0), .ref (ad 6 0), .ref (ad 7 0), .int (r 7), .int (r 8), .int (r 9)] : List Value).set 8 (.int v)) := rfl
theorem sp_0_9 {cy : Nat → ClassId} {ad : Nat → Nat → Nat} {i : Nat} {r : Nat → Int32} {q : Nat → Option Nat} {v : Int32} : sh cy ad 0 i (upd r 9 v) q = .inr (7, ([.ref (ad 1 0), .ref (ad 2 0), .ref (ad 3 0), .ref (ad 4 0), .ref (ad 5 0), .ref (ad 6 0), .ref (ad 7 0), .int (r 7), .int (r 8), .int (r 9)] : List Value).set 9 (.int v)) := rfl
theorem sg_8 {cy : Nat → ClassId} {ad : Nat → Nat → Nat} {i : Nat} {r : Nat → Int32} {q : Nat → Option Nat} : sh cy ad 8 i r q = .inr (6, [.int (r 0), .ref (ad 9 i)]) := rfl
theorem sp_8_0 {cy : Nat → ClassId} {ad : Nat → Nat → Nat} {i : Nat} {r : Nat → Int32} {q : Nat → Option Nat} {v : Int32} : sh cy ad 8 i (upd r 0 v) q = .inr (6, ([.int (r 0), .ref (ad 9 i)] : List Value).set 0 (.int v)) := rfl
theorem sg_14 {cy : Nat → ClassId} {ad : Nat → Nat → Nat} {i : Nat} {r : Nat → Int32} {q : Nat → Option Nat} : sh cy ad 14 i r q = .inr (6, [.int (r 0), .ref (ad 15 i)]) := rfl
theorem sp_14_0 {cy : Nat → ClassId} {ad : Nat → Nat → Nat} {i : Nat} {r : Nat → Int32} {q : Nat → Option Nat} {v : Int32} : sh cy ad 14 i (upd r 0 v) q = .inr (6, ([.int (r 0), .ref (ad 15 i)] : List Value).set 0 (.int v)) := rfl
theorem sg_10 {cy : Nat → ClassId} {ad : Nat → Nat → Nat} {i : Nat} {r : Nat → Int32} {q : Nat → Option Nat} : sh cy ad 10 i r q = .inr (5, [.int (r 0), .ref (ad 11 i), .int (r 2)]) := rfl
theorem sp_10_0 {cy : Nat → ClassId} {ad : Nat → Nat → Nat} {i : Nat} {r : Nat → Int32} {q : Nat → Option Nat} {v : Int32} : sh cy ad 10 i (upd r 0 v) q = .inr (5, ([.int (r 0), .ref (ad 11 i), .int (r 2)] : List Value).set 0 (.int v)) := rfl
theorem sp_10_2 {cy : Nat → ClassId} {ad : Nat → Nat → Nat} {i : Nat} {r : Nat → Int32} {q : Nat → Option Nat} {v : Int32} : sh cy ad 10 i (upd r 2 v) q = .inr (5, ([.int (r 0), .ref (ad 11 i), .int (r 2)] : List Value).set 2 (.int v)) := rfl
theorem sg_12 {cy : Nat → ClassId} {ad : Nat → Nat → Nat} {i : Nat} {r : Nat → Int32} {q : Nat → Option Nat} : sh cy ad 12 i r q = .inr (3, [.int (r 0), .ref (ad 13 i)]) := rfl
theorem sp_12_0 {cy : Nat → ClassId} {ad : Nat → Nat → Nat} {i : Nat} {r : Nat → Int32} {q : Nat → Option Nat} {v : Int32} : sh cy ad 12 i (upd r 0 v) q = .inr (3, ([.int (r 0), .ref (ad 13 i)] : List Value).set 0 (.int v)) := rfl
theorem sg_17 {cy : Nat → ClassId} {ad : Nat → Nat → Nat} {i : Nat} {r : Nat → Int32} {q : Nat → Option Nat} : sh cy ad 17 i r q = .inr (8, [.ref (ad 18 0), .int (r 1), .ref (ad 18 2), .ref (ad 18 3), .ref (ad 18 4), .ref (ad 18 5), .ref (ad 18 6), .ref (ad 18 7), .ref (ad 18 8), .ref (ad 18 9), .ref (ad 18 10), .ref (ad 18 11), .ref (ad 18 12), .ref (ad 18 13), .ref (ad 18 14), .ref (ad 18 15), .ref (ad 18 16), .int (r 17), .int (r 18), .ref (ad 18 19), .int (r 20)]) := rfl
theorem sp_17_1 {cy : Nat → ClassId} {ad : Nat → Nat → Nat} {i : Nat} {r : Nat → Int32} {q : Nat → Option Nat} {v : Int32} : sh cy ad 17 i (upd r 1 v) q = .inr (8, ([.ref (ad 18 0), .int (r 1), .ref (ad 18 2), .ref (ad 18 3), .ref (ad 18 4), .ref (ad 18 5), .ref (ad 18 6), .ref (ad 18 7), .ref (ad 18 8), .ref (ad 18 9), .ref (ad 18 10), .ref (ad 18 11), .ref (ad 18 12), .ref (ad 18 13), .ref (ad 18 14), .ref (ad 18 15), .ref (ad 18 16), .int (r 17), .int (r 18), .ref (ad 18 19), .int (r 20)] : List Value).set 1 (.int v)) := rfl
theorem sp_17_17 {cy : Nat → ClassId} {ad : Nat → Nat → Nat} {i : Nat} {r : Nat → Int32} {q : Nat → Option Nat} {v : Int32} : sh cy ad 17 i (upd r 17 v) q = .inr (8, ([.ref (ad 18 0), .int (r 1), .ref (ad 18 2), .ref (ad 18 3), .ref (ad 18 4), .ref (ad 18 5), .ref (ad 18 6), .ref (ad 18 7), .ref (ad 18 8), .ref (ad 18 9), .ref (ad 18 10), .ref (ad 18 11), .ref (ad 18 12), .ref (ad 18 13), .ref (ad 18 14), .ref (ad 18 15), .ref (ad 18 16), .int (r 17), .int (r 18), .ref (ad 18 19), .int (r 20)] : List Value).set 17 (.int v)) := rfl
theorem sp_17_18 {cy : Nat → ClassId} {ad : Nat → Nat → Nat} {i : Nat} {r : Nat → Int32} {q : Nat → Option Nat} {v : Int32} : sh cy ad 17 i (upd r 18 v) q = .inr (8, ([.ref (ad 18 0), .int (r 1), .ref (ad 18 2), .ref (ad 18 3), .ref (ad 18 4), .ref (ad 18 5), .ref (ad 18 6), .ref (ad 18 7), .ref (ad 18 8), .ref (ad 18 9), .ref (ad 18 10), .ref (ad 18 11), .ref (ad 18 12), .ref (ad 18 13), .ref (ad 18 14), .ref (ad 18 15), .ref (ad 18 16), .int (r 17), .int (r 18), .ref (ad 18 19), .int (r 20)] : List Value).set 18 (.int v)) := rfl
theorem sp_17_20 {cy : Nat → ClassId} {ad : Nat → Nat → Nat} {i : Nat} {r : Nat → Int32} {q : Nat → Option Nat} {v : Int32} : sh cy ad 17 i (upd r 20 v) q = .inr (8, ([.ref (ad 18 0), .int (r 1), .ref (ad 18 2), .ref (ad 18 3), .ref (ad 18 4), .ref (ad 18 5), .ref (ad 18 6), .ref (ad 18 7), .ref (ad 18 8), .ref (ad 18 9), .ref (ad 18 10), .ref (ad 18 11), .ref (ad 18 12), .ref (ad 18 13), .ref (ad 18 14), .ref (ad 18 15), .ref (ad 18 16), .int (r 17), .int (r 18), .ref (ad 18 19), .int (r 20)] : List Value).set 20 (.int v)) := rfl
theorem sa_5 {cy : Nat → ClassId} {ad : Nat → Nat → Nat} {i : Nat} {r : Nat → Int32} {q : Nat → Option Nat} : sh cy ad 5 i r q = .inl (cy 1, 4, .inl r) := rfl
theorem sa_6 {cy : Nat → ClassId} {ad : Nat → Nat → Nat} {i : Nat} {r : Nat → Int32} {q : Nat → Option Nat} : sh cy ad 6 i r q = .inl (cy 0, 4, .inl r) := rfl
theorem sa_7 {cy : Nat → ClassId} {ad : Nat → Nat → Nat} {i : Nat} {r : Nat → Int32} {q : Nat → Option Nat} : sh cy ad 7 i r q = .inl (cy 0, 7, .inl r) := rfl
theorem sa_9 {cy : Nat → ClassId} {ad : Nat → Nat → Nat} {i : Nat} {r : Nat → Int32} {q : Nat → Option Nat} : sh cy ad 9 i r q = .inl (cy 0, 20, .inl r) := rfl
theorem sa_15 {cy : Nat → ClassId} {ad : Nat → Nat → Nat} {i : Nat} {r : Nat → Int32} {q : Nat → Option Nat} : sh cy ad 15 i r q = .inl (cy 0, 8, .inl r) := rfl
theorem sa_18_0 {cy : Nat → ClassId} {ad : Nat → Nat → Nat} {r : Nat → Int32} {q : Nat → Option Nat} : sh cy ad 18 0 r q = .inl (cy 0, 10, .inl r) := rfl
theorem sa_18_2 {cy : Nat → ClassId} {ad : Nat → Nat → Nat} {r : Nat → Int32} {q : Nat → Option Nat} : sh cy ad 18 2 r q = .inl (cy 0, 600, .inl r) := rfl
theorem sa_18_3 {cy : Nat → ClassId} {ad : Nat → Nat → Nat} {r : Nat → Int32} {q : Nat → Option Nat} : sh cy ad 18 3 r q = .inl (cy 0, 600, .inl r) := rfl
theorem sa_18_4 {cy : Nat → ClassId} {ad : Nat → Nat → Nat} {r : Nat → Int32} {q : Nat → Option Nat} : sh cy ad 18 4 r q = .inl (cy 0, 600, .inl r) := rfl
theorem sa_18_5 {cy : Nat → ClassId} {ad : Nat → Nat → Nat} {r : Nat → Int32} {q : Nat → Option Nat} : sh cy ad 18 5 r q = .inl (cy 1, 600, .inl r) := rfl
theorem sa_18_6 {cy : Nat → ClassId} {ad : Nat → Nat → Nat} {r : Nat → Int32} {q : Nat → Option Nat} : sh cy ad 18 6 r q = .inl (cy 0, 600, .inl r) := rfl
theorem sa_18_7 {cy : Nat → ClassId} {ad : Nat → Nat → Nat} {r : Nat → Int32} {q : Nat → Option Nat} : sh cy ad 18 7 r q = .inl (cy 0, 4, .inl r) := rfl
theorem sa_18_8 {cy : Nat → ClassId} {ad : Nat → Nat → Nat} {r : Nat → Int32} {q : Nat → Option Nat} : sh cy ad 18 8 r q = .inl (cy 0, 80, .inl r) := rfl
theorem sa_18_9 {cy : Nat → ClassId} {ad : Nat → Nat → Nat} {r : Nat → Int32} {q : Nat → Option Nat} : sh cy ad 18 9 r q = .inl (cy 0, 4, .inl r) := rfl
theorem sa_18_10 {cy : Nat → ClassId} {ad : Nat → Nat → Nat} {r : Nat → Int32} {q : Nat → Option Nat} : sh cy ad 18 10 r q = .inl (cy 0, 4, .inl r) := rfl
theorem sa_18_11 {cy : Nat → ClassId} {ad : Nat → Nat → Nat} {r : Nat → Int32} {q : Nat → Option Nat} : sh cy ad 18 11 r q = .inl (cy 0, 40, .inl r) := rfl
theorem sa_18_12 {cy : Nat → ClassId} {ad : Nat → Nat → Nat} {r : Nat → Int32} {q : Nat → Option Nat} : sh cy ad 18 12 r q = .inl (cy 0, 2, .inl r) := rfl
theorem sa_18_13 {cy : Nat → ClassId} {ad : Nat → Nat → Nat} {r : Nat → Int32} {q : Nat → Option Nat} : sh cy ad 18 13 r q = .inl (cy 0, 16, .inl r) := rfl
theorem sa_18_14 {cy : Nat → ClassId} {ad : Nat → Nat → Nat} {r : Nat → Int32} {q : Nat → Option Nat} : sh cy ad 18 14 r q = .inl (cy 0, 128, .inl r) := rfl
theorem sa_18_15 {cy : Nat → ClassId} {ad : Nat → Nat → Nat} {r : Nat → Int32} {q : Nat → Option Nat} : sh cy ad 18 15 r q = .inl (cy 1, 4, .inl r) := rfl
theorem sa_18_16 {cy : Nat → ClassId} {ad : Nat → Nat → Nat} {r : Nat → Int32} {q : Nat → Option Nat} : sh cy ad 18 16 r q = .inl (cy 0, 4, .inl r) := rfl
theorem sa_18_19 {cy : Nat → ClassId} {ad : Nat → Nat → Nat} {r : Nat → Int32} {q : Nat → Option Nat} : sh cy ad 18 19 r q = .inl (cy 0, 7, .inl r) := rfl
theorem sa_1 {cy : Nat → ClassId} {ad : Nat → Nat → Nat} {i : Nat} {r : Nat → Int32} {q : Nat → Option Nat} : sh cy ad 1 i r q = .inl (cy 2, 10, rq (tq ad q)) := rfl
theorem sa_11 {cy : Nat → ClassId} {ad : Nat → Nat → Nat} {i : Nat} {r : Nat → Int32} {q : Nat → Option Nat} : sh cy ad 11 i r q = .inl (cy 2, 10, rq (tq ad q)) := rfl
theorem sa_2 {cy : Nat → ClassId} {ad : Nat → Nat → Nat} {i : Nat} {r : Nat → Int32} {q : Nat → Option Nat} : sh cy ad 2 i r q = .inl (cy 3, 4, rq (fun j => some (ad 8 j))) := rfl
theorem sa_3 {cy : Nat → ClassId} {ad : Nat → Nat → Nat} {i : Nat} {r : Nat → Int32} {q : Nat → Option Nat} : sh cy ad 3 i r q = .inl (cy 4, 4, rq (fun j => some (ad 10 j))) := rfl
theorem sa_4 {cy : Nat → ClassId} {ad : Nat → Nat → Nat} {i : Nat} {r : Nat → Int32} {q : Nat → Option Nat} : sh cy ad 4 i r q = .inl (cy 5, 2, rq (fun j => some (ad 12 j))) := rfl
theorem sa_13 {cy : Nat → ClassId} {ad : Nat → Nat → Nat} {i : Nat} {r : Nat → Int32} {q : Nat → Option Nat} : sh cy ad 13 i r q = .inl (cy 3, 8, rq (fun j => some (ad 14 (8 * i + j)))) := rfl
end
section
def bi (b : Bool) : Int32 := if b = true then 1 else 0
theorem pC_0a {S : SS} {g : Nat} {i j : Int32} (h : pC S g i j = 0) : pA S 12 g i = 0 := by
  unfold pC at h
  split at h
  · assumption
  · exact h
theorem pC_0b {S : SS} {g : Nat} {i j : Int32} (h : pC S g i j = 0) : pA S 14 (8 * g + i.toNatClampNeg) j = 0 := by
  have h1 := pC_0a h
  unfold pC at h
  rw [if_pos h1] at h
  exact h

set_option maxHeartbeats 4000000 in
set_option maxRecDepth 100000 in
theorem k_X9_isWithin (l : Launch) (D : va_G) (cy : Nat → ClassId) (sz : Nat) (ad : Nat → Nat → Nat) (n : Nat) (S : SS) (x : Int32) (b : Int32) : CI l yX9_isWithin cX9_isWithin 2 (some .boolean) 0 0 [.int x, .int b] D cy sz ad n S (bi (wi x b), S) := by
  refine Met.enter (by decide) (Nat.le_of_ble_eq_true rfl) (fun p e s m args below meth c ls E G hl => ?_)
  have E : En p s m args meth c cX9_isWithin 2 (some .boolean) RX9 D cy sz := E
  obtain ⟨hx, hb, hrt, hml, hown, hw, hlk, hK, hF, hsz⟩ := id E
  have hl : lv_has ls 2 [(0, .int x), (1, .int b)] := hl
  refine lv_iload_n hx hb dX9_isWithin_0 rfl (lv_at hl 0 rfl) ?_
  refine lv_if_lt (tgt := 13) hx hb dX9_isWithin_1 (by decide) (fun h1 => ?_) (fun h1 => ?_)
  · refine lv_iconst (v := 0) hx hb dX9_isWithin_13 (by decide) ?_
    exact q_zret E G rfl (Prod.ext (by simp only [bi, wi]; first | (simp [h1]; done) | (have h0 := Int32.not_lt.mp h1; simp [h0, h1]; done) | (have h0 := Int32.not_lt.mp h1; have h9 := Int32.not_le.mp h2; simp [h0, h9]; done) | (have h9 := Int32.not_le.mpr h1; simp [h9]; done) | (have h9 := Int32.not_lt.mpr h2; simp [h9]; done)) rfl) dX9_isWithin_14
  · refine lv_iload_n hx hb dX9_isWithin_4 rfl (lv_at hl 0 rfl) ?_
    refine lv_iload_n hx hb dX9_isWithin_5 rfl (lv_at hl 1 rfl) ?_
    refine lv_icmp_ge (tgt := 13) hx hb dX9_isWithin_6 (by decide) (fun h2 => ?_) (fun h2 => ?_)
    · refine lv_iconst (v := 0) hx hb dX9_isWithin_13 (by decide) ?_
      exact q_zret E G rfl (Prod.ext (by simp only [bi, wi]; first | (simp [h1, h2]; done) | (have h0 := Int32.not_lt.mp h1; simp [h0, h1, h2]; done) | (have h0 := Int32.not_lt.mp h1; have h9 := Int32.not_le.mp h2; simp [h0, h9]; done) | (have h9 := Int32.not_le.mpr h1; simp [h9]; done) | (have h9 := Int32.not_lt.mpr h2; simp [h9]; done)) rfl) dX9_isWithin_14
    · refine lv_iconst (v := 1) hx hb dX9_isWithin_9 (by decide) ?_
      refine lv_goto (tgt := 14) hx hb dX9_isWithin_10 (by decide) ?_
      exact q_zret E G rfl (Prod.ext (by simp only [bi, wi]; first | (simp [h1, h2]; done) | (have h0 := Int32.not_lt.mp h1; simp [h0, h1, h2]; done) | (have h0 := Int32.not_lt.mp h1; have h9 := Int32.not_le.mp h2; simp [h0, h9]; done) | (have h9 := Int32.not_le.mpr h1; simp [h9]; done) | (have h9 := Int32.not_lt.mpr h2; simp [h9]; done)) rfl) dX9_isWithin_14

theorem k_X9_isWithin_t (l : Launch) (D : va_G) (cy : Nat → ClassId) (sz : Nat) (ad : Nat → Nat → Nat) (n : Nat) (S : SS) (x b : Int32) (h : wi x b = true) : CI l yX9_isWithin cX9_isWithin 2 (some .boolean) 0 0 [.int x, .int b] D cy sz ad n S (1, S) := by
  have := k_X9_isWithin l D cy sz ad n S x b
  rw [h] at this
  exact this
theorem k_X9_isWithin_f (l : Launch) (D : va_G) (cy : Nat → ClassId) (sz : Nat) (ad : Nat → Nat → Nat) (n : Nat) (S : SS) (x b : Int32) (h : ¬ wi x b = true) : CI l yX9_isWithin cX9_isWithin 2 (some .boolean) 0 0 [.int x, .int b] D cy sz ad n S (0, S) := by
  have := k_X9_isWithin l D cy sz ad n S x b
  rw [Bool.not_eq_true] at h
  rw [h] at this
  exact this

def f_X9_done (S : SS) (v : Int32) : Int32 × SS := (v, (uI S 0 0 9 0))
set_option maxHeartbeats 4000000 in
set_option maxRecDepth 100000 in
theorem k_X9_done (l : Launch) (D : va_G) (cy : Nat → ClassId) (sz : Nat) (ad : Nat → Nat → Nat) (n : Nat) (S : SS) (v : Int32) : CI l yX9_done cX9_done 2 (some .int) 0 0 [.ref (ad 0 0), .int v] D cy sz ad n S (f_X9_done S v) := by
  refine Met.enter (by decide) (Nat.le_of_ble_eq_true rfl) (fun p e s m args below meth c ls E G hl => ?_)
  have E : En p s m args meth c cX9_done 2 (some .int) RX9 D cy sz := E
  obtain ⟨hx, hb, hrt, hml, hown, hw, hlk, hK, hF, hsz⟩ := id E
  have hl : lv_has ls 2 [(0, .ref (ad 0 0)), (1, .int v)] := hl
  refine lv_aload_n hx hb dX9_done_0 rfl (lv_at hl 0 rfl) ?_
  refine lv_iconst (v := 0) hx hb dX9_done_1 (by decide) ?_
  refine q_put (index := 51) (ref := "ToolRoom") E G inX9 tyX9 tyX9_ok nmX9 0 0 c0 9 sg_0 rfl 9 (by decide) tb_91 (Or.inl rfl) rfl (ty := .int) (by decide +kernel) rfl rfl (Nat.le_of_ble_eq_true rfl) sp_0_9 dX9_done_2 (fun H locs G => ?_)
  refine lv_iload_n hx hb dX9_done_5 rfl (lv_at hl 1 rfl) ?_
  exact q_iret E G (by rfl) dX9_done_6

def f_X9_refuse (S : SS) (v : Int32) : Int32 × SS := (v, (uI S 0 0 9 v))
set_option maxHeartbeats 4000000 in
set_option maxRecDepth 100000 in
theorem k_X9_refuse (l : Launch) (D : va_G) (cy : Nat → ClassId) (sz : Nat) (ad : Nat → Nat → Nat) (n : Nat) (S : SS) (v : Int32) : CI l yX9_refuse cX9_refuse 2 (some .int) 0 0 [.ref (ad 0 0), .int v] D cy sz ad n S (f_X9_refuse S v) := by
  refine Met.enter (by decide) (Nat.le_of_ble_eq_true rfl) (fun p e s m args below meth c ls E G hl => ?_)
  have E : En p s m args meth c cX9_refuse 2 (some .int) RX9 D cy sz := E
  obtain ⟨hx, hb, hrt, hml, hown, hw, hlk, hK, hF, hsz⟩ := id E
  have hl : lv_has ls 2 [(0, .ref (ad 0 0)), (1, .int v)] := hl
  refine lv_aload_n hx hb dX9_refuse_0 rfl (lv_at hl 0 rfl) ?_
  refine lv_iload_n hx hb dX9_refuse_1 rfl (lv_at hl 1 rfl) ?_
  refine q_put (index := 51) (ref := "ToolRoom") E G inX9 tyX9 tyX9_ok nmX9 0 0 c0 9 sg_0 rfl 9 (by decide) tb_91 (Or.inl rfl) rfl (ty := .int) (by decide +kernel) rfl rfl (Nat.le_of_ble_eq_true rfl) sp_0_9 dX9_refuse_2 (fun H locs G => ?_)
  refine lv_iload_n hx hb dX9_refuse_5 rfl (lv_at hl 1 rfl) ?_
  exact q_iret E G (by rfl) dX9_refuse_6

def f_X9_fail (S : SS) (v : Int32) : Int32 × SS := (f_X9_refuse (uI (uI S 7 0 v.toNatClampNeg ((S.1 7 0 v.toNatClampNeg) + 1)) 0 0 7 v) ((-10) - v))
set_option maxHeartbeats 4000000 in
set_option maxRecDepth 100000 in
theorem k_X9_fail (l : Launch) (D : va_G) (cy : Nat → ClassId) (sz : Nat) (ad : Nat → Nat → Nat) (n : Nat) (S : SS) (v : Int32) (hv : vp_in v 7) : CI l yX9_fail cX9_fail 2 (some .int) 1 21 [.ref (ad 0 0), .int v] D cy sz ad n S (f_X9_fail S v) := by
  refine Met.enter (by decide) (Nat.le_of_ble_eq_true rfl) (fun p e s m args below meth c ls E G hl => ?_)
  have E : En p s m args meth c cX9_fail 2 (some .int) RX9 D cy sz := E
  obtain ⟨hx, hb, hrt, hml, hown, hw, hlk, hK, hF, hsz⟩ := id E
  have hl : lv_has ls 2 [(0, .ref (ad 0 0)), (1, .int v)] := hl
  refine lv_aload_n hx hb dX9_fail_0 rfl (lv_at hl 0 rfl) ?_
  refine q_get (index := 41) (ref := "ToolRoom") E G inX9 0 0 c0 sg_0 rfl 6 (by decide) tb_88 (Or.inl rfl) rfl dX9_fail_1 ?_
  refine lv_iload_n hx hb dX9_fail_4 rfl (lv_at hl 1 rfl) ?_
  refine lv_dup2_11 hx hb dX9_fail_5 rfl rfl ?_
  refine q_iald E G 7 0 c7 sa_7 hv dX9_fail_6 ?_
  refine lv_iconst (v := 1) hx hb dX9_fail_7 (by decide) ?_
  refine lv_iadd hx hb dX9_fail_8 ?_
  refine q_iast E G 7 0 c7 (fun _ => sa_7) hv dX9_fail_9 (fun H locs G => ?_)
  refine lv_aload_n hx hb dX9_fail_10 rfl (lv_at hl 0 rfl) ?_
  refine lv_iload_n hx hb dX9_fail_11 rfl (lv_at hl 1 rfl) ?_
  refine q_put (index := 44) (ref := "ToolRoom") E G inX9 tyX9 tyX9_ok nmX9 0 0 c0 7 sg_0 rfl 7 (by decide) tb_89 (Or.inl rfl) rfl (ty := .int) (by decide +kernel) rfl rfl (Nat.le_of_ble_eq_true rfl) sp_0_7 dX9_fail_12 (fun H locs G => ?_)
  refine lv_aload_n hx hb dX9_fail_15 rfl (lv_at hl 0 rfl) ?_
  refine lv_bipush (v := (-10)) hx hb dX9_fail_16 (by decide) ?_
  refine lv_iload_n hx hb dX9_fail_18 rfl (lv_at hl 1 rfl) ?_
  refine lv_isub hx hb dX9_fail_19 ?_
  refine q_cV (rest := []) E G 0 0 c0 sg_0 (C := RX9) (T := TX9) (N := 10) rfl (k_X9_refuse l D cy sz ad n (uI (uI S 7 0 v.toNatClampNeg ((S.1 7 0 v.toNatClampNeg) + 1)) 0 0 7 v) ((-10) - v)) tb_120 tb_122 tp_0 tb_1 tb_123 (nn := 1) (by decide +kernel) ⟨Nat.le_of_ble_eq_true rfl, Nat.le_of_ble_eq_true rfl⟩ rfl hl.1 rfl (Nat.le_of_ble_eq_true rfl) dX9_fail_20 ⟨Nat.zero_le _, Nat.zero_le _⟩ (fun H locs G => ?_)
  exact q_iret E G (by rfl) dX9_fail_23

def f_X9_refuseWithZero (S : SS) (v : Int32) : Int32 × SS := (0, (f_X9_refuse S v).2)
set_option maxHeartbeats 4000000 in
set_option maxRecDepth 100000 in
theorem k_X9_refuseWithZero (l : Launch) (D : va_G) (cy : Nat → ClassId) (sz : Nat) (ad : Nat → Nat → Nat) (n : Nat) (S : SS) (v : Int32) : CI l yX9_refuseWithZero cX9_refuseWithZero 2 (some .int) 1 21 [.ref (ad 0 0), .int v] D cy sz ad n S (f_X9_refuseWithZero S v) := by
  refine Met.enter (by decide) (Nat.le_of_ble_eq_true rfl) (fun p e s m args below meth c ls E G hl => ?_)
  have E : En p s m args meth c cX9_refuseWithZero 2 (some .int) RX9 D cy sz := E
  obtain ⟨hx, hb, hrt, hml, hown, hw, hlk, hK, hF, hsz⟩ := id E
  have hl : lv_has ls 2 [(0, .ref (ad 0 0)), (1, .int v)] := hl
  refine lv_aload_n hx hb dX9_refuseWithZero_0 rfl (lv_at hl 0 rfl) ?_
  refine lv_iload_n hx hb dX9_refuseWithZero_1 rfl (lv_at hl 1 rfl) ?_
  refine q_cV (rest := []) E G 0 0 c0 sg_0 (C := RX9) (T := TX9) (N := 10) rfl (k_X9_refuse l D cy sz ad n S v) tb_120 tb_122 tp_0 tb_1 tb_123 (nn := 1) (by decide +kernel) ⟨Nat.le_of_ble_eq_true rfl, Nat.le_of_ble_eq_true rfl⟩ rfl hl.1 rfl (Nat.le_of_ble_eq_true rfl) dX9_refuseWithZero_2 ⟨Nat.zero_le _, Nat.zero_le _⟩ (fun H locs G => ?_)
  refine lv_pop hx hb dX9_refuseWithZero_5 rfl ?_
  refine lv_iconst (v := 0) hx hb dX9_refuseWithZero_6 (by decide) ?_
  exact q_iret E G (by rfl) dX9_refuseWithZero_7

def f_X9_failWithZero (S : SS) (v : Int32) : Int32 × SS := (0, (f_X9_fail S v).2)
set_option maxHeartbeats 4000000 in
set_option maxRecDepth 100000 in
theorem k_X9_failWithZero (l : Launch) (D : va_G) (cy : Nat → ClassId) (sz : Nat) (ad : Nat → Nat → Nat) (n : Nat) (S : SS) (v : Int32) (hv : vp_in v 7) : CI l yX9_failWithZero cX9_failWithZero 2 (some .int) 2 42 [.ref (ad 0 0), .int v] D cy sz ad n S (f_X9_failWithZero S v) := by
  refine Met.enter (by decide) (Nat.le_of_ble_eq_true rfl) (fun p e s m args below meth c ls E G hl => ?_)
  have E : En p s m args meth c cX9_failWithZero 2 (some .int) RX9 D cy sz := E
  obtain ⟨hx, hb, hrt, hml, hown, hw, hlk, hK, hF, hsz⟩ := id E
  have hl : lv_has ls 2 [(0, .ref (ad 0 0)), (1, .int v)] := hl
  refine lv_aload_n hx hb dX9_failWithZero_0 rfl (lv_at hl 0 rfl) ?_
  refine lv_iload_n hx hb dX9_failWithZero_1 rfl (lv_at hl 1 rfl) ?_
  refine q_cV (rest := []) E G 0 0 c0 sg_0 (C := RX9) (T := TX9) (N := 10) rfl (k_X9_fail l D cy sz ad n S v hv) tb_227 tb_229 tp_2 tb_1 tb_230 (nn := 1) (by decide +kernel) ⟨Nat.le_of_ble_eq_true rfl, Nat.le_of_ble_eq_true rfl⟩ rfl hl.1 rfl (Nat.le_of_ble_eq_true rfl) dX9_failWithZero_2 ⟨Nat.zero_le _, Nat.zero_le _⟩ (fun H locs G => ?_)
  refine lv_pop hx hb dX9_failWithZero_5 rfl ?_
  refine lv_iconst (v := 0) hx hb dX9_failWithZero_6 (by decide) ?_
  exact q_iret E G (by rfl) dX9_failWithZero_7

set_option maxHeartbeats 4000000 in
set_option maxRecDepth 100000 in
theorem k_X5_isMissing (l : Launch) (D : va_G) (cy : Nat → ClassId) (sz : Nat) (ad : Nat → Nat → Nat) (n : Nat) (S : SS) (f i : Nat) (hf : isH f) (hi : isC n f i) : CI l yX5_isMissing cX5_isMissing 1 (some .boolean) 0 0 [.ref (ad f i)] D cy sz ad n S ((if S.1 f i 0 = -1 then 1 else 0, S)) := by
  refine Met.enter (by decide) (Nat.le_of_ble_eq_true rfl) (fun p e s m args below meth c ls E G hl => ?_)
  have E : En p s m args meth c cX5_isMissing 1 (some .boolean) RX5 D cy sz := E
  obtain ⟨hx, hb, hrt, hml, hown, hw, hlk, hK, hF, hsz⟩ := id E
  have hl : lv_has ls 1 [(0, .ref (ad f i))] := hl
  refine lv_aload_n hx hb dX5_isMissing_0 rfl (lv_at hl 0 rfl) ?_
  refine q_getH E G f i hf hi tb_38 (Or.inl rfl) dX5_isMissing_1 ?_
  refine lv_iconst (v := (-1)) hx hb dX5_isMissing_4 (by decide) ?_
  refine lv_icmp_ne (tgt := 12) hx hb dX5_isMissing_5 (by decide) (fun h1 => ?_) (fun h1 => ?_)
  · refine lv_iconst (v := 0) hx hb dX5_isMissing_12 (by decide) ?_
    exact q_zret E G rfl (by first | (simp only [h1, if_pos]; done) | (simp [h1]; done)) dX5_isMissing_13
  · refine lv_iconst (v := 1) hx hb dX5_isMissing_8 (by decide) ?_
    refine lv_goto (tgt := 13) hx hb dX5_isMissing_9 (by decide) ?_
    exact q_zret E G rfl (by first | (simp only [h1, if_pos]; done) | (simp [h1]; done)) dX5_isMissing_13
end
section
section PH
variable {p : Program} {l : Launch} {e : Env} {R : Room} {s : State} {m : MethodId} {args : Array Value} {below : List Frame} {meth : Method} {c : Code} {H : Heap} {locs : List Loc} {cells slots : Nat} {Q : State → Prop}
variable {cc : ByteArray} {mL : Nat} {rt : Option FieldType} {own : String} {pc : Nat} {ls : Array Slot} {st : List Value} {D : va_G} {cy : Nat → ClassId} {sz : Nat} {ad : Nat → Nat → Nat} {n : Nat} {S : SS}
variable {y : MethodName} {b : ByteArray} {k fr lo index nn : Nat} {r : Option FieldType} {As : List Value} {a : Int32} {u : SS}
theorem q_cHp {x : MethodName} (E : En p s m args meth c cc mL rt own D cy sz) (G : Gd D cy sz ad n S s.heap H locs) (f i : Nat) (hf : isH f) (hi : isC n f i) (rest : List Value)
    (hM : CI l y b k r fr lo (.ref (ad f i) :: As) D cy sz ad n S (a, u)) (h1 : Cond.methodLink own index x ∈ wl) (h2 : Cond.sameMethod x.cls "ToolRoom$Holder" x.name x.desc ∈ wl) (h3 : Cond.selects RX3 x y ∈ wl) (h32 : Cond.selects RX6 x y ∈ wl) (h33 : Cond.selects RX7 x y ∈ wl) (h6 : Cond.instanceMethod y ∈ wl) (h4 : Cond.initialized y.cls ∈ wl) (h5 : Cond.code y b k r ∈ wl) (hyx : y = ⟨"ToolRoom$Holder", x.name, x.desc⟩)
    (hd : "ToolRoom$Holder" ≠ "java/lang/invoke/MethodHandle" ∧ "ToolRoom$Holder" ≠ "java/lang/invoke/VarHandle" ∧ (parseMethodDescriptor x.desc).map (fun d => d.parameters.length) = some nn) (hR : fr + 1 ≤ R.frames ∧ 8 + (k + 11) + lo ≤ R.locals) (hn : As.length = nn) (hls : ls.size = mL) (hst : st = As.reverse ++ .ref (ad f i) :: rest) (hrest : (rest.map fun v => v.category).sum ≤ 8)
    (hdg : decode cc pc = .ok (.invokevirtual index, 3)) (hcs : cells ≤ R.cells ∧ slots ≤ R.slots)
    (kk : ∀ (H1 : Heap) (locs1 : List Loc), Gd D cy sz ad n u s.heap H1 locs1 → W p l e R s m args below meth c H1 locs1 cells slots Q (F0 m (pc + 3) ls (.int a :: rest))) : W p l e R s m args below meth c H locs cells slots Q (F0 m pc ls st) :=
  q_cH E G f i hf hi hM h1 h2 h3 h32 h33 h6 h4 h5 hyx hd hR hn hls hst hrest hdg hcs kk
theorem q_cSupp (E : En p s m args meth c cc mL rt own D cy sz) (G : Gd D cy sz ad n S s.heap H locs) (f i : Nat) (hi : isC n f i) {ci : Nat} {fs : List Value} (hsh : sh cy ad f i (S.1 f i) (S.2 f i) = .inr (ci, fs)) {C : String} {T : u_T} {N : Nat} (hc : vwCl[ci]? = some (C, T, N)) (rest : List Value)
    (hM : CI l y b k r fr lo (.ref (ad f i) :: As) D cy sz ad n S (a, u)) (h1 : Cond.methodLink own index y ∈ wl) (h2 : Cond.sameMethod y.cls y.cls y.name y.desc ∈ wl) (h3 : Cond.superclass own y.cls ∈ wl) (h6 : Cond.instanceMethod y ∈ wl) (h4 : Cond.initialized y.cls ∈ wl) (h5 : Cond.code y b k r ∈ wl)
    (hd : y.name ≠ "<init>" ∧ (parseMethodDescriptor y.desc).map (fun d => d.parameters.length) = some nn) (hR : fr + 1 ≤ R.frames ∧ 8 + (k + 11) + lo ≤ R.locals) (hn : As.length = nn) (hls : ls.size = mL) (hst : st = As.reverse ++ .ref (ad f i) :: rest) (hrest : (rest.map fun v => v.category).sum ≤ 8)
    (hdg : decode cc pc = .ok (.invokespecial index, 3)) (hcs : cells ≤ R.cells ∧ slots ≤ R.slots)
    (kk : ∀ (H1 : Heap) (locs1 : List Loc), Gd D cy sz ad n u s.heap H1 locs1 → W p l e R s m args below meth c H1 locs1 cells slots Q (F0 m (pc + 3) ls (.int a :: rest))) : W p l e R s m args below meth c H locs cells slots Q (F0 m pc ls st) :=
  q_cSup E G f i hi hsh hc hM h1 h2 h3 h6 h4 h5 hd hR hn hls hst hrest hdg hcs kk
end PH

theorem k_X5_isMissing_t (l : Launch) (D : va_G) (cy : Nat → ClassId) (sz : Nat) (ad : Nat → Nat → Nat) (n : Nat) (S : SS) (f i : Nat) (hf : isH f) (hi : isC n f i) (h : S.1 f i 0 = -1) : CI l yX5_isMissing cX5_isMissing 1 (some .boolean) 0 0 [.ref (ad f i)] D cy sz ad n S (1, S) := by
  have := k_X5_isMissing l D cy sz ad n S f i hf hi
  rw [if_pos h] at this
  exact this

theorem k_X5_isMissing_f (l : Launch) (D : va_G) (cy : Nat → ClassId) (sz : Nat) (ad : Nat → Nat → Nat) (n : Nat) (S : SS) (f i : Nat) (hf : isH f) (hi : isC n f i) (h : ¬ S.1 f i 0 = -1) : CI l yX5_isMissing cX5_isMissing 1 (some .boolean) 0 0 [.ref (ad f i)] D cy sz ad n S (0, S) := by
  have := k_X5_isMissing l D cy sz ad n S f i hf hi
  rw [if_neg h] at this
  exact this

def f_X5_vanish (S : SS) (f : Nat) (i : Nat) : Int32 × SS := if S.1 f i 0 = -1 then (0, (uI S f i 0 (-1))) else (1, (uI S f i 0 (-1)))
set_option maxHeartbeats 4000000 in
set_option maxRecDepth 100000 in
theorem k_X5_vanish (l : Launch) (D : va_G) (cy : Nat → ClassId) (sz : Nat) (ad : Nat → Nat → Nat) (n : Nat) (S : SS) (f i : Nat) (hf : isH f) (hi : isC n f i) : CI l yX5_vanish cX5_vanish 2 (some .boolean) 1 20 [.ref (ad f i)] D cy sz ad n S (f_X5_vanish S f i) := by
  refine Met.enter (by decide) (Nat.le_of_ble_eq_true rfl) (fun p e s m args below meth c ls E G hl => ?_)
  have E : En p s m args meth c cX5_vanish 2 (some .boolean) RX5 D cy sz := E
  obtain ⟨hx, hb, hrt, hml, hown, hw, hlk, hK, hF, hsz⟩ := id E
  have hl : lv_has ls 2 [(0, .ref (ad f i))] := hl
  refine lv_aload_n hx hb dX5_vanish_0 rfl (lv_at hl 0 rfl) ?_
  by_cases h1 : S.1 f i 0 = -1
  · refine q_cHp E G f i hf hi [] (k_X5_isMissing_t l D cy sz ad n S f i hf hi h1) tb_335 tb_307 tb_308 tb_309 tb_310 tb_306 tb_2 tb_311 rfl (nn := 0) (by decide +kernel) ⟨Nat.le_of_ble_eq_true rfl, Nat.le_of_ble_eq_true rfl⟩ rfl hl.1 rfl (Nat.le_of_ble_eq_true rfl) dX5_vanish_1 ⟨Nat.zero_le _, Nat.zero_le _⟩ (fun H locs G => ?_)
    refine lv_if_ne (tgt := 11) hx hb dX5_vanish_4 (by decide) (fun _ => ?_) (fun h => absurd h (by decide))
    refine lv_iconst (v := 0) hx hb dX5_vanish_11 (by decide) ?_
    refine lv_istore_n (lv' := [(1, .int 0), (0, .ref (ad f i))]) hx hb dX5_vanish_12 rfl hl (by decide) rfl (fun ls hl => ?_)
    refine lv_aload_n hx hb dX5_vanish_13 rfl (lv_at hl 1 rfl) ?_
    refine lv_iconst (v := (-1)) hx hb dX5_vanish_14 (by decide) ?_
    refine q_putH E G f i hf hi tb_38 (Or.inl rfl) dX5_vanish_15 (fun H locs G => ?_)
    refine lv_iload_n hx hb dX5_vanish_18 rfl (lv_at hl 0 rfl) ?_
    exact q_zret E G rfl (by unfold f_X5_vanish; simp only [if_pos h1, pr_eta]) dX5_vanish_19
  · refine q_cHp E G f i hf hi [] (k_X5_isMissing_f l D cy sz ad n S f i hf hi h1) tb_335 tb_307 tb_308 tb_309 tb_310 tb_306 tb_2 tb_311 rfl (nn := 0) (by decide +kernel) ⟨Nat.le_of_ble_eq_true rfl, Nat.le_of_ble_eq_true rfl⟩ rfl hl.1 rfl (Nat.le_of_ble_eq_true rfl) dX5_vanish_1 ⟨Nat.zero_le _, Nat.zero_le _⟩ (fun H locs G => ?_)
    refine lv_if_ne (tgt := 11) hx hb dX5_vanish_4 (by decide) (fun h => absurd h (by decide)) (fun _ => ?_)
    refine lv_iconst (v := 1) hx hb dX5_vanish_7 (by decide) ?_
    refine lv_goto (tgt := 12) hx hb dX5_vanish_8 (by decide) ?_
    refine lv_istore_n (lv' := [(1, .int 1), (0, .ref (ad f i))]) hx hb dX5_vanish_12 rfl hl (by decide) rfl (fun ls hl => ?_)
    refine lv_aload_n hx hb dX5_vanish_13 rfl (lv_at hl 1 rfl) ?_
    refine lv_iconst (v := (-1)) hx hb dX5_vanish_14 (by decide) ?_
    refine q_putH E G f i hf hi tb_38 (Or.inl rfl) dX5_vanish_15 (fun H locs G => ?_)
    refine lv_iload_n hx hb dX5_vanish_18 rfl (lv_at hl 0 rfl) ?_
    exact q_zret E G rfl (by unfold f_X5_vanish; simp only [if_neg h1, pr_eta]) dX5_vanish_19

set_option maxHeartbeats 4000000 in
set_option maxRecDepth 100000 in
theorem k_X9_failureAt (l : Launch) (D : va_G) (cy : Nat → ClassId) (sz : Nat) (ad : Nat → Nat → Nat) (n : Nat) (S : SS) (f i : Nat) (hf : isH f) (hi : isC n f i) (x : Int32) : CI l yX9_failureAt cX9_failureAt 2 (some .int) 1 21 [.ref (ad f i), .int x] D cy sz ad n S (pA S f i x, S) := by
  refine Met.enter (by decide) (Nat.le_of_ble_eq_true rfl) (fun p e s m args below meth c ls E G hl => ?_)
  have E : En p s m args meth c cX9_failureAt 2 (some .int) RX9 D cy sz := E
  obtain ⟨hx, hb, hrt, hml, hown, hw, hlk, hK, hF, hsz⟩ := id E
  have hl : lv_has ls 2 [(0, .ref (ad f i)), (1, .int x)] := hl
  refine lv_aload_n hx hb dX9_failureAt_0 rfl (lv_at hl 0 rfl) ?_
  by_cases h1 : S.1 f i 0 = -1
  · refine q_cHp E G f i hf hi [] (k_X5_isMissing_t l D cy sz ad n S f i hf hi h1) tb_305 tb_307 tb_308 tb_309 tb_310 tb_306 tb_2 tb_311 rfl (nn := 0) (by decide +kernel) ⟨Nat.le_of_ble_eq_true rfl, Nat.le_of_ble_eq_true rfl⟩ rfl hl.1 rfl (Nat.le_of_ble_eq_true rfl) dX9_failureAt_1 ⟨Nat.zero_le _, Nat.zero_le _⟩ (fun H locs G => ?_)
    refine lv_if_eq (tgt := 9) hx hb dX9_failureAt_4 (by decide) (fun h => absurd h (by decide)) (fun _ => ?_)
    refine lv_iconst (v := 1) hx hb dX9_failureAt_7 (by decide) ?_
    exact q_iret E G (by first | rfl | (unfold pA; simp only [if_pos h1]; done) | (unfold pA; simp only [if_pos h1]; rfl)) dX9_failureAt_8
  · refine q_cHp E G f i hf hi [] (k_X5_isMissing_f l D cy sz ad n S f i hf hi h1) tb_305 tb_307 tb_308 tb_309 tb_310 tb_306 tb_2 tb_311 rfl (nn := 0) (by decide +kernel) ⟨Nat.le_of_ble_eq_true rfl, Nat.le_of_ble_eq_true rfl⟩ rfl hl.1 rfl (Nat.le_of_ble_eq_true rfl) dX9_failureAt_1 ⟨Nat.zero_le _, Nat.zero_le _⟩ (fun H locs G => ?_)
    refine lv_if_eq (tgt := 9) hx hb dX9_failureAt_4 (by decide) (fun _ => ?_) (fun h => absurd h (by decide))
    refine lv_iload_n hx hb dX9_failureAt_9 rfl (lv_at hl 1 rfl) ?_
    refine lv_aload_n hx hb dX9_failureAt_10 rfl (lv_at hl 0 rfl) ?_
    refine q_getH E G f i hf hi tb_45 (Or.inl rfl) dX9_failureAt_11 ?_
    by_cases h2 : wi x (S.1 f i 0) = true
    · refine q_cSp E G [] (k_X9_isWithin_t l D cy sz ad n S x (S.1 f i 0) h2) tb_117 tb_118 tb_1 tb_119 (nn := 2) (by decide +kernel) ⟨Nat.le_of_ble_eq_true rfl, Nat.le_of_ble_eq_true rfl⟩ rfl hl.1 rfl (Nat.le_of_ble_eq_true rfl) dX9_failureAt_14 ⟨Nat.zero_le _, Nat.zero_le _⟩ (fun H locs G => ?_)
      refine lv_if_eq (tgt := 24) hx hb dX9_failureAt_17 (by decide) (fun h => absurd h (by decide)) (fun _ => ?_)
      refine lv_iconst (v := 0) hx hb dX9_failureAt_20 (by decide) ?_
      refine lv_goto (tgt := 25) hx hb dX9_failureAt_21 (by decide) ?_
      exact q_iret E G (by first | rfl | (unfold pA; simp only [if_neg h1, if_pos h2]; done) | (unfold pA; simp only [if_neg h1, if_pos h2]; rfl)) dX9_failureAt_25
    · refine q_cSp E G [] (k_X9_isWithin_f l D cy sz ad n S x (S.1 f i 0) h2) tb_117 tb_118 tb_1 tb_119 (nn := 2) (by decide +kernel) ⟨Nat.le_of_ble_eq_true rfl, Nat.le_of_ble_eq_true rfl⟩ rfl hl.1 rfl (Nat.le_of_ble_eq_true rfl) dX9_failureAt_14 ⟨Nat.zero_le _, Nat.zero_le _⟩ (fun H locs G => ?_)
      refine lv_if_eq (tgt := 24) hx hb dX9_failureAt_17 (by decide) (fun _ => ?_) (fun h => absurd h (by decide))
      refine lv_iconst (v := 2) hx hb dX9_failureAt_24 (by decide) ?_
      exact q_iret E G (by first | rfl | (unfold pA; simp only [if_neg h1, if_neg h2]; done) | (unfold pA; simp only [if_neg h1, if_neg h2]; rfl)) dX9_failureAt_25

set_option maxHeartbeats 4000000 in
set_option maxRecDepth 100000 in
theorem k_X9_failureAtCell (l : Launch) (D : va_G) (cy : Nat → ClassId) (sz : Nat) (ad : Nat → Nat → Nat) (n : Nat) (S : SS) (ok : okC n S) (gg : Nat) (hg : gg < 2) (x : Int32) (j : Int32) : CI l yX9_failureAtCell cX9_failureAtCell 4 (some .int) 2 42 [.ref (ad 12 gg), .int x, .int j] D cy sz ad n S (pC S gg x j, S) := by
  refine Met.enter (by decide) (Nat.le_of_ble_eq_true rfl) (fun p e s m args below meth c ls E G hl => ?_)
  have E : En p s m args meth c cX9_failureAtCell 4 (some .int) RX9 D cy sz := E
  obtain ⟨hx, hb, hrt, hml, hown, hw, hlk, hK, hF, hsz⟩ := id E
  have hl : lv_has ls 4 [(0, .ref (ad 12 gg)), (1, .int x), (2, .int j)] := hl
  refine lv_aload_n hx hb dX9_failureAtCell_0 rfl (lv_at hl 0 rfl) ?_
  refine lv_iload_n hx hb dX9_failureAtCell_1 rfl (lv_at hl 1 rfl) ?_
  refine q_cSp E G [] (k_X9_failureAt l D cy sz ad n S 12 gg (Or.inr (Or.inr (Or.inl rfl))) (c12 hg) x) tb_302 tb_303 tb_1 tb_304 (nn := 2) (by decide +kernel) ⟨Nat.le_of_ble_eq_true rfl, Nat.le_of_ble_eq_true rfl⟩ rfl hl.1 rfl (Nat.le_of_ble_eq_true rfl) dX9_failureAtCell_2 ⟨Nat.zero_le _, Nat.zero_le _⟩ (fun H locs G => ?_)
  refine lv_istore_n (lv' := [(3, .int (pA S 12 gg x)), (0, .ref (ad 12 gg)), (1, .int x), (2, .int j)]) hx hb dX9_failureAtCell_5 rfl hl (by decide) rfl (fun ls hl => ?_)
  refine lv_iload_n hx hb dX9_failureAtCell_6 rfl (lv_at hl 0 rfl) ?_
  refine lv_if_eq (tgt := 14) hx hb dX9_failureAtCell_7 (by decide) (fun h1 => ?_) (fun h1 => ?_)
  · have v2 : vp_in x 8 := wi_le (pA_0 h1) (ok.2.2.2.1 _ (hg)) (by decide)
    have v3 : 8 * gg + x.toNatClampNeg < 16 := by have := hg; have := vp_lt v2; omega
    refine lv_aload_n hx hb dX9_failureAtCell_14 rfl (lv_at hl 1 rfl) ?_
    refine q_get (index := 166) (ref := "ToolRoom$Grid") E G inX3 12 gg (c12 hg) sg_12 rfl 1 (by decide) tb_77 (Or.inl rfl) rfl dX9_failureAtCell_15 ?_
    refine lv_iload_n hx hb dX9_failureAtCell_18 rfl (lv_at hl 2 rfl) ?_
    refine q_aald (C := "ToolRoom$Row") E G 13 gg (c13 hg) sa_13 3 rfl v2 dX9_failureAtCell_19 ?_
    refine lv_iload_n hx hb dX9_failureAtCell_20 rfl (lv_at hl 3 rfl) ?_
    refine q_cSp E G [] (k_X9_failureAt l D cy sz ad n S 14 (8 * gg + x.toNatClampNeg) (Or.inr (Or.inr (Or.inr rfl))) (c14 v3) j) tb_302 tb_303 tb_1 tb_304 (nn := 2) (by decide +kernel) ⟨Nat.le_of_ble_eq_true rfl, Nat.le_of_ble_eq_true rfl⟩ rfl hl.1 rfl (Nat.le_of_ble_eq_true rfl) dX9_failureAtCell_21 ⟨Nat.zero_le _, Nat.zero_le _⟩ (fun H locs G => ?_)
    exact q_iret E G (by first | rfl | (unfold pC; simp only [if_pos h1]; done) | (unfold pC; simp only [if_pos h1]; rfl)) dX9_failureAtCell_24
  · refine lv_iload_n hx hb dX9_failureAtCell_10 rfl (lv_at hl 0 rfl) ?_
    refine lv_goto (tgt := 24) hx hb dX9_failureAtCell_11 (by decide) ?_
    exact q_iret E G (by first | rfl | (unfold pC; simp only [if_neg h1]; done) | (unfold pC; simp only [if_neg h1]; rfl)) dX9_failureAtCell_24

set_option maxHeartbeats 4000000 in
set_option maxRecDepth 100000 in
theorem k_X9_isOfSort_n (l : Launch) (D : va_G) (cy : Nat → ClassId) (sz : Nat) (ad : Nat → Nat → Nat) (n : Nat) (S : SS) (sort : Int32) : CI l yX9_isOfSort cX9_isOfSort 2 (some .boolean) 0 0 [.null, .int sort] D cy sz ad n S (pS S none sort, S) := by
  refine Met.enter (by decide) (Nat.le_of_ble_eq_true rfl) (fun p e s m args below meth c ls E G hl => ?_)
  have E : En p s m args meth c cX9_isOfSort 2 (some .boolean) RX9 D cy sz := E
  obtain ⟨hx, hb, hrt, hml, hown, hw, hlk, hK, hF, hsz⟩ := id E
  have hl : lv_has ls 2 [(0, .null), (1, .int sort)] := hl
  refine lv_aload_nN hx hb dX9_isOfSort_0 rfl (lv_at hl 0 rfl) ?_
  refine lv_ifnullN (tgt := 8) hx hb dX9_isOfSort_1 (by decide) ?_
  refine lv_iconst (v := 1) hx hb dX9_isOfSort_8 (by decide) ?_
  exact q_zret E G rfl (by first | rfl | (unfold pS; simp only []; done) | (unfold pS; simp only []; rfl)) dX9_isOfSort_9

set_option maxHeartbeats 4000000 in
set_option maxRecDepth 100000 in
theorem k_X9_isOfSort_s (l : Launch) (D : va_G) (cy : Nat → ClassId) (sz : Nat) (ad : Nat → Nat → Nat) (n : Nat) (S : SS) (t : Nat) (ht : t < n) (sort : Int32) : CI l yX9_isOfSort cX9_isOfSort 2 (some .boolean) 0 0 [.ref (ad 16 t), .int sort] D cy sz ad n S (pS S (some t) sort, S) := by
  refine Met.enter (by decide) (Nat.le_of_ble_eq_true rfl) (fun p e s m args below meth c ls E G hl => ?_)
  have E : En p s m args meth c cX9_isOfSort 2 (some .boolean) RX9 D cy sz := E
  obtain ⟨hx, hb, hrt, hml, hown, hw, hlk, hK, hF, hsz⟩ := id E
  have hl : lv_has ls 2 [(0, .ref (ad 16 t)), (1, .int sort)] := hl
  refine lv_aload_n hx hb dX9_isOfSort_0 rfl (lv_at hl 0 rfl) ?_
  refine lv_ifnull hx hb dX9_isOfSort_1 ?_
  refine lv_iload_n hx hb dX9_isOfSort_4 rfl (lv_at hl 1 rfl) ?_
  refine lv_if_ne (tgt := 10) hx hb dX9_isOfSort_5 (by decide) (fun h1 => ?_) (fun h1 => ?_)
  · refine lv_iload_n hx hb dX9_isOfSort_10 rfl (lv_at hl 1 rfl) ?_
    refine lv_iconst (v := 1) hx hb dX9_isOfSort_11 (by decide) ?_
    refine lv_icmp_ne (tgt := 22) hx hb dX9_isOfSort_12 (by decide) (fun h2 => ?_) (fun h2 => ?_)
    · refine lv_aload_n hx hb dX9_isOfSort_22 rfl (lv_at hl 0 rfl) ?_
      refine q_instG E G ht tb_182 dX9_isOfSort_23 (fun h3 => ?_) (fun h3 => ?_)
      · exact q_zret E G rfl (by first | rfl | (unfold pS; simp only [if_neg h1, if_neg h2, if_pos h3]; done) | (unfold pS; simp only [if_neg h1, if_neg h2, if_pos h3]; rfl)) dX9_isOfSort_26
      · exact q_zret E G rfl (by first | rfl | (unfold pS; simp only [if_neg h1, if_neg h2, if_neg h3]; done) | (unfold pS; simp only [if_neg h1, if_neg h2, if_neg h3]; rfl)) dX9_isOfSort_26
    · refine lv_aload_n hx hb dX9_isOfSort_15 rfl (lv_at hl 0 rfl) ?_
      refine q_instB E G ht tb_155 dX9_isOfSort_16 (fun h4 => ?_) (fun h4 => ?_)
      · refine lv_goto (tgt := 26) hx hb dX9_isOfSort_19 (by decide) ?_
        exact q_zret E G rfl (by first | rfl | (unfold pS; simp only [if_neg h1, if_pos h2, if_pos h4]; done) | (unfold pS; simp only [if_neg h1, if_pos h2, if_pos h4]; rfl)) dX9_isOfSort_26
      · refine lv_goto (tgt := 26) hx hb dX9_isOfSort_19 (by decide) ?_
        exact q_zret E G rfl (by first | rfl | (unfold pS; simp only [if_neg h1, if_pos h2, if_neg h4]; done) | (unfold pS; simp only [if_neg h1, if_pos h2, if_neg h4]; rfl)) dX9_isOfSort_26
  · refine lv_iconst (v := 1) hx hb dX9_isOfSort_8 (by decide) ?_
    exact q_zret E G rfl (by first | rfl | (unfold pS; simp only [if_pos h1]; done) | (unfold pS; simp only [if_pos h1]; rfl)) dX9_isOfSort_9

def f_X0_kindNumber (S : SS) (t : Nat) : Int32 × SS := (1, S)
set_option maxHeartbeats 4000000 in
set_option maxRecDepth 100000 in
theorem k_X0_kindNumber (l : Launch) (D : va_G) (cy : Nat → ClassId) (sz : Nat) (ad : Nat → Nat → Nat) (n : Nat) (S : SS) (t : Nat) (ht : t < n) : CI l yX0_kindNumber cX0_kindNumber 1 (some .int) 0 0 [.ref (ad 16 t)] D cy sz ad n S (f_X0_kindNumber S t) := by
  refine Met.enter (by decide) (Nat.le_of_ble_eq_true rfl) (fun p e s m args below meth c ls E G hl => ?_)
  have E : En p s m args meth c cX0_kindNumber 1 (some .int) RX0 D cy sz := E
  obtain ⟨hx, hb, hrt, hml, hown, hw, hlk, hK, hF, hsz⟩ := id E
  have hl : lv_has ls 1 [(0, .ref (ad 16 t))] := hl
  refine lv_iconst (v := 1) hx hb dX0_kindNumber_0 (by decide) ?_
  exact q_iret E G (by rfl) dX0_kindNumber_1

def f_X0_weight (S : SS) (t : Nat) : Int32 × SS := (10, S)
set_option maxHeartbeats 4000000 in
set_option maxRecDepth 100000 in
theorem k_X0_weight (l : Launch) (D : va_G) (cy : Nat → ClassId) (sz : Nat) (ad : Nat → Nat → Nat) (n : Nat) (S : SS) (t : Nat) (ht : t < n) : CI l yX0_weight cX0_weight 1 (some .int) 0 0 [.ref (ad 16 t)] D cy sz ad n S (f_X0_weight S t) := by
  refine Met.enter (by decide) (Nat.le_of_ble_eq_true rfl) (fun p e s m args below meth c ls E G hl => ?_)
  have E : En p s m args meth c cX0_weight 1 (some .int) RX0 D cy sz := E
  obtain ⟨hx, hb, hrt, hml, hown, hw, hlk, hK, hF, hsz⟩ := id E
  have hl : lv_has ls 1 [(0, .ref (ad 16 t))] := hl
  refine lv_bipush (v := 10) hx hb dX0_weight_0 (by decide) ?_
  exact q_iret E G (by rfl) dX0_weight_2

def f_X1_kindNumber (S : SS) (t : Nat) : Int32 × SS := (2, S)
set_option maxHeartbeats 4000000 in
set_option maxRecDepth 100000 in
theorem k_X1_kindNumber (l : Launch) (D : va_G) (cy : Nat → ClassId) (sz : Nat) (ad : Nat → Nat → Nat) (n : Nat) (S : SS) (t : Nat) (ht : t < n) : CI l yX1_kindNumber cX1_kindNumber 1 (some .int) 0 0 [.ref (ad 16 t)] D cy sz ad n S (f_X1_kindNumber S t) := by
  refine Met.enter (by decide) (Nat.le_of_ble_eq_true rfl) (fun p e s m args below meth c ls E G hl => ?_)
  have E : En p s m args meth c cX1_kindNumber 1 (some .int) RX1 D cy sz := E
  obtain ⟨hx, hb, hrt, hml, hown, hw, hlk, hK, hF, hsz⟩ := id E
  have hl : lv_has ls 1 [(0, .ref (ad 16 t))] := hl
  refine lv_iconst (v := 2) hx hb dX1_kindNumber_0 (by decide) ?_
  exact q_iret E G (by rfl) dX1_kindNumber_1

def f_X1_weight (S : SS) (t : Nat) : Int32 × SS := (12, S)
set_option maxHeartbeats 4000000 in
set_option maxRecDepth 100000 in
theorem k_X1_weight (l : Launch) (D : va_G) (cy : Nat → ClassId) (sz : Nat) (ad : Nat → Nat → Nat) (n : Nat) (S : SS) (t : Nat) (ht : t < n) : CI l yX1_weight cX1_weight 1 (some .int) 0 0 [.ref (ad 16 t)] D cy sz ad n S (f_X1_weight S t) := by
  refine Met.enter (by decide) (Nat.le_of_ble_eq_true rfl) (fun p e s m args below meth c ls E G hl => ?_)
  have E : En p s m args meth c cX1_weight 1 (some .int) RX1 D cy sz := E
  obtain ⟨hx, hb, hrt, hml, hown, hw, hlk, hK, hF, hsz⟩ := id E
  have hl : lv_has ls 1 [(0, .ref (ad 16 t))] := hl
  refine lv_bipush (v := 12) hx hb dX1_weight_0 (by decide) ?_
  exact q_iret E G (by rfl) dX1_weight_2

def f_X2_kindNumber (S : SS) (t : Nat) : Int32 × SS := (3, S)
set_option maxHeartbeats 4000000 in
set_option maxRecDepth 100000 in
theorem k_X2_kindNumber (l : Launch) (D : va_G) (cy : Nat → ClassId) (sz : Nat) (ad : Nat → Nat → Nat) (n : Nat) (S : SS) (t : Nat) (ht : t < n) : CI l yX2_kindNumber cX2_kindNumber 1 (some .int) 0 0 [.ref (ad 16 t)] D cy sz ad n S (f_X2_kindNumber S t) := by
  refine Met.enter (by decide) (Nat.le_of_ble_eq_true rfl) (fun p e s m args below meth c ls E G hl => ?_)
  have E : En p s m args meth c cX2_kindNumber 1 (some .int) RX2 D cy sz := E
  obtain ⟨hx, hb, hrt, hml, hown, hw, hlk, hK, hF, hsz⟩ := id E
  have hl : lv_has ls 1 [(0, .ref (ad 16 t))] := hl
  refine lv_iconst (v := 3) hx hb dX2_kindNumber_0 (by decide) ?_
  exact q_iret E G (by rfl) dX2_kindNumber_1

def f_X2_weight (S : SS) (t : Nat) : Int32 × SS := (5, S)
set_option maxHeartbeats 4000000 in
set_option maxRecDepth 100000 in
theorem k_X2_weight (l : Launch) (D : va_G) (cy : Nat → ClassId) (sz : Nat) (ad : Nat → Nat → Nat) (n : Nat) (S : SS) (t : Nat) (ht : t < n) : CI l yX2_weight cX2_weight 1 (some .int) 0 0 [.ref (ad 16 t)] D cy sz ad n S (f_X2_weight S t) := by
  refine Met.enter (by decide) (Nat.le_of_ble_eq_true rfl) (fun p e s m args below meth c ls E G hl => ?_)
  have E : En p s m args meth c cX2_weight 1 (some .int) RX2 D cy sz := E
  obtain ⟨hx, hb, hrt, hml, hown, hw, hlk, hK, hF, hsz⟩ := id E
  have hl : lv_has ls 1 [(0, .ref (ad 16 t))] := hl
  refine lv_iconst (v := 5) hx hb dX2_weight_0 (by decide) ?_
  exact q_iret E G (by rfl) dX2_weight_1

def f_X4_kindNumber (S : SS) (t : Nat) : Int32 × SS := (0, S)
set_option maxHeartbeats 4000000 in
set_option maxRecDepth 100000 in
theorem k_X4_kindNumber (l : Launch) (D : va_G) (cy : Nat → ClassId) (sz : Nat) (ad : Nat → Nat → Nat) (n : Nat) (S : SS) (t : Nat) (ht : t < n) : CI l yX4_kindNumber cX4_kindNumber 1 (some .int) 0 0 [.ref (ad 16 t)] D cy sz ad n S (f_X4_kindNumber S t) := by
  refine Met.enter (by decide) (Nat.le_of_ble_eq_true rfl) (fun p e s m args below meth c ls E G hl => ?_)
  have E : En p s m args meth c cX4_kindNumber 1 (some .int) RX4 D cy sz := E
  obtain ⟨hx, hb, hrt, hml, hown, hw, hlk, hK, hF, hsz⟩ := id E
  have hl : lv_has ls 1 [(0, .ref (ad 16 t))] := hl
  refine lv_iconst (v := 0) hx hb dX4_kindNumber_0 (by decide) ?_
  exact q_iret E G (by rfl) dX4_kindNumber_1

def f_X4_weight (S : SS) (t : Nat) : Int32 × SS := ((50 + (S.1 16 t 0)), S)
set_option maxHeartbeats 4000000 in
set_option maxRecDepth 100000 in
theorem k_X4_weight (l : Launch) (D : va_G) (cy : Nat → ClassId) (sz : Nat) (ad : Nat → Nat → Nat) (n : Nat) (S : SS) (t : Nat) (ht : t < n) : CI l yX4_weight cX4_weight 1 (some .int) 0 0 [.ref (ad 16 t)] D cy sz ad n S (f_X4_weight S t) := by
  refine Met.enter (by decide) (Nat.le_of_ble_eq_true rfl) (fun p e s m args below meth c ls E G hl => ?_)
  have E : En p s m args meth c cX4_weight 1 (some .int) RX4 D cy sz := E
  obtain ⟨hx, hb, hrt, hml, hown, hw, hlk, hK, hF, hsz⟩ := id E
  have hl : lv_has ls 1 [(0, .ref (ad 16 t))] := hl
  refine lv_bipush (v := 50) hx hb dX4_weight_0 (by decide) ?_
  refine lv_aload_n hx hb dX4_weight_2 rfl (lv_at hl 0 rfl) ?_
  refine q_getT E G ht 0 (by decide) rfl rfl rfl rfl tb_137 (Or.inr tb_138) dX4_weight_3 ?_
  refine lv_iadd hx hb dX4_weight_6 ?_
  exact q_iret E G (by rfl) dX4_weight_7

def f_X4_work (S : SS) (t : Nat) (force : Int32) : Int32 × SS := ((2 * force), (uI S 16 t 0 ((S.1 16 t 0) + force)))
set_option maxHeartbeats 4000000 in
set_option maxRecDepth 100000 in
theorem k_X4_work (l : Launch) (D : va_G) (cy : Nat → ClassId) (sz : Nat) (ad : Nat → Nat → Nat) (n : Nat) (S : SS) (t : Nat) (ht : t < n) (force : Int32) : CI l yX4_work cX4_work 2 (some .int) 0 0 [.ref (ad 16 t), .int force] D cy sz ad n S (f_X4_work S t force) := by
  refine Met.enter (by decide) (Nat.le_of_ble_eq_true rfl) (fun p e s m args below meth c ls E G hl => ?_)
  have E : En p s m args meth c cX4_work 2 (some .int) RX4 D cy sz := E
  obtain ⟨hx, hb, hrt, hml, hown, hw, hlk, hK, hF, hsz⟩ := id E
  have hl : lv_has ls 2 [(0, .ref (ad 16 t)), (1, .int force)] := hl
  refine lv_aload_n hx hb dX4_work_0 rfl (lv_at hl 0 rfl) ?_
  refine lv_dup hx hb dX4_work_1 rfl ?_
  refine q_getT E G ht 0 (by decide) rfl rfl rfl rfl tb_137 (Or.inr tb_138) dX4_work_2 ?_
  refine lv_iload_n hx hb dX4_work_5 rfl (lv_at hl 1 rfl) ?_
  refine lv_iadd hx hb dX4_work_6 ?_
  refine q_putT E G ht 0 (by decide) rfl rfl rfl rfl tb_137 (Or.inr tb_138) (ty := .int) (by decide +kernel) rfl rfl dX4_work_7 (fun H locs G => ?_)
  refine lv_iconst (v := 2) hx hb dX4_work_10 (by decide) ?_
  refine lv_iload_n hx hb dX4_work_11 rfl (lv_at hl 1 rfl) ?_
  refine lv_imul hx hb dX4_work_12 ?_
  exact q_iret E G (by rfl) dX4_work_13

def f_X2_work (S : SS) (t : Nat) (force : Int32) : Int32 × SS := ((S.1 16 t 0), (uI S 16 t 0 ((S.1 16 t 0) + 1)))
set_option maxHeartbeats 4000000 in
set_option maxRecDepth 100000 in
theorem k_X2_work (l : Launch) (D : va_G) (cy : Nat → ClassId) (sz : Nat) (ad : Nat → Nat → Nat) (n : Nat) (S : SS) (t : Nat) (ht : t < n) (force : Int32) : CI l yX2_work cX2_work 3 (some .int) 0 0 [.ref (ad 16 t), .int force] D cy sz ad n S (f_X2_work S t force) := by
  refine Met.enter (by decide) (Nat.le_of_ble_eq_true rfl) (fun p e s m args below meth c ls E G hl => ?_)
  have E : En p s m args meth c cX2_work 3 (some .int) RX2 D cy sz := E
  obtain ⟨hx, hb, hrt, hml, hown, hw, hlk, hK, hF, hsz⟩ := id E
  have hl : lv_has ls 3 [(0, .ref (ad 16 t)), (1, .int force)] := hl
  refine lv_aload_n hx hb dX2_work_0 rfl (lv_at hl 0 rfl) ?_
  refine q_getT E G ht 0 (by decide) rfl rfl rfl rfl tb_139 (Or.inr tb_140) dX2_work_1 ?_
  refine lv_istore_n (lv' := [(2, .int (S.1 16 t 0)), (0, .ref (ad 16 t)), (1, .int force)]) hx hb dX2_work_4 rfl hl (by decide) rfl (fun ls hl => ?_)
  refine lv_aload_n hx hb dX2_work_5 rfl (lv_at hl 1 rfl) ?_
  refine lv_dup hx hb dX2_work_6 rfl ?_
  refine q_getT E G ht 0 (by decide) rfl rfl rfl rfl tb_139 (Or.inr tb_140) dX2_work_7 ?_
  refine lv_iconst (v := 1) hx hb dX2_work_10 (by decide) ?_
  refine lv_iadd hx hb dX2_work_11 ?_
  refine q_putT E G ht 0 (by decide) rfl rfl rfl rfl tb_139 (Or.inr tb_140) (ty := .int) (by decide +kernel) rfl rfl dX2_work_12 (fun H locs G => ?_)
  refine lv_iload_n hx hb dX2_work_15 rfl (lv_at hl 0 rfl) ?_
  exact q_iret E G (by rfl) dX2_work_16

def f_X0_work (S : SS) (t : Nat) (force : Int32) : Int32 × SS := ((force + (S.1 16 t 0)), (uI S 16 t 3 ((S.1 16 t 3) - force)))
set_option maxHeartbeats 4000000 in
set_option maxRecDepth 100000 in
theorem k_X0_work (l : Launch) (D : va_G) (cy : Nat → ClassId) (sz : Nat) (ad : Nat → Nat → Nat) (n : Nat) (S : SS) (t : Nat) (ht : t < n) (hk : S.1 16 t 4 = 1 ∨ S.1 16 t 4 = 2) (force : Int32) : CI l yX0_work cX0_work 2 (some .int) 0 0 [.ref (ad 16 t), .int force] D cy sz ad n S (f_X0_work S t force) := by
  refine Met.enter (by decide) (Nat.le_of_ble_eq_true rfl) (fun p e s m args below meth c ls E G hl => ?_)
  have E : En p s m args meth c cX0_work 2 (some .int) RX0 D cy sz := E
  obtain ⟨hx, hb, hrt, hml, hown, hw, hlk, hK, hF, hsz⟩ := id E
  have hl : lv_has ls 2 [(0, .ref (ad 16 t)), (1, .int force)] := hl
  refine lv_aload_n hx hb dX0_work_0 rfl (lv_at hl 0 rfl) ?_
  refine lv_dup hx hb dX0_work_1 rfl ?_
  refine q_getE E G ht hk tb_161 (Or.inl rfl) dX0_work_2 ?_
  refine lv_iload_n hx hb dX0_work_5 rfl (lv_at hl 1 rfl) ?_
  refine lv_isub hx hb dX0_work_6 ?_
  refine q_putE E G ht hk tb_161 (Or.inl rfl) dX0_work_7 (fun H locs G => ?_)
  refine lv_iload_n hx hb dX0_work_10 rfl (lv_at hl 1 rfl) ?_
  refine lv_aload_n hx hb dX0_work_11 rfl (lv_at hl 0 rfl) ?_
  refine q_getT E G ht 0 (by decide) rfl rfl rfl rfl tb_141 (Or.inr tb_142) dX0_work_12 ?_
  rw [uI_nk (by decide)]
  refine lv_iadd hx hb dX0_work_15 ?_
  exact q_iret E G (by rfl) dX0_work_16

def f_X1_work (S : SS) (t : Nat) (force : Int32) : Int32 × SS := (((force + (S.1 16 t 0)) + 1), (uI (uI S 16 t 3 ((S.1 16 t 3) - force)) 16 t 3 (((S.1 16 t 3) - force) + 1)))
set_option maxHeartbeats 4000000 in
set_option maxRecDepth 100000 in
theorem k_X1_work (l : Launch) (D : va_G) (cy : Nat → ClassId) (sz : Nat) (ad : Nat → Nat → Nat) (n : Nat) (S : SS) (t : Nat) (ht : t < n) (h2 : S.1 16 t 4 = 2) (force : Int32) : CI l yX1_work cX1_work 3 (some .int) 1 21 [.ref (ad 16 t), .int force] D cy sz ad n S (f_X1_work S t force) := by
  refine Met.enter (by decide) (Nat.le_of_ble_eq_true rfl) (fun p e s m args below meth c ls E G hl => ?_)
  have E : En p s m args meth c cX1_work 3 (some .int) RX1 D cy sz := E
  obtain ⟨hx, hb, hrt, hml, hown, hw, hlk, hK, hF, hsz⟩ := id E
  have hl : lv_has ls 3 [(0, .ref (ad 16 t)), (1, .int force)] := hl
  refine lv_aload_n hx hb dX1_work_0 rfl (lv_at hl 0 rfl) ?_
  refine lv_iload_n hx hb dX1_work_1 rfl (lv_at hl 1 rfl) ?_
  refine q_cSupp (a := (force + (S.1 16 t 0))) (u := (uI S 16 t 3 ((S.1 16 t 3) - force))) E G 16 t (c16 ht) (ci := 1) (fs := [.int (S.1 16 t 3), .int (S.1 16 t 0), .int (S.1 16 t 1), .int (S.1 16 t 2)]) (by show tE _ = _; simp [tE, h2]) (C := RX1) (T := TX1) (N := 4) rfl [] (k_X0_work l D cy sz ad n S t ht (Or.inr h2) force) tb_287 tb_641 tb_181 tb_282 tb_9 tb_283 (nn := 1) (by decide +kernel) ⟨Nat.le_of_ble_eq_true rfl, Nat.le_of_ble_eq_true rfl⟩ rfl hl.1 rfl (Nat.le_of_ble_eq_true rfl) dX1_work_2 ⟨Nat.zero_le _, Nat.zero_le _⟩ (fun H locs G => ?_)
  refine lv_iconst (v := 1) hx hb dX1_work_5 (by decide) ?_
  refine lv_iadd hx hb dX1_work_6 ?_
  refine lv_istore_n (lv' := [(2, .int ((force + (S.1 16 t 0)) + 1)), (0, .ref (ad 16 t)), (1, .int force)]) hx hb dX1_work_7 rfl hl (by decide) rfl (fun ls hl => ?_)
  refine lv_aload_n hx hb dX1_work_8 rfl (lv_at hl 1 rfl) ?_
  refine lv_dup hx hb dX1_work_9 rfl ?_
  refine q_getE E G ht (Or.inr (by rw [uI_nk (by decide)]; exact h2)) tb_162 (Or.inr tb_163) dX1_work_10 ?_
  rw [uI_self]
  refine lv_iconst (v := 1) hx hb dX1_work_13 (by decide) ?_
  refine lv_iadd hx hb dX1_work_14 ?_
  refine q_putE E G ht (Or.inr (by rw [uI_nk (by decide)]; exact h2)) tb_162 (Or.inr tb_163) dX1_work_15 (fun H locs G => ?_)
  refine lv_iload_n hx hb dX1_work_18 rfl (lv_at hl 0 rfl) ?_
  exact q_iret E G (by rfl) dX1_work_19
end
section
def vK (S : SS) (t : Nat) : Int32 := if S.1 16 t 4 = 0 then 0 else if S.1 16 t 4 = 1 then 1 else if S.1 16 t 4 = 2 then 2 else 3
def vW (S : SS) (t : Nat) : Int32 := if S.1 16 t 4 = 0 then 50 + S.1 16 t 0 else if S.1 16 t 4 = 1 then 10 else if S.1 16 t 4 = 2 then 12 else 5
def f_work (S : SS) (t : Nat) (force : Int32) : Int32 × SS := if S.1 16 t 4 = 0 then f_X4_work S t force else if S.1 16 t 4 = 1 then f_X0_work S t force else if S.1 16 t 4 = 2 then f_X1_work S t force else f_X2_work S t force
section TC
variable {p : Program} {l : Launch} {e : Env} {R : Room} {s : State} {m : MethodId} {args : Array Value} {below : List Frame} {meth : Method} {c : Code} {H : Heap} {locs : List Loc} {cells slots : Nat} {Q : State → Prop}
variable {cc : ByteArray} {mL : Nat} {rt : Option FieldType} {own : String} {pc : Nat} {ls : Array Slot} {st rest : List Value} {D : va_G} {cy : Nat → ClassId} {sz : Nat} {ad : Nat → Nat → Nat} {n : Nat} {S : SS}
variable {y : MethodName} {b : ByteArray} {k fr lo index nn : Nat} {r : Option FieldType} {As : List Value}
theorem q_t_kindNumber (E : En p s m args meth c cc mL rt RX9 D cy sz) (G : Gd D cy sz ad n S s.heap H locs) {t : Nat} (ht : t < n) (rest : List Value) (hR : 2 ≤ R.frames ∧ 43 ≤ R.locals) (hls : ls.size = mL) (hst : st = [.ref (ad 16 t)] ++ rest) (hrest : (rest.map fun v => v.category).sum ≤ 8) (hdg : decode cc pc = .ok (.invokevirtual 74, 3)) (hcs : cells ≤ R.cells ∧ slots ≤ R.slots)
    (kk : ∀ (H1 : Heap) (locs1 : List Loc), Gd D cy sz ad n S s.heap H1 locs1 → W p l e R s m args below meth c H1 locs1 cells slots Q (F0 m (pc + 3) ls (.int (vK S t) :: rest))) : W p l e R s m args below meth c H locs cells slots Q (F0 m pc ls st) := by
  rcases tE_cases (S.1 16 t) with ⟨h0, h⟩ | ⟨h0, h⟩ | ⟨h0, h⟩ | ⟨h0, h⟩
  · have e1 : vK S t = (f_X4_kindNumber S t).1 := by unfold vK; rw [if_pos h0]; rfl
    exact q_cA (F := f_X4_kindNumber S t) (x := ⟨"ToolRoom$Tool", "kindNumber", "()I"⟩) (owner := "ToolRoom$Tool") (rest := rest) E G 16 t (c16 ht) h (C := RX4) (T := TX4) (N := 3) rfl (k_X4_kindNumber l D cy sz ad n S t ht) tb_208 tb_210 tb_220 tb_221 tb_8 tb_222 (by decide) (nn := 0) (by decide +kernel) ⟨by show 0 + 1 ≤ _; omega, by show 8 + (1 + 11) + 0 ≤ _; omega⟩ rfl hls hst hrest hdg hcs (by rw [e1] at kk; exact kk)
  · have e1 : vK S t = (f_X0_kindNumber S t).1 := by unfold vK; rw [if_neg (by rw [h0]; decide), if_pos h0]; rfl
    exact q_cA (F := f_X0_kindNumber S t) (x := ⟨"ToolRoom$Tool", "kindNumber", "()I"⟩) (owner := "ToolRoom$Tool") (rest := rest) E G 16 t (c16 ht) h (C := RX0) (T := TX0) (N := 4) rfl (k_X0_kindNumber l D cy sz ad n S t ht) tb_208 tb_210 tb_211 tb_212 tb_9 tb_213 (by decide) (nn := 0) (by decide +kernel) ⟨by show 0 + 1 ≤ _; omega, by show 8 + (1 + 11) + 0 ≤ _; omega⟩ rfl hls hst hrest hdg hcs (by rw [e1] at kk; exact kk)
  · have e1 : vK S t = (f_X1_kindNumber S t).1 := by unfold vK; rw [if_neg (by rw [h0]; decide), if_neg (by rw [h0]; decide), if_pos h0]; rfl
    exact q_cA (F := f_X1_kindNumber S t) (x := ⟨"ToolRoom$Tool", "kindNumber", "()I"⟩) (owner := "ToolRoom$Tool") (rest := rest) E G 16 t (c16 ht) h (C := RX1) (T := TX1) (N := 4) rfl (k_X1_kindNumber l D cy sz ad n S t ht) tb_208 tb_210 tb_214 tb_215 tb_10 tb_216 (by decide) (nn := 0) (by decide +kernel) ⟨by show 0 + 1 ≤ _; omega, by show 8 + (1 + 11) + 0 ≤ _; omega⟩ rfl hls hst hrest hdg hcs (by rw [e1] at kk; exact kk)
  · have e1 : vK S t = (f_X2_kindNumber S t).1 := by unfold vK; rw [if_neg h0.1, if_neg h0.2.1, if_neg h0.2.2]; rfl
    exact q_cA (F := f_X2_kindNumber S t) (x := ⟨"ToolRoom$Tool", "kindNumber", "()I"⟩) (owner := "ToolRoom$Tool") (rest := rest) E G 16 t (c16 ht) h (C := RX2) (T := TX2) (N := 3) rfl (k_X2_kindNumber l D cy sz ad n S t ht) tb_208 tb_210 tb_217 tb_218 tb_11 tb_219 (by decide) (nn := 0) (by decide +kernel) ⟨by show 0 + 1 ≤ _; omega, by show 8 + (1 + 11) + 0 ≤ _; omega⟩ rfl hls hst hrest hdg hcs (by rw [e1] at kk; exact kk)
theorem q_t_weight (E : En p s m args meth c cc mL rt RX9 D cy sz) (G : Gd D cy sz ad n S s.heap H locs) {t : Nat} (ht : t < n) (rest : List Value) (hR : 2 ≤ R.frames ∧ 43 ≤ R.locals) (hls : ls.size = mL) (hst : st = [.ref (ad 16 t)] ++ rest) (hrest : (rest.map fun v => v.category).sum ≤ 8) (hdg : decode cc pc = .ok (.invokevirtual 97, 3)) (hcs : cells ≤ R.cells ∧ slots ≤ R.slots)
    (kk : ∀ (H1 : Heap) (locs1 : List Loc), Gd D cy sz ad n S s.heap H1 locs1 → W p l e R s m args below meth c H1 locs1 cells slots Q (F0 m (pc + 3) ls (.int (vW S t) :: rest))) : W p l e R s m args below meth c H locs cells slots Q (F0 m pc ls st) := by
  rcases tE_cases (S.1 16 t) with ⟨h0, h⟩ | ⟨h0, h⟩ | ⟨h0, h⟩ | ⟨h0, h⟩
  · have e1 : vW S t = (f_X4_weight S t).1 := by unfold vW; rw [if_pos h0]; rfl
    exact q_cA (F := f_X4_weight S t) (x := ⟨"ToolRoom$Tool", "weight", "()I"⟩) (owner := "ToolRoom$Tool") (rest := rest) E G 16 t (c16 ht) h (C := RX4) (T := TX4) (N := 3) rfl (k_X4_weight l D cy sz ad n S t ht) tb_251 tb_253 tb_263 tb_264 tb_8 tb_265 (by decide) (nn := 0) (by decide +kernel) ⟨by show 0 + 1 ≤ _; omega, by show 8 + (1 + 11) + 0 ≤ _; omega⟩ rfl hls hst hrest hdg hcs (by rw [e1] at kk; exact kk)
  · have e1 : vW S t = (f_X0_weight S t).1 := by unfold vW; rw [if_neg (by rw [h0]; decide), if_pos h0]; rfl
    exact q_cA (F := f_X0_weight S t) (x := ⟨"ToolRoom$Tool", "weight", "()I"⟩) (owner := "ToolRoom$Tool") (rest := rest) E G 16 t (c16 ht) h (C := RX0) (T := TX0) (N := 4) rfl (k_X0_weight l D cy sz ad n S t ht) tb_251 tb_253 tb_254 tb_255 tb_9 tb_256 (by decide) (nn := 0) (by decide +kernel) ⟨by show 0 + 1 ≤ _; omega, by show 8 + (1 + 11) + 0 ≤ _; omega⟩ rfl hls hst hrest hdg hcs (by rw [e1] at kk; exact kk)
  · have e1 : vW S t = (f_X1_weight S t).1 := by unfold vW; rw [if_neg (by rw [h0]; decide), if_neg (by rw [h0]; decide), if_pos h0]; rfl
    exact q_cA (F := f_X1_weight S t) (x := ⟨"ToolRoom$Tool", "weight", "()I"⟩) (owner := "ToolRoom$Tool") (rest := rest) E G 16 t (c16 ht) h (C := RX1) (T := TX1) (N := 4) rfl (k_X1_weight l D cy sz ad n S t ht) tb_251 tb_253 tb_257 tb_258 tb_10 tb_259 (by decide) (nn := 0) (by decide +kernel) ⟨by show 0 + 1 ≤ _; omega, by show 8 + (1 + 11) + 0 ≤ _; omega⟩ rfl hls hst hrest hdg hcs (by rw [e1] at kk; exact kk)
  · have e1 : vW S t = (f_X2_weight S t).1 := by unfold vW; rw [if_neg h0.1, if_neg h0.2.1, if_neg h0.2.2]; rfl
    exact q_cA (F := f_X2_weight S t) (x := ⟨"ToolRoom$Tool", "weight", "()I"⟩) (owner := "ToolRoom$Tool") (rest := rest) E G 16 t (c16 ht) h (C := RX2) (T := TX2) (N := 3) rfl (k_X2_weight l D cy sz ad n S t ht) tb_251 tb_253 tb_260 tb_261 tb_11 tb_262 (by decide) (nn := 0) (by decide +kernel) ⟨by show 0 + 1 ≤ _; omega, by show 8 + (1 + 11) + 0 ≤ _; omega⟩ rfl hls hst hrest hdg hcs (by rw [e1] at kk; exact kk)
theorem q_t_work (E : En p s m args meth c cc mL rt RX9 D cy sz) (G : Gd D cy sz ad n S s.heap H locs) {t : Nat} (ht : t < n) (rest : List Value) {force : Int32} (hR : 2 ≤ R.frames ∧ 43 ≤ R.locals) (hls : ls.size = mL) (hst : st = [.int force, .ref (ad 16 t)] ++ rest) (hrest : (rest.map fun v => v.category).sum ≤ 8) (hdg : decode cc pc = .ok (.invokevirtual 109, 3)) (hcs : cells ≤ R.cells ∧ slots ≤ R.slots)
    (kk : ∀ (H1 : Heap) (locs1 : List Loc), Gd D cy sz ad n (f_work S t force).2 s.heap H1 locs1 → W p l e R s m args below meth c H1 locs1 cells slots Q (F0 m (pc + 3) ls (.int (f_work S t force).1 :: rest))) : W p l e R s m args below meth c H locs cells slots Q (F0 m pc ls st) := by
  rcases tE_cases (S.1 16 t) with ⟨h0, h⟩ | ⟨h0, h⟩ | ⟨h0, h⟩ | ⟨h0, h⟩
  · have e1 : f_work S t force = f_X4_work S t force := by unfold f_work; rw [if_pos h0]
    exact q_cA (F := f_X4_work S t force) (x := ⟨"ToolRoom$Tool", "work", "(I)I"⟩) (owner := "ToolRoom$Tool") (rest := rest) E G 16 t (c16 ht) h (C := RX4) (T := TX4) (N := 3) rfl (k_X4_work l D cy sz ad n S t ht force) tb_278 tb_280 tb_291 tb_292 tb_8 tb_293 (by decide) (nn := 1) (by decide +kernel) ⟨by show 0 + 1 ≤ _; omega, by show 8 + (2 + 11) + 0 ≤ _; omega⟩ rfl hls hst hrest hdg hcs (by rw [e1] at kk; exact kk)
  · have e1 : f_work S t force = f_X0_work S t force := by unfold f_work; rw [if_neg (by rw [h0]; decide), if_pos h0]
    exact q_cA (F := f_X0_work S t force) (x := ⟨"ToolRoom$Tool", "work", "(I)I"⟩) (owner := "ToolRoom$Tool") (rest := rest) E G 16 t (c16 ht) h (C := RX0) (T := TX0) (N := 4) rfl (k_X0_work l D cy sz ad n S t ht (Or.inl h0) force) tb_278 tb_280 tb_281 tb_282 tb_9 tb_283 (by decide) (nn := 1) (by decide +kernel) ⟨by show 0 + 1 ≤ _; omega, by show 8 + (2 + 11) + 0 ≤ _; omega⟩ rfl hls hst hrest hdg hcs (by rw [e1] at kk; exact kk)
  · have e1 : f_work S t force = f_X1_work S t force := by unfold f_work; rw [if_neg (by rw [h0]; decide), if_neg (by rw [h0]; decide), if_pos h0]
    exact q_cA (F := f_X1_work S t force) (x := ⟨"ToolRoom$Tool", "work", "(I)I"⟩) (owner := "ToolRoom$Tool") (rest := rest) E G 16 t (c16 ht) h (C := RX1) (T := TX1) (N := 4) rfl (k_X1_work l D cy sz ad n S t ht h0 force) tb_278 tb_280 tb_284 tb_285 tb_10 tb_286 (by decide) (nn := 1) (by decide +kernel) ⟨by show 1 + 1 ≤ _; omega, by show 8 + (3 + 11) + 21 ≤ _; omega⟩ rfl hls hst hrest hdg hcs (by rw [e1] at kk; exact kk)
  · have e1 : f_work S t force = f_X2_work S t force := by unfold f_work; rw [if_neg h0.1, if_neg h0.2.1, if_neg h0.2.2]
    exact q_cA (F := f_X2_work S t force) (x := ⟨"ToolRoom$Tool", "work", "(I)I"⟩) (owner := "ToolRoom$Tool") (rest := rest) E G 16 t (c16 ht) h (C := RX2) (T := TX2) (N := 3) rfl (k_X2_work l D cy sz ad n S t ht force) tb_278 tb_280 tb_288 tb_289 tb_11 tb_290 (by decide) (nn := 1) (by decide +kernel) ⟨by show 0 + 1 ≤ _; omega, by show 8 + (3 + 11) + 0 ≤ _; omega⟩ rfl hls hst hrest hdg hcs (by rw [e1] at kk; exact kk)
end TC
def zf (r : Nat → Int32) (k : Nat) : Nat → Int32 := fun j => if j < k then 0 else r j
def zq (r : Nat → Option Nat) (k : Nat) : Nat → Option Nat := fun j => if j < k then none else r j
def zI (S : SS) (f i k : Nat) : SS := wI S f i (zf (S.1 f i) k)
def zR (S : SS) (f i k : Nat) : SS := wR S f i (zq (S.2 f i) k)
theorem wI_wI (S : SS) (f i : Nat) (a b : Nat → Int32) : wI (wI S f i a) f i b = wI S f i b := by
  unfold wI
  refine Prod.ext ?_ rfl
  funext g j
  by_cases h : g = f ∧ j = i <;> simp [h]
theorem wR_wR (S : SS) (f i : Nat) (a b : Nat → Option Nat) : wR (wR S f i a) f i b = wR S f i b := by
  unfold wR
  refine Prod.ext rfl ?_
  funext g j
  by_cases h : g = f ∧ j = i <;> simp [h]
theorem wI_same (S : SS) (f i : Nat) : wI S f i (S.1 f i) = S := by
  unfold wI
  refine Prod.ext ?_ rfl
  funext g j
  by_cases h : g = f ∧ j = i
  · obtain ⟨rfl, rfl⟩ := h; simp
  · simp [h]
theorem wR_same (S : SS) (f i : Nat) : wR S f i (S.2 f i) = S := by
  unfold wR
  refine Prod.ext rfl ?_
  funext g j
  by_cases h : g = f ∧ j = i
  · obtain ⟨rfl, rfl⟩ := h; simp
  · simp [h]
theorem zI_0 (S : SS) (f i : Nat) : zI S f i 0 = S := by
  have : zf (S.1 f i) 0 = S.1 f i := by funext j; simp [zf]
  rw [zI, this, wI_same]
theorem zR_0 (S : SS) (f i : Nat) : zR S f i 0 = S := by
  have : zq (S.2 f i) 0 = S.2 f i := by funext j; simp [zq]
  rw [zR, this, wR_same]
theorem zI_step (S : SS) (f i : Nat) {k : Nat} (hk : k < 2 ^ 31) : uI (zI S f i k) f i (nI k).toNatClampNeg 0 = zI S f i (k + 1) := by
  rw [nI_clamp hk, uI, zI, wI_eq, wI_wI, zI]
  congr 1
  funext j
  by_cases h : j = k
  · subst h; simp [upd, zf]
  · simp only [upd, zf, h, if_false]
    by_cases h2 : j < k
    · rw [if_pos h2, if_pos (by omega)]
    · rw [if_neg h2, if_neg (by omega)]
theorem zR_step (S : SS) (f i : Nat) {k : Nat} (hk : k < 2 ^ 31) : uR (zR S f i k) f i (nI k).toNatClampNeg none = zR S f i (k + 1) := by
  rw [nI_clamp hk, uR, zR, wR_eq, wR_wR, zR]
  congr 1
  funext j
  by_cases h : j = k
  · subst h; simp [va_up, zq]
  · simp only [va_up, zq, h, if_false]
    by_cases h2 : j < k
    · rw [if_pos h2, if_pos (by omega)]
    · rw [if_neg h2, if_neg (by omega)]
theorem ge_eq {i N : Nat} (hN : N < 2 ^ 31) (h1 : i ≤ N) (h : nI N ≤ nI i) : i = N := by
  have := (nI_leI hN (by omega)).mp h
  omega
theorem lt_of {i N : Nat} (hN : N < 2 ^ 31) (h1 : i ≤ N) (h : ¬ nI N ≤ nI i) : i < N := by
  rcases Nat.lt_or_ge i N with q | q
  · exact q
  · exact absurd (nI_le q (by omega)) h

set_option maxHeartbeats 4000000 in
set_option maxRecDepth 100000 in
theorem lp_X7_renew_8 {p : Program} {l : Launch} {e : Env} {R : Room} {s : State} {m : MethodId} {args : Array Value} {below : List Frame} {meth : Method} {c : Code} {Q : State → Prop} {D : va_G} {cy : Nat → ClassId} {sz : Nat} {ad : Nat → Nat → Nat} {n : Nat} {S : SS} {t : Nat} (ht : t < 4) (a : Int32) (E : En p s m args meth c cX7_renew 3 none RX7 D cy sz)
    (kx : ∀ (H : Heap) (locs : List Loc) (ls : Array Slot), Gd D cy sz ad n (zI S 9 t 20) s.heap H locs → lv_has ls 3 [(2, .int (nI 20)), (0, .ref (ad 8 t)), (1, .int a)] → W p l e R s m args below meth c H locs 0 0 Q (F0 m 24 ls [])) : ∀ (k i : Nat), i ≤ 20 → 20 + 1 ≤ i + k → ∀ (H : Heap) (locs : List Loc) (ls : Array Slot), Gd D cy sz ad n (zI S 9 t i) s.heap H locs → lv_has ls 3 [(2, .int (nI i)), (0, .ref (ad 8 t)), (1, .int a)] → W p l e R s m args below meth c H locs 0 0 Q (F0 m 2 ls []) := by
  obtain ⟨hx, hb, hrt, hml, hown, hw, hlk, hK, hF, hsz⟩ := id E
  intro k
  induction k with
  | zero => intro i g1 g2; exact absurd g2 (by omega)
  | succ k ih =>
    intro i g1 g2 H locs ls G hl
    refine lv_iload_n hx hb dX7_renew_2 rfl (lv_at hl 0 rfl) ?_
    refine lv_aload_n hx hb dX7_renew_3 rfl (lv_at hl 1 rfl) ?_
    refine q_get (index := 7) (ref := "ToolRoom$Row") E G inX7 8 t (c8 ht) sg_8 rfl 1 (by decide) tb_36 (Or.inl rfl) rfl dX7_renew_4 ?_
    refine q_alen (v := 20) E G 9 t (c9 ht) sa_9 rfl dX7_renew_7 ?_
    refine lv_icmp_ge (tgt := 24) hx hb dX7_renew_8 (by decide) (fun h1 => ?_) (fun h1 => ?_)
    · have e1 : i = 20 := ge_eq (N := 20) (by decide) g1 h1
      subst e1
      exact kx H locs ls G (lv_sub hl [0, 1, 2] rfl)
    · have hlt : i < 20 := lt_of (N := 20) (by decide) g1 h1
      refine lv_aload_n hx hb dX7_renew_11 rfl (lv_at hl 1 rfl) ?_
      refine q_get (index := 7) (ref := "ToolRoom$Row") E G inX7 8 t (c8 ht) sg_8 rfl 1 (by decide) tb_36 (Or.inl rfl) rfl dX7_renew_12 ?_
      refine lv_iload_n hx hb dX7_renew_15 rfl (lv_at hl 0 rfl) ?_
      refine lv_iconst (v := 0) hx hb dX7_renew_16 (by decide) ?_
      refine q_iast E G 9 t (c9 ht) (fun _ => sa_9) (vp_in_nI hlt (by decide)) dX7_renew_17 (fun H locs G => ?_)
      rw [zI_step S 9 t (by omega)] at G
      refine lv_iinc (v := (nI (i + 1))) (lv' := [(2, .int (nI (i + 1))), (0, .ref (ad 8 t)), (1, .int a)]) hx hb dX7_renew_18 hl (k := 0) rfl (nI_1 i) (by decide) rfl (fun ls hl => ?_)
      refine lv_goto (tgt := 2) hx hb dX7_renew_21 (by decide) ?_
      exact ih (i + 1) (by omega) (by omega) H locs ls G (lv_sub hl [0, 1, 2] rfl)

def f_row8 (S : SS) (t : Nat) (a : Int32) : SS := uI (zI S 9 t 20) 8 t 0 a
set_option maxHeartbeats 4000000 in
set_option maxRecDepth 100000 in
theorem k_X7_renew_8 (l : Launch) (D : va_G) (cy : Nat → ClassId) (sz : Nat) (ad : Nat → Nat → Nat) (n : Nat) (S : SS) (t : Nat) (ht : t < 4) (a : Int32) : CV l yX7_renew cX7_renew 3 0 0 [.ref (ad 8 t), .int a] D cy sz ad n S (f_row8 S t a) := by
  refine Met.enter (by decide) (Nat.le_of_ble_eq_true rfl) (fun p e s m args below meth c ls E G hl => ?_)
  have E : En p s m args meth c cX7_renew 3 none RX7 D cy sz := E
  obtain ⟨hx, hb, hrt, hml, hown, hw, hlk, hK, hF, hsz⟩ := id E
  have hl : lv_has ls 3 [(0, .ref (ad 8 t)), (1, .int a)] := hl
  refine lv_iconst (v := 0) hx hb dX7_renew_0 (by decide) ?_
  refine lv_istore_n (lv' := [(2, .int (nI 0)), (0, .ref (ad 8 t)), (1, .int a)]) hx hb dX7_renew_1 rfl hl (by decide) rfl (fun ls hl => ?_)
  refine lp_X7_renew_8 ht a E (fun H locs ls G hl => ?_) 21 0 (by omega) (by omega) s.heap [] ls (by rw [zI_0]; exact G) hl
  refine lv_aload_n hx hb dX7_renew_24 rfl (lv_at hl 1 rfl) ?_
  refine lv_iload_n hx hb dX7_renew_25 rfl (lv_at hl 2 rfl) ?_
  refine q_put (index := 13) (ref := "ToolRoom$Row") E G inX7 tyX7 tyX7_ok nmX7 8 t (c8 ht) 0 rfl rfl 0 (by decide) tb_41 (Or.inr tb_42) rfl (ty := .int) (by decide +kernel) rfl rfl (Nat.le_of_ble_eq_true rfl) rfl dX7_renew_26 (fun H locs G => ?_)
  exact q_vret E G rfl dX7_renew_29

set_option maxHeartbeats 4000000 in
set_option maxRecDepth 100000 in
theorem lp_X7_renew_14 {p : Program} {l : Launch} {e : Env} {R : Room} {s : State} {m : MethodId} {args : Array Value} {below : List Frame} {meth : Method} {c : Code} {Q : State → Prop} {D : va_G} {cy : Nat → ClassId} {sz : Nat} {ad : Nat → Nat → Nat} {n : Nat} {S : SS} {t : Nat} (ht : t < 16) (a : Int32) (E : En p s m args meth c cX7_renew 3 none RX7 D cy sz)
    (kx : ∀ (H : Heap) (locs : List Loc) (ls : Array Slot), Gd D cy sz ad n (zI S 15 t 8) s.heap H locs → lv_has ls 3 [(2, .int (nI 8)), (0, .ref (ad 14 t)), (1, .int a)] → W p l e R s m args below meth c H locs 0 0 Q (F0 m 24 ls [])) : ∀ (k i : Nat), i ≤ 8 → 8 + 1 ≤ i + k → ∀ (H : Heap) (locs : List Loc) (ls : Array Slot), Gd D cy sz ad n (zI S 15 t i) s.heap H locs → lv_has ls 3 [(2, .int (nI i)), (0, .ref (ad 14 t)), (1, .int a)] → W p l e R s m args below meth c H locs 0 0 Q (F0 m 2 ls []) := by
  obtain ⟨hx, hb, hrt, hml, hown, hw, hlk, hK, hF, hsz⟩ := id E
  intro k
  induction k with
  | zero => intro i g1 g2; exact absurd g2 (by omega)
  | succ k ih =>
    intro i g1 g2 H locs ls G hl
    refine lv_iload_n hx hb dX7_renew_2 rfl (lv_at hl 0 rfl) ?_
    refine lv_aload_n hx hb dX7_renew_3 rfl (lv_at hl 1 rfl) ?_
    refine q_get (index := 7) (ref := "ToolRoom$Row") E G inX7 14 t (c14 ht) sg_14 rfl 1 (by decide) tb_36 (Or.inl rfl) rfl dX7_renew_4 ?_
    refine q_alen (v := 8) E G 15 t (c15 ht) sa_15 rfl dX7_renew_7 ?_
    refine lv_icmp_ge (tgt := 24) hx hb dX7_renew_8 (by decide) (fun h1 => ?_) (fun h1 => ?_)
    · have e1 : i = 8 := ge_eq (N := 8) (by decide) g1 h1
      subst e1
      exact kx H locs ls G (lv_sub hl [0, 1, 2] rfl)
    · have hlt : i < 8 := lt_of (N := 8) (by decide) g1 h1
      refine lv_aload_n hx hb dX7_renew_11 rfl (lv_at hl 1 rfl) ?_
      refine q_get (index := 7) (ref := "ToolRoom$Row") E G inX7 14 t (c14 ht) sg_14 rfl 1 (by decide) tb_36 (Or.inl rfl) rfl dX7_renew_12 ?_
      refine lv_iload_n hx hb dX7_renew_15 rfl (lv_at hl 0 rfl) ?_
      refine lv_iconst (v := 0) hx hb dX7_renew_16 (by decide) ?_
      refine q_iast E G 15 t (c15 ht) (fun _ => sa_15) (vp_in_nI hlt (by decide)) dX7_renew_17 (fun H locs G => ?_)
      rw [zI_step S 15 t (by omega)] at G
      refine lv_iinc (v := (nI (i + 1))) (lv' := [(2, .int (nI (i + 1))), (0, .ref (ad 14 t)), (1, .int a)]) hx hb dX7_renew_18 hl (k := 0) rfl (nI_1 i) (by decide) rfl (fun ls hl => ?_)
      refine lv_goto (tgt := 2) hx hb dX7_renew_21 (by decide) ?_
      exact ih (i + 1) (by omega) (by omega) H locs ls G (lv_sub hl [0, 1, 2] rfl)

def f_row14 (S : SS) (t : Nat) (a : Int32) : SS := uI (zI S 15 t 8) 14 t 0 a
set_option maxHeartbeats 4000000 in
set_option maxRecDepth 100000 in
theorem k_X7_renew_14 (l : Launch) (D : va_G) (cy : Nat → ClassId) (sz : Nat) (ad : Nat → Nat → Nat) (n : Nat) (S : SS) (t : Nat) (ht : t < 16) (a : Int32) : CV l yX7_renew cX7_renew 3 0 0 [.ref (ad 14 t), .int a] D cy sz ad n S (f_row14 S t a) := by
  refine Met.enter (by decide) (Nat.le_of_ble_eq_true rfl) (fun p e s m args below meth c ls E G hl => ?_)
  have E : En p s m args meth c cX7_renew 3 none RX7 D cy sz := E
  obtain ⟨hx, hb, hrt, hml, hown, hw, hlk, hK, hF, hsz⟩ := id E
  have hl : lv_has ls 3 [(0, .ref (ad 14 t)), (1, .int a)] := hl
  refine lv_iconst (v := 0) hx hb dX7_renew_0 (by decide) ?_
  refine lv_istore_n (lv' := [(2, .int (nI 0)), (0, .ref (ad 14 t)), (1, .int a)]) hx hb dX7_renew_1 rfl hl (by decide) rfl (fun ls hl => ?_)
  refine lp_X7_renew_14 ht a E (fun H locs ls G hl => ?_) 9 0 (by omega) (by omega) s.heap [] ls (by rw [zI_0]; exact G) hl
  refine lv_aload_n hx hb dX7_renew_24 rfl (lv_at hl 1 rfl) ?_
  refine lv_iload_n hx hb dX7_renew_25 rfl (lv_at hl 2 rfl) ?_
  refine q_put (index := 13) (ref := "ToolRoom$Row") E G inX7 tyX7 tyX7_ok nmX7 14 t (c14 ht) 0 rfl rfl 0 (by decide) tb_41 (Or.inr tb_42) rfl (ty := .int) (by decide +kernel) rfl rfl (Nat.le_of_ble_eq_true rfl) rfl dX7_renew_26 (fun H locs G => ?_)
  exact q_vret E G rfl dX7_renew_29

set_option maxHeartbeats 4000000 in
set_option maxRecDepth 100000 in
theorem lp_X6_renew {p : Program} {l : Launch} {e : Env} {R : Room} {s : State} {m : MethodId} {args : Array Value} {below : List Frame} {meth : Method} {c : Code} {Q : State → Prop} {D : va_G} {cy : Nat → ClassId} {sz : Nat} {ad : Nat → Nat → Nat} {n : Nat} {S : SS} {t : Nat} (ht : t < 4) (so a : Int32) (E : En p s m args meth c cX6_renew 4 none RX6 D cy sz)
    (kx : ∀ (H : Heap) (locs : List Loc) (ls : Array Slot), Gd D cy sz ad n (zR S 11 t 10) s.heap H locs → lv_has ls 4 [(3, .int (nI 10)), (0, .ref (ad 10 t)), (1, .int so), (2, .int a)] → W p l e R s m args below meth c H locs 0 0 Q (F0 m 21 ls [])) : ∀ (k i : Nat), i ≤ 10 → 10 + 1 ≤ i + k → ∀ (H : Heap) (locs : List Loc) (ls : Array Slot), Gd D cy sz ad n (zR S 11 t i) s.heap H locs → lv_has ls 4 [(3, .int (nI i)), (0, .ref (ad 10 t)), (1, .int so), (2, .int a)] → W p l e R s m args below meth c H locs 0 0 Q (F0 m 2 ls []) := by
  obtain ⟨hx, hb, hrt, hml, hown, hw, hlk, hK, hF, hsz⟩ := id E
  intro k
  induction k with
  | zero => intro i g1 g2; exact absurd g2 (by omega)
  | succ k ih =>
    intro i g1 g2 H locs ls G hl
    refine lv_iload_n hx hb dX6_renew_2 rfl (lv_at hl 0 rfl) ?_
    refine lv_bipush (v := 10) hx hb dX6_renew_3 (by decide) ?_
    refine lv_icmp_ge (tgt := 21) hx hb dX6_renew_5 (by decide) (fun h1 => ?_) (fun h1 => ?_)
    · have e1 : i = 10 := ge_eq (N := 10) (by decide) g1 h1
      subst e1
      exact kx H locs ls G (lv_sub hl [0, 1, 2, 3] rfl)
    · have hlt : i < 10 := lt_of (N := 10) (by decide) g1 h1
      refine lv_aload_n hx hb dX6_renew_8 rfl (lv_at hl 1 rfl) ?_
      refine q_get (index := 11) (ref := "ToolRoom$Rack") E G inX6 10 t (c10 ht) sg_10 rfl 1 (by decide) tb_59 (Or.inl rfl) rfl dX6_renew_9 ?_
      refine lv_iload_n hx hb dX6_renew_12 rfl (lv_at hl 0 rfl) ?_
      refine lv_null hx hb dX6_renew_13 ?_
      refine q_aastN E G 11 t (c11 ht) (fun _ => sa_11) (vp_in_nI hlt (by decide)) dX6_renew_14 (fun H locs G => ?_)
      rw [zR_step S 11 t (by omega)] at G
      refine lv_iinc (v := (nI (i + 1))) (lv' := [(3, .int (nI (i + 1))), (0, .ref (ad 10 t)), (1, .int so), (2, .int a)]) hx hb dX6_renew_15 hl (k := 0) rfl (nI_1 i) (by decide) rfl (fun ls hl => ?_)
      refine lv_goto (tgt := 2) hx hb dX6_renew_18 (by decide) ?_
      exact ih (i + 1) (by omega) (by omega) H locs ls G (lv_sub hl [0, 1, 2, 3] rfl)

def f_rack (S : SS) (t : Nat) (so a : Int32) : SS := uI (uI (zR S 11 t 10) 10 t 2 so) 10 t 0 a
set_option maxHeartbeats 4000000 in
set_option maxRecDepth 100000 in
theorem k_X6_renew (l : Launch) (D : va_G) (cy : Nat → ClassId) (sz : Nat) (ad : Nat → Nat → Nat) (n : Nat) (S : SS) (t : Nat) (ht : t < 4) (so a : Int32) : CV l yX6_renew cX6_renew 4 0 0 [.ref (ad 10 t), .int so, .int a] D cy sz ad n S (f_rack S t so a) := by
  refine Met.enter (by decide) (Nat.le_of_ble_eq_true rfl) (fun p e s m args below meth c ls E G hl => ?_)
  have E : En p s m args meth c cX6_renew 4 none RX6 D cy sz := E
  obtain ⟨hx, hb, hrt, hml, hown, hw, hlk, hK, hF, hsz⟩ := id E
  have hl : lv_has ls 4 [(0, .ref (ad 10 t)), (1, .int so), (2, .int a)] := hl
  refine lv_iconst (v := 0) hx hb dX6_renew_0 (by decide) ?_
  refine lv_istore_n (lv' := [(3, .int (nI 0)), (0, .ref (ad 10 t)), (1, .int so), (2, .int a)]) hx hb dX6_renew_1 rfl hl (by decide) rfl (fun ls hl => ?_)
  refine lp_X6_renew ht so a E (fun H locs ls G hl => ?_) 11 0 (by omega) (by omega) s.heap [] ls (by rw [zR_0]; exact G) hl
  refine lv_aload_n hx hb dX6_renew_21 rfl (lv_at hl 1 rfl) ?_
  refine lv_iload_n hx hb dX6_renew_22 rfl (lv_at hl 2 rfl) ?_
  refine q_put (index := 17) (ref := "ToolRoom$Rack") E G inX6 tyX6 tyX6_ok nmX6 10 t (c10 ht) 2 rfl rfl 2 (by decide) tb_61 (Or.inl rfl) rfl (ty := .int) (by decide +kernel) rfl rfl (Nat.le_of_ble_eq_true rfl) rfl dX6_renew_23 (fun H locs G => ?_)
  refine lv_aload_n hx hb dX6_renew_26 rfl (lv_at hl 1 rfl) ?_
  refine lv_iload_n hx hb dX6_renew_27 rfl (lv_at hl 3 rfl) ?_
  refine q_put (index := 21) (ref := "ToolRoom$Rack") E G inX6 tyX6 tyX6_ok nmX6 10 t (c10 ht) 0 rfl rfl 0 (by decide) tb_43 (Or.inr tb_44) rfl (ty := .int) (by decide +kernel) rfl rfl (Nat.le_of_ble_eq_true rfl) rfl dX6_renew_28 (fun H locs G => ?_)
  exact q_vret E G rfl dX6_renew_31

def gz (S : SS) (g : Nat) (a : Int32) : Nat → SS
  | 0 => S
  | i + 1 => f_row14 (gz S g a i) (8 * g + i) a

set_option maxHeartbeats 4000000 in
set_option maxRecDepth 100000 in
theorem lp_X3_renew {p : Program} {l : Launch} {e : Env} {R : Room} {s : State} {m : MethodId} {args : Array Value} {below : List Frame} {meth : Method} {c : Code} {Q : State → Prop} {D : va_G} {cy : Nat → ClassId} {sz : Nat} {ad : Nat → Nat → Nat} {n : Nat} {S : SS} {t : Nat} (ht : t < 2) (a : Int32) {N : Nat} (hN : N ≤ 8) (E : En p s m args meth c cX3_renew 4 none RX3 D cy sz) (hR : 1 ≤ R.frames ∧ 22 ≤ R.locals)
    (kx : ∀ (H : Heap) (locs : List Loc) (ls : Array Slot), Gd D cy sz ad n (gz S t a N) s.heap H locs → lv_has ls 4 [(3, .int (nI N)), (0, .ref (ad 12 t)), (1, .int (nI N)), (2, .int a)] → W p l e R s m args below meth c H locs 0 0 Q (F0 m 23 ls [])) : ∀ (k i : Nat), i ≤ N → N + 1 ≤ i + k → ∀ (H : Heap) (locs : List Loc) (ls : Array Slot), Gd D cy sz ad n (gz S t a i) s.heap H locs → lv_has ls 4 [(3, .int (nI i)), (0, .ref (ad 12 t)), (1, .int (nI N)), (2, .int a)] → W p l e R s m args below meth c H locs 0 0 Q (F0 m 2 ls []) := by
  obtain ⟨hx, hb, hrt, hml, hown, hw, hlk, hK, hF, hsz⟩ := id E
  intro k
  induction k with
  | zero => intro i g1 g2; exact absurd g2 (by omega)
  | succ k ih =>
    intro i g1 g2 H locs ls G hl
    refine lv_iload_n hx hb dX3_renew_2 rfl (lv_at hl 0 rfl) ?_
    refine lv_iload_n hx hb dX3_renew_3 rfl (lv_at hl 2 rfl) ?_
    refine lv_icmp_ge (tgt := 23) hx hb dX3_renew_4 (by decide) (fun h1 => ?_) (fun h1 => ?_)
    · have e1 : i = N := ge_eq (N := N) (by omega) g1 h1
      subst e1
      exact kx H locs ls G (lv_sub hl [0, 1, 2, 3] rfl)
    · have hlt : i < N := lt_of (N := N) (by omega) g1 h1
      refine lv_aload_n hx hb dX3_renew_7 rfl (lv_at hl 1 rfl) ?_
      refine q_get (index := 11) (ref := "ToolRoom$Grid") E G inX3 12 t (c12 ht) sg_12 rfl 1 (by decide) tb_76 (Or.inl rfl) rfl dX3_renew_8 ?_
      refine lv_iload_n hx hb dX3_renew_11 rfl (lv_at hl 0 rfl) ?_
      refine q_aald (C := "ToolRoom$Row") E G 13 t (c13 ht) sa_13 3 rfl (vp_in_nI (show i < 8 by omega) (by decide)) dX3_renew_12 ?_
      refine lv_iload_n hx hb dX3_renew_13 rfl (lv_at hl 3 rfl) ?_
      refine q_cVv (rest := []) E G 14 (8 * t + (nI i).toNatClampNeg) (c14 (show 8 * t + (nI i).toNatClampNeg < 16 by rw [nI_clamp (by omega)]; omega)) sg_14 (C := RX7) (T := TX7) (N := 2) rfl (k_X7_renew_14 l D cy sz ad n (gz S t a i) (8 * t + (nI i).toNatClampNeg) (show 8 * t + (nI i).toNatClampNeg < 16 by rw [nI_clamp (by omega)]; omega) a) tb_375 tb_317 tb_318 tb_3 tb_319 (nn := 1) (by decide +kernel) ⟨by have := hR.1; show 0 + 1 ≤ _; omega, by have := hR.2; show 8 + (3 + 11) + 0 ≤ _; omega⟩ rfl hl.1 rfl (Nat.le_of_ble_eq_true rfl) dX3_renew_14 ⟨Nat.zero_le _, Nat.zero_le _⟩ (fun H locs G => ?_)
      have G : Gd D cy sz ad n (gz S t a (i + 1)) s.heap H locs := by rw [nI_clamp (by omega)] at G; exact G
      refine lv_iinc (v := (nI (i + 1))) (lv' := [(3, .int (nI (i + 1))), (0, .ref (ad 12 t)), (1, .int (nI N)), (2, .int a)]) hx hb dX3_renew_17 hl (k := 0) rfl (nI_1 i) (by decide) rfl (fun ls hl => ?_)
      refine lv_goto (tgt := 2) hx hb dX3_renew_20 (by decide) ?_
      exact ih (i + 1) (by omega) (by omega) H locs ls G (lv_sub hl [0, 1, 2, 3] rfl)

def f_grid (S : SS) (t : Nat) (x a : Int32) : SS := uI (gz S t a x.toNatClampNeg) 12 t 0 x
set_option maxHeartbeats 4000000 in
set_option maxRecDepth 100000 in
theorem k_X3_renew (l : Launch) (D : va_G) (cy : Nat → ClassId) (sz : Nat) (ad : Nat → Nat → Nat) (n : Nat) (S : SS) (t : Nat) (ht : t < 2) (x a : Int32) (hv : vp_in x 9) : CV l yX3_renew cX3_renew 4 1 22 [.ref (ad 12 t), .int x, .int a] D cy sz ad n S (f_grid S t x a) := by
  obtain ⟨N, hN, rfl⟩ := vp_in_of hv (by decide)
  refine Met.enter (by decide) (Nat.le_of_ble_eq_true rfl) (fun p e s m args below meth c ls E G hl => ?_)
  have E : En p s m args meth c cX3_renew 4 none RX3 D cy sz := E
  obtain ⟨hx, hb, hrt, hml, hown, hw, hlk, hK, hF, hsz⟩ := id E
  have hl : lv_has ls 4 [(0, .ref (ad 12 t)), (1, .int (nI N)), (2, .int a)] := hl
  refine lv_iconst (v := 0) hx hb dX3_renew_0 (by decide) ?_
  refine lv_istore_n (lv' := [(3, .int (nI 0)), (0, .ref (ad 12 t)), (1, .int (nI N)), (2, .int a)]) hx hb dX3_renew_1 rfl hl (by decide) rfl (fun ls hl => ?_)
  refine lp_X3_renew ht a (N := N) (by omega) E ⟨Nat.le_refl _, Nat.le_refl _⟩ (fun H locs ls G hl => ?_) (N + 1) 0 (by omega) (by omega) s.heap [] ls G hl
  refine lv_aload_n hx hb dX3_renew_23 rfl (lv_at hl 1 rfl) ?_
  refine lv_iload_n hx hb dX3_renew_24 rfl (lv_at hl 2 rfl) ?_
  refine q_put (index := 23) (ref := "ToolRoom$Grid") E G inX3 tyX3 tyX3_ok nmX3 12 t (c12 ht) 0 rfl rfl 0 (by decide) tb_39 (Or.inr tb_40) rfl (ty := .int) (by decide +kernel) rfl rfl (Nat.le_of_ble_eq_true rfl) rfl dX3_renew_25 (fun H locs G => ?_)
  exact q_vret E G (by unfold f_grid; rw [nI_clamp (by omega)]) dX3_renew_28
end
section
theorem fw_8 (S : SS) (t : Nat) (x : Int32) (g j h : Nat) (hg : g ≠ 16) : (f_work S t x).2.1 g j h = S.1 g j h := by
  unfold f_work f_X4_work f_X0_work f_X1_work f_X2_work
  split
  · exact uI_nf hg
  · split
    · exact uI_nf hg
    · split
      · rw [uI_nf hg, uI_nf hg]
      · exact uI_nf hg
theorem fw_R (S : SS) (t : Nat) (x : Int32) : (f_work S t x).2.2 = S.2 := by
  unfold f_work f_X4_work f_X0_work f_X1_work f_X2_work
  split
  · rfl
  · split
    · rfl
    · split <;> rfl
theorem cnt_in {x : Int32} (h1 : ¬ x < 1) (h2 : ¬ 6 < x) : vp_in x 7 := by
  have a := Int32.le_iff_toInt_le.mp (Int32.not_lt.mp h1)
  have b := Int32.le_iff_toInt_le.mp (Int32.not_lt.mp h2)
  have e1 : (1 : Int32).toInt = 1 := by decide
  have e6 : (6 : Int32).toInt = 6 := by decide
  exact vp_in_iff.mpr ⟨by omega, by omega⟩
theorem grd_in {x : Int32} (h2 : ¬ 8 < x) (h1 : ¬ x < 0) : vp_in x 9 := by
  have a := Int32.le_iff_toInt_le.mp (Int32.not_lt.mp h1)
  have b := Int32.le_iff_toInt_le.mp (Int32.not_lt.mp h2)
  have e1 : (0 : Int32).toInt = 0 := by decide
  have e6 : (8 : Int32).toInt = 8 := by decide
  exact vp_in_iff.mpr ⟨by omega, by omega⟩
def hon (what k : Int32) : Option (Nat × Nat) := if what = 0 then (if wi k 4 = true then some (8, k.toNatClampNeg) else none) else if what = 1 then (if wi k 4 = true then some (10, k.toNatClampNeg) else none) else (if wi k 2 = true then some (12, k.toNatClampNeg) else none)
theorem hon_ok {what k : Int32} {x : Nat × Nat} (n : Nat) (h : hon what k = some x) : isH x.1 ∧ isC n x.1 x.2 := by
  unfold hon at h
  split at h
  · split at h
    · cases h
      exact ⟨Or.inl rfl, c8 (vp_lt (wi_in (by assumption) (by decide) (by decide)))⟩
    · cases h
  · split at h
    · split at h
      · cases h
        exact ⟨Or.inr (Or.inl rfl), c10 (vp_lt (wi_in (by assumption) (by decide) (by decide)))⟩
      · cases h
    · split at h
      · cases h
        exact ⟨Or.inr (Or.inr (Or.inl rfl)), c12 (vp_lt (wi_in (by assumption) (by decide) (by decide)))⟩
      · cases h
/-- a contract of a method that answers a cell or nothing, and changes nothing -/
abbrev CQ (l : Launch) (y : MethodName) (b : ByteArray) (mL : Nat) (rt : Option FieldType) (fr lo : Nat) (av : List Value) (D : va_G) (cy : Nat → ClassId) (sz : Nat) (ad : Nat → Nat → Nat) (n : Nat) (S : SS) (o : Option (Nat × Nat)) : Prop :=
  Met l y (wsB y b mL rt) (Rm fr lo 0 0) (va_Pc av (Pre D cy sz ad n S)) (va_Qq (fun r u => r = o.map (fun x => ad x.1 x.2) ∧ u = S) (Po D cy sz ad n) (fun q => sz ≤ q)) 0 0 (fun q => sz ≤ q)
section QQ
variable {p : Program} {l : Launch} {e : Env} {R : Room} {s : State} {m : MethodId} {args : Array Value} {below : List Frame} {meth : Method} {c : Code} {H : Heap} {locs : List Loc} {cells slots : Nat} {Q : State → Prop}
variable {cc : ByteArray} {mL : Nat} {rt : Option FieldType} {own : String} {pc : Nat} {ls : Array Slot} {st : List Value} {D : va_G} {cy : Nat → ClassId} {sz : Nat} {ad : Nat → Nat → Nat} {n : Nat} {S : SS}
variable {y : MethodName} {b : ByteArray} {k fr lo index nn : Nat} {r : Option FieldType} {As : List Value} {rest : List Value}
theorem q_aret {fr' : Room} {nm : String} {o : Option (Nat × Nat)} (E : En p s m args meth c cc mL (some (.object nm)) own D cy sz) (G : Gd D cy sz ad n S s.heap H locs) (v : Option Nat) (hF : v = o.map (fun x => ad x.1 x.2)) (hdg : decode cc pc = .ok (.areturn, 1)) :
    W p l e fr' s m args below meth c H locs 0 0 (MQ below (va_Qq (fun r u => r = o.map (fun x => ad x.1 x.2) ∧ u = S) (Po D cy sz ad n) (fun q => sz ≤ q)) args s 0 0 (fun q => sz ≤ q)) (F0 m pc ls [va_rf v]) := by
  obtain ⟨hx, hb, hr, hml, hown, hw, hlk, hK, hF2, hsz⟩ := E
  exact W.aret hx hb hr (Or.inl ⟨_, rfl⟩) (va_rf_or v) (fun t ht hW => ⟨⟨v, S, rfl, ⟨hF, rfl⟩, by rw [ht]; exact G.1, G.2.1⟩, G.2.2.F ht⟩) G.2.2.2.2 hdg hlk
theorem q_cVq {o : Option (Nat × Nat)} (E : En p s m args meth c cc mL rt own D cy sz) (G : Gd D cy sz ad n S s.heap H locs) (f i : Nat) (hi : isC n f i) {ci : Nat} {fs : List Value} (hsh : sh cy ad f i (S.1 f i) (S.2 f i) = .inr (ci, fs)) {C : String} {T : u_T} {N : Nat} (hc : vwCl[ci]? = some (C, T, N))
    (hM : CQ l y b k r fr lo (.ref (ad f i) :: As) D cy sz ad n S o) (h1 : Cond.methodLink own index y ∈ wl) (h2 : Cond.instanceMethod y ∈ wl) (h3 : Cond.selects C y y ∈ wl) (h4 : Cond.initialized C ∈ wl) (h5 : Cond.code y b k r ∈ wl)
    (hd : y.cls = C ∧ y.cls ≠ "java/lang/invoke/MethodHandle" ∧ y.cls ≠ "java/lang/invoke/VarHandle" ∧ (parseMethodDescriptor y.desc).map (fun d => d.parameters.length) = some nn) (hR : fr + 1 ≤ R.frames ∧ 8 + (k + 11) + lo ≤ R.locals) (hn : As.length = nn) (hls : ls.size = mL) (hst : st = As.reverse ++ .ref (ad f i) :: rest) (hrest : (rest.map fun v => v.category).sum ≤ 8)
    (hdg : decode cc pc = .ok (.invokevirtual index, 3)) (hcs : cells ≤ R.cells ∧ slots ≤ R.slots)
    (k0 : o = none → ∀ (H1 : Heap) (locs1 : List Loc), Gd D cy sz ad n S s.heap H1 locs1 → W p l e R s m args below meth c H1 locs1 cells slots Q (F0 m (pc + 3) ls (.null :: rest)))
    (k1 : ∀ x, o = some x → ∀ (H1 : Heap) (locs1 : List Loc), Gd D cy sz ad n S s.heap H1 locs1 → W p l e R s m args below meth c H1 locs1 cells slots Q (F0 m (pc + 3) ls (.ref (ad x.1 x.2) :: rest))) : W p l e R s m args below meth c H locs cells slots Q (F0 m pc ls st) := by
  obtain ⟨hx, hb, hr, hml, hown, hw, hlk, hK, hF, hsz⟩ := id E
  refine va_callq (va_runV (As := As) (rest := rest) ⟨hx, hb, hml, hown, hw⟩ hM (cwV nn hw (gX h5 (fun w hw => by simp only [List.mem_cons, List.not_mem_nil, or_false] at hw; rcases hw with rfl | rfl | rfl | rfl <;> assumption)) rfl rfl rfl hd hR) ⟨Pre.blind, q_recv E G f i hi hsh hc, q_pre E G _⟩ rfl hn hls hst (lv_room hrest) hdg hcs) G.2.2 (fun q _ h => h) (fun q h => h) (fun r1 u t H1 locs1 ht hvm hp hB hz hk hS => ?_)
  obtain ⟨rfl, rfl⟩ := hp
  have G1 : Gd D cy sz ad n u s.heap H1 locs1 := ⟨ht ▸ hB.1, hB.2, hS⟩
  cases o with
  | none => exact k0 rfl H1 locs1 G1
  | some x => exact k1 x rfl H1 locs1 G1
theorem q_aaldN (E : En p s m args meth c cc mL rt own D cy sz) (G : Gd D cy sz ad n S s.heap H locs) (f i : Nat) (hi : isC n f i) {N : Nat} (hsh : sh cy ad f i (S.1 f i) (S.2 f i) = .inl (cy 2, N, rq (tq ad (S.2 f i)))) {x : Int32} (hin : vp_in x N) (hq : S.2 f i x.toNatClampNeg = none) (hdg : decode cc pc = .ok (.aaload, 1))
    (k0 : W p l e R s m args below meth c H locs cells slots Q (F0 m (pc + 1) ls (.null :: rest))) : W p l e R s m args below meth c H locs cells slots Q (F0 m pc ls (.int x :: .ref (ad f i) :: rest)) :=
  q_aaldT E G f i hi hsh hin hdg (fun _ => k0) (fun t h => by rw [hq] at h; cases h)
theorem q_aaldS {t : Nat} (E : En p s m args meth c cc mL rt own D cy sz) (G : Gd D cy sz ad n S s.heap H locs) (f i : Nat) (hi : isC n f i) {N : Nat} (hsh : sh cy ad f i (S.1 f i) (S.2 f i) = .inl (cy 2, N, rq (tq ad (S.2 f i)))) {x : Int32} (hin : vp_in x N) (hq : S.2 f i x.toNatClampNeg = some t) (hdg : decode cc pc = .ok (.aaload, 1))
    (k0 : W p l e R s m args below meth c H locs cells slots Q (F0 m (pc + 1) ls (.ref (ad 16 t) :: rest))) : W p l e R s m args below meth c H locs cells slots Q (F0 m pc ls (.int x :: .ref (ad f i) :: rest)) :=
  q_aaldT E G f i hi hsh hin hdg (fun h => by rw [hq] at h; cases h) (fun t' h => by rw [hq] at h; cases h; exact k0)
theorem q_look2 (hx : p.tables.exec = Jvm.exec) (hb : c.code = cc) {d o0 o1 : Int} {len : Nat} {x : Int32} {t0 t1 t2 : Nat} (hdg : decode cc pc = .ok (.lookupswitch d #[(0, o0), (1, o1)], len)) (h0 : (pc : Int) + o0 = (t0 : Int)) (h1 : (pc : Int) + o1 = (t1 : Int)) (h2 : (pc : Int) + d = (t2 : Int))
    (k0 : x = 0 → W p l e R s m args below meth c H locs cells slots Q (F0 m t0 ls rest)) (k1 : ¬ x = 0 → x = 1 → W p l e R s m args below meth c H locs cells slots Q (F0 m t1 ls rest)) (k2 : ¬ x = 0 → ¬ x = 1 → W p l e R s m args below meth c H locs cells slots Q (F0 m t2 ls rest)) :
    W p l e R s m args below meth c H locs cells slots Q (F0 m pc ls (.int x :: rest)) := by
  by_cases e0 : x = 0
  · subst e0
    exact lv_lookup hx hb hdg (by simp) (by rfl) h0 (k0 rfl)
  · by_cases e1 : x = 1
    · subst e1
      exact lv_lookup hx hb hdg (by simp) (by rfl) h1 (k1 e0 rfl)
    · exact lv_lookup hx hb hdg (by simp) (by show Op.lookupswitch.offset [(0, o0), (1, o1)] d x.toInt = d; rw [lv_osw (k := 0) e0 (by decide), lv_osw (k := 1) e1 (by decide)]; rfl) h2 (k2 e0 e1)
end QQ

set_option maxHeartbeats 4000000 in
set_option maxRecDepth 100000 in
theorem k_X9_holderOrNull (l : Launch) (D : va_G) (cy : Nat → ClassId) (sz : Nat) (ad : Nat → Nat → Nat) (n : Nat) (S : SS) (what k : Int32) : CQ l yX9_holderOrNull cX9_holderOrNull 3 (some (.object "ToolRoom$Holder")) 1 21 [.ref (ad 0 0), .int what, .int k] D cy sz ad n S (hon what k) := by
  refine Met.enter (by decide) (Nat.le_of_ble_eq_true rfl) (fun p e s m args below meth c ls E G hl => ?_)
  have E : En p s m args meth c cX9_holderOrNull 3 (some (.object "ToolRoom$Holder")) RX9 D cy sz := E
  obtain ⟨hx, hb, hrt, hml, hown, hw, hlk, hK, hF, hsz⟩ := id E
  have hl : lv_has ls 3 [(0, .ref (ad 0 0)), (1, .int what), (2, .int k)] := hl
  refine lv_iload_n hx hb dX9_holderOrNull_0 rfl (lv_at hl 1 rfl) ?_
  refine q_look2 (t0 := 28) (t1 := 47) (t2 := 66) hx hb dX9_holderOrNull_1 (by decide) (by decide) (by decide) (fun h1 => ?_) (fun h1 h2 => ?_) (fun h1 h2 => ?_)
  · refine lv_iload_n hx hb dX9_holderOrNull_28 rfl (lv_at hl 2 rfl) ?_
    refine lv_iconst (v := 4) hx hb dX9_holderOrNull_29 (by decide) ?_
    by_cases h3 : wi k 4 = true
    · have v4 : vp_in k 4 := wi_in h3 (by decide) (by decide)
      refine q_cSp E G [] (k_X9_isWithin_t l D cy sz ad n S k 4 h3) tb_117 tb_118 tb_1 tb_119 (nn := 2) (by decide +kernel) ⟨Nat.le_of_ble_eq_true rfl, Nat.le_of_ble_eq_true rfl⟩ rfl hl.1 rfl (Nat.le_of_ble_eq_true rfl) dX9_holderOrNull_30 ⟨Nat.zero_le _, Nat.zero_le _⟩ (fun H locs G => ?_)
      refine lv_if_eq (tgt := 45) hx hb dX9_holderOrNull_33 (by decide) (fun h => absurd h (by decide)) (fun _ => ?_)
      refine lv_aload_n hx hb dX9_holderOrNull_36 rfl (lv_at hl 0 rfl) ?_
      refine q_get (index := 17) (ref := "ToolRoom") E G inX9 0 0 c0 sg_0 rfl 1 (by decide) tb_83 (Or.inl rfl) rfl dX9_holderOrNull_37 ?_
      refine lv_iload_n hx hb dX9_holderOrNull_40 rfl (lv_at hl 2 rfl) ?_
      refine q_aald (C := "ToolRoom$Row") E G 2 0 c2 sa_2 3 rfl v4 dX9_holderOrNull_41 ?_
      refine lv_goto (tgt := 46) hx hb dX9_holderOrNull_42 (by decide) ?_
      exact q_aret E G (some (ad 8 k.toNatClampNeg)) (by unfold hon; simp only [if_pos h1, if_pos h3]; rfl) dX9_holderOrNull_46
    · refine q_cSp E G [] (k_X9_isWithin_f l D cy sz ad n S k 4 h3) tb_117 tb_118 tb_1 tb_119 (nn := 2) (by decide +kernel) ⟨Nat.le_of_ble_eq_true rfl, Nat.le_of_ble_eq_true rfl⟩ rfl hl.1 rfl (Nat.le_of_ble_eq_true rfl) dX9_holderOrNull_30 ⟨Nat.zero_le _, Nat.zero_le _⟩ (fun H locs G => ?_)
      refine lv_if_eq (tgt := 45) hx hb dX9_holderOrNull_33 (by decide) (fun _ => ?_) (fun h => absurd h (by decide))
      refine lv_null hx hb dX9_holderOrNull_45 ?_
      exact q_aret E G none (by unfold hon; simp only [if_pos h1, if_neg h3]; rfl) dX9_holderOrNull_46
  · refine lv_iload_n hx hb dX9_holderOrNull_47 rfl (lv_at hl 2 rfl) ?_
    refine lv_iconst (v := 4) hx hb dX9_holderOrNull_48 (by decide) ?_
    by_cases h5 : wi k 4 = true
    · have v6 : vp_in k 4 := wi_in h5 (by decide) (by decide)
      refine q_cSp E G [] (k_X9_isWithin_t l D cy sz ad n S k 4 h5) tb_117 tb_118 tb_1 tb_119 (nn := 2) (by decide +kernel) ⟨Nat.le_of_ble_eq_true rfl, Nat.le_of_ble_eq_true rfl⟩ rfl hl.1 rfl (Nat.le_of_ble_eq_true rfl) dX9_holderOrNull_49 ⟨Nat.zero_le _, Nat.zero_le _⟩ (fun H locs G => ?_)
      refine lv_if_eq (tgt := 64) hx hb dX9_holderOrNull_52 (by decide) (fun h => absurd h (by decide)) (fun _ => ?_)
      refine lv_aload_n hx hb dX9_holderOrNull_55 rfl (lv_at hl 0 rfl) ?_
      refine q_get (index := 23) (ref := "ToolRoom") E G inX9 0 0 c0 sg_0 rfl 2 (by decide) tb_84 (Or.inl rfl) rfl dX9_holderOrNull_56 ?_
      refine lv_iload_n hx hb dX9_holderOrNull_59 rfl (lv_at hl 2 rfl) ?_
      refine q_aald (C := "ToolRoom$Rack") E G 3 0 c3 sa_3 4 rfl v6 dX9_holderOrNull_60 ?_
      refine lv_goto (tgt := 65) hx hb dX9_holderOrNull_61 (by decide) ?_
      exact q_aret E G (some (ad 10 k.toNatClampNeg)) (by unfold hon; simp only [if_neg h1, if_pos h2, if_pos h5]; rfl) dX9_holderOrNull_65
    · refine q_cSp E G [] (k_X9_isWithin_f l D cy sz ad n S k 4 h5) tb_117 tb_118 tb_1 tb_119 (nn := 2) (by decide +kernel) ⟨Nat.le_of_ble_eq_true rfl, Nat.le_of_ble_eq_true rfl⟩ rfl hl.1 rfl (Nat.le_of_ble_eq_true rfl) dX9_holderOrNull_49 ⟨Nat.zero_le _, Nat.zero_le _⟩ (fun H locs G => ?_)
      refine lv_if_eq (tgt := 64) hx hb dX9_holderOrNull_52 (by decide) (fun _ => ?_) (fun h => absurd h (by decide))
      refine lv_null hx hb dX9_holderOrNull_64 ?_
      exact q_aret E G none (by unfold hon; simp only [if_neg h1, if_pos h2, if_neg h5]; rfl) dX9_holderOrNull_65
  · refine lv_iload_n hx hb dX9_holderOrNull_66 rfl (lv_at hl 2 rfl) ?_
    refine lv_iconst (v := 2) hx hb dX9_holderOrNull_67 (by decide) ?_
    by_cases h7 : wi k 2 = true
    · have v8 : vp_in k 2 := wi_in h7 (by decide) (by decide)
      refine q_cSp E G [] (k_X9_isWithin_t l D cy sz ad n S k 2 h7) tb_117 tb_118 tb_1 tb_119 (nn := 2) (by decide +kernel) ⟨Nat.le_of_ble_eq_true rfl, Nat.le_of_ble_eq_true rfl⟩ rfl hl.1 rfl (Nat.le_of_ble_eq_true rfl) dX9_holderOrNull_68 ⟨Nat.zero_le _, Nat.zero_le _⟩ (fun H locs G => ?_)
      refine lv_if_eq (tgt := 83) hx hb dX9_holderOrNull_71 (by decide) (fun h => absurd h (by decide)) (fun _ => ?_)
      refine lv_aload_n hx hb dX9_holderOrNull_74 rfl (lv_at hl 0 rfl) ?_
      refine q_get (index := 29) (ref := "ToolRoom") E G inX9 0 0 c0 sg_0 rfl 3 (by decide) tb_85 (Or.inl rfl) rfl dX9_holderOrNull_75 ?_
      refine lv_iload_n hx hb dX9_holderOrNull_78 rfl (lv_at hl 2 rfl) ?_
      refine q_aald (C := "ToolRoom$Grid") E G 4 0 c4 sa_4 5 rfl v8 dX9_holderOrNull_79 ?_
      refine lv_goto (tgt := 84) hx hb dX9_holderOrNull_80 (by decide) ?_
      exact q_aret E G (some (ad 12 k.toNatClampNeg)) (by unfold hon; simp only [if_neg h1, if_neg h2, if_pos h7]; rfl) dX9_holderOrNull_84
    · refine q_cSp E G [] (k_X9_isWithin_f l D cy sz ad n S k 2 h7) tb_117 tb_118 tb_1 tb_119 (nn := 2) (by decide +kernel) ⟨Nat.le_of_ble_eq_true rfl, Nat.le_of_ble_eq_true rfl⟩ rfl hl.1 rfl (Nat.le_of_ble_eq_true rfl) dX9_holderOrNull_68 ⟨Nat.zero_le _, Nat.zero_le _⟩ (fun H locs G => ?_)
      refine lv_if_eq (tgt := 83) hx hb dX9_holderOrNull_71 (by decide) (fun _ => ?_) (fun h => absurd h (by decide))
      refine lv_null hx hb dX9_holderOrNull_83 ?_
      exact q_aret E G none (by unfold hon; simp only [if_neg h1, if_neg h2, if_neg h7]; rfl) dX9_holderOrNull_84

def f_X9_edgeOf (S : SS) (t : Nat) : Int32 × SS := if (S.1 16 t 4 = 1 ∨ S.1 16 t 4 = 2) then (f_X9_done S (S.1 16 t 3)) else (f_X9_failWithZero S 4)
set_option maxHeartbeats 4000000 in
set_option maxRecDepth 100000 in
theorem k_X9_edgeOf (l : Launch) (D : va_G) (cy : Nat → ClassId) (sz : Nat) (ad : Nat → Nat → Nat) (n : Nat) (S : SS) (t : Nat) (ht : t < n) : CI l yX9_edgeOf cX9_edgeOf 3 (some .int) 3 63 [.ref (ad 0 0), .ref (ad 16 t)] D cy sz ad n S (f_X9_edgeOf S t) := by
  refine Met.enter (by decide) (Nat.le_of_ble_eq_true rfl) (fun p e s m args below meth c ls E G hl => ?_)
  have E : En p s m args meth c cX9_edgeOf 3 (some .int) RX9 D cy sz := E
  obtain ⟨hx, hb, hrt, hml, hown, hw, hlk, hK, hF, hsz⟩ := id E
  have hl : lv_has ls 3 [(0, .ref (ad 0 0)), (1, .ref (ad 16 t))] := hl
  refine lv_aload_n hx hb dX9_edgeOf_0 rfl (lv_at hl 1 rfl) ?_
  refine q_instB E G ht tb_155 dX9_edgeOf_1 (fun h1 => ?_) (fun h1 => ?_)
  · refine lv_if_eq (tgt := 21) hx hb dX9_edgeOf_4 (by decide) (fun h => absurd h (by decide)) (fun _ => ?_)
    refine lv_aload_n hx hb dX9_edgeOf_7 rfl (lv_at hl 1 rfl) ?_
    refine q_castB E G ht h1 tb_155 dX9_edgeOf_8 ?_
    refine lv_astore_n (lv' := [(2, .ref (ad 16 t)), (0, .ref (ad 0 0)), (1, .ref (ad 16 t))]) hx hb dX9_edgeOf_11 rfl hl (by decide) rfl (fun ls hl => ?_)
    refine lv_aload_n hx hb dX9_edgeOf_12 rfl (lv_at hl 1 rfl) ?_
    refine lv_aload_n hx hb dX9_edgeOf_13 rfl (lv_at hl 0 rfl) ?_
    refine q_getE E G ht h1 tb_164 (Or.inl rfl) dX9_edgeOf_14 ?_
    refine q_cV (rest := []) E G 0 0 c0 sg_0 (C := RX9) (T := TX9) (N := 10) rfl (k_X9_done l D cy sz ad n S (S.1 16 t 3)) tb_192 tb_194 tp_1 tb_1 tb_195 (nn := 1) (by decide +kernel) ⟨Nat.le_of_ble_eq_true rfl, Nat.le_of_ble_eq_true rfl⟩ rfl hl.1 rfl (Nat.le_of_ble_eq_true rfl) dX9_edgeOf_17 ⟨Nat.zero_le _, Nat.zero_le _⟩ (fun H locs G => ?_)
    exact q_iret E G (by unfold f_X9_edgeOf; simp only [if_pos h1, pr_eta]) dX9_edgeOf_20
  · refine lv_if_eq (tgt := 21) hx hb dX9_edgeOf_4 (by decide) (fun _ => ?_) (fun h => absurd h (by decide))
    refine lv_aload_n hx hb dX9_edgeOf_21 rfl (lv_at hl 0 rfl) ?_
    refine lv_iconst (v := 4) hx hb dX9_edgeOf_22 (by decide) ?_
    refine q_cV (rest := []) E G 0 0 c0 sg_0 (C := RX9) (T := TX9) (N := 10) rfl (k_X9_failWithZero l D cy sz ad n S 4 (by unfold vp_in; decide)) tb_247 tb_249 tp_4 tb_1 tb_250 (nn := 1) (by decide +kernel) ⟨Nat.le_of_ble_eq_true rfl, Nat.le_of_ble_eq_true rfl⟩ rfl hl.1 rfl (Nat.le_of_ble_eq_true rfl) dX9_edgeOf_23 ⟨Nat.zero_le _, Nat.zero_le _⟩ (fun H locs G => ?_)
    exact q_iret E G (by unfold f_X9_edgeOf; simp only [if_neg h1, pr_eta]) dX9_edgeOf_26

def f_X9_hang (S : SS) (x1 : Int32) (x2 : Int32) : Int32 × SS := if wi x1 10 = true then (if wi x2 10 = true then (match S.2 1 0 x2.toNatClampNeg with | none => (f_X9_done (uR S 1 0 x1.toNatClampNeg none) 0) | some t5 => (f_X9_done (uR S 1 0 x1.toNatClampNeg (some t5)) 1)) else (f_X9_refuse S (-2))) else (f_X9_refuse S (-2))
set_option maxHeartbeats 4000000 in
set_option maxRecDepth 100000 in
theorem k_X9_hang (l : Launch) (D : va_G) (cy : Nat → ClassId) (sz : Nat) (ad : Nat → Nat → Nat) (n : Nat) (S : SS) (ok : okC n S) (x1 : Int32) (x2 : Int32) : CI l yX9_hang cX9_hang 3 (some .int) 1 21 [.ref (ad 0 0), .int x1, .int x2] D cy sz ad n S (f_X9_hang S x1 x2) := by
  refine Met.enter (by decide) (Nat.le_of_ble_eq_true rfl) (fun p e s m args below meth c ls E G hl => ?_)
  have E : En p s m args meth c cX9_hang 3 (some .int) RX9 D cy sz := E
  obtain ⟨hx, hb, hrt, hml, hown, hw, hlk, hK, hF, hsz⟩ := id E
  have hl : lv_has ls 3 [(0, .ref (ad 0 0)), (1, .int x1), (2, .int x2)] := hl
  refine lv_iload_n hx hb dX9_hang_0 rfl (lv_at hl 1 rfl) ?_
  refine lv_bipush (v := 10) hx hb dX9_hang_1 (by decide) ?_
  by_cases h1 : wi x1 10 = true
  · have v2 : vp_in x1 10 := wi_in h1 (by decide) (by decide)
    refine q_cSp E G [] (k_X9_isWithin_t l D cy sz ad n S x1 10 h1) tb_117 tb_118 tb_1 tb_119 (nn := 2) (by decide +kernel) ⟨Nat.le_of_ble_eq_true rfl, Nat.le_of_ble_eq_true rfl⟩ rfl hl.1 rfl (Nat.le_of_ble_eq_true rfl) dX9_hang_3 ⟨Nat.zero_le _, Nat.zero_le _⟩ (fun H locs G => ?_)
    refine lv_if_eq (tgt := 18) hx hb dX9_hang_6 (by decide) (fun h => absurd h (by decide)) (fun _ => ?_)
    refine lv_iload_n hx hb dX9_hang_9 rfl (lv_at hl 2 rfl) ?_
    refine lv_bipush (v := 10) hx hb dX9_hang_10 (by decide) ?_
    by_cases h3 : wi x2 10 = true
    · have v4 : vp_in x2 10 := wi_in h3 (by decide) (by decide)
      refine q_cSp E G [] (k_X9_isWithin_t l D cy sz ad n S x2 10 h3) tb_117 tb_118 tb_1 tb_119 (nn := 2) (by decide +kernel) ⟨Nat.le_of_ble_eq_true rfl, Nat.le_of_ble_eq_true rfl⟩ rfl hl.1 rfl (Nat.le_of_ble_eq_true rfl) dX9_hang_12 ⟨Nat.zero_le _, Nat.zero_le _⟩ (fun H locs G => ?_)
      refine lv_if_ne (tgt := 25) hx hb dX9_hang_15 (by decide) (fun _ => ?_) (fun h => absurd h (by decide))
      refine lv_aload_n hx hb dX9_hang_25 rfl (lv_at hl 0 rfl) ?_
      refine q_get (index := 11) (ref := "ToolRoom") E G inX9 0 0 c0 sg_0 rfl 0 (by decide) tb_82 (Or.inl rfl) rfl dX9_hang_26 ?_
      refine lv_iload_n hx hb dX9_hang_29 rfl (lv_at hl 1 rfl) ?_
      refine lv_aload_n hx hb dX9_hang_30 rfl (lv_at hl 0 rfl) ?_
      refine q_get (index := 11) (ref := "ToolRoom") E G inX9 0 0 c0 sg_0 rfl 0 (by decide) tb_82 (Or.inl rfl) rfl dX9_hang_31 ?_
      refine lv_iload_n hx hb dX9_hang_34 rfl (lv_at hl 2 rfl) ?_
      refine q_aaldT E G 1 0 c1 sa_1 v4 dX9_hang_35 (fun h5 => ?_) (fun t5 h5 => ?_)
      · refine q_aastN E G 1 0 c1 (fun _ => sa_1) v2 dX9_hang_36 (fun H locs G => ?_)
        refine lv_aload_n hx hb dX9_hang_37 rfl (lv_at hl 0 rfl) ?_
        refine lv_aload_n hx hb dX9_hang_38 rfl (lv_at hl 0 rfl) ?_
        refine q_get (index := 11) (ref := "ToolRoom") E G inX9 0 0 c0 sg_0 rfl 0 (by decide) tb_82 (Or.inl rfl) rfl dX9_hang_39 ?_
        refine lv_iload_n hx hb dX9_hang_42 rfl (lv_at hl 1 rfl) ?_
        refine q_aaldN E G 1 0 c1 rfl v2 (by simp [uR_at]) dX9_hang_43 ?_
        refine lv_ifnullN (tgt := 51) hx hb dX9_hang_44 (by decide) ?_
        refine lv_iconst (v := 0) hx hb dX9_hang_51 (by decide) ?_
        refine q_cV (rest := []) E G 0 0 c0 sg_0 (C := RX9) (T := TX9) (N := 10) rfl (k_X9_done l D cy sz ad n (uR S 1 0 x1.toNatClampNeg none) 0) tb_192 tb_194 tp_1 tb_1 tb_195 (nn := 1) (by decide +kernel) ⟨Nat.le_of_ble_eq_true rfl, Nat.le_of_ble_eq_true rfl⟩ rfl hl.1 rfl (Nat.le_of_ble_eq_true rfl) dX9_hang_52 ⟨Nat.zero_le _, Nat.zero_le _⟩ (fun H locs G => ?_)
        exact q_iret E G (by unfold f_X9_hang; simp only [if_pos h1, if_pos h3, h5, pr_eta]) dX9_hang_55
      · have kt5 : t5 < n := ok.1 _ _ _ _ h5
        refine q_aast E G 1 0 c1 (fun _ => sa_1) kt5 v2 dX9_hang_36 (fun H locs G => ?_)
        refine lv_aload_n hx hb dX9_hang_37 rfl (lv_at hl 0 rfl) ?_
        refine lv_aload_n hx hb dX9_hang_38 rfl (lv_at hl 0 rfl) ?_
        refine q_get (index := 11) (ref := "ToolRoom") E G inX9 0 0 c0 sg_0 rfl 0 (by decide) tb_82 (Or.inl rfl) rfl dX9_hang_39 ?_
        refine lv_iload_n hx hb dX9_hang_42 rfl (lv_at hl 1 rfl) ?_
        refine q_aaldS (t := t5) E G 1 0 c1 rfl v2 (by simp [uR_at]) dX9_hang_43 ?_
        refine lv_ifnull hx hb dX9_hang_44 ?_
        refine lv_iconst (v := 1) hx hb dX9_hang_47 (by decide) ?_
        refine lv_goto (tgt := 52) hx hb dX9_hang_48 (by decide) ?_
        refine q_cV (rest := []) E G 0 0 c0 sg_0 (C := RX9) (T := TX9) (N := 10) rfl (k_X9_done l D cy sz ad n (uR S 1 0 x1.toNatClampNeg (some t5)) 1) tb_192 tb_194 tp_1 tb_1 tb_195 (nn := 1) (by decide +kernel) ⟨Nat.le_of_ble_eq_true rfl, Nat.le_of_ble_eq_true rfl⟩ rfl hl.1 rfl (Nat.le_of_ble_eq_true rfl) dX9_hang_52 ⟨Nat.zero_le _, Nat.zero_le _⟩ (fun H locs G => ?_)
        exact q_iret E G (by unfold f_X9_hang; simp only [if_pos h1, if_pos h3, h5, pr_eta]) dX9_hang_55
    · refine q_cSp E G [] (k_X9_isWithin_f l D cy sz ad n S x2 10 h3) tb_117 tb_118 tb_1 tb_119 (nn := 2) (by decide +kernel) ⟨Nat.le_of_ble_eq_true rfl, Nat.le_of_ble_eq_true rfl⟩ rfl hl.1 rfl (Nat.le_of_ble_eq_true rfl) dX9_hang_12 ⟨Nat.zero_le _, Nat.zero_le _⟩ (fun H locs G => ?_)
      refine lv_if_ne (tgt := 25) hx hb dX9_hang_15 (by decide) (fun h => absurd h (by decide)) (fun _ => ?_)
      refine lv_aload_n hx hb dX9_hang_18 rfl (lv_at hl 0 rfl) ?_
      refine lv_bipush (v := (-2)) hx hb dX9_hang_19 (by decide) ?_
      refine q_cV (rest := []) E G 0 0 c0 sg_0 (C := RX9) (T := TX9) (N := 10) rfl (k_X9_refuse l D cy sz ad n S (-2)) tb_120 tb_122 tp_0 tb_1 tb_123 (nn := 1) (by decide +kernel) ⟨Nat.le_of_ble_eq_true rfl, Nat.le_of_ble_eq_true rfl⟩ rfl hl.1 rfl (Nat.le_of_ble_eq_true rfl) dX9_hang_21 ⟨Nat.zero_le _, Nat.zero_le _⟩ (fun H locs G => ?_)
      exact q_iret E G (by unfold f_X9_hang; simp only [if_pos h1, if_neg h3, pr_eta]) dX9_hang_24
  · refine q_cSp E G [] (k_X9_isWithin_f l D cy sz ad n S x1 10 h1) tb_117 tb_118 tb_1 tb_119 (nn := 2) (by decide +kernel) ⟨Nat.le_of_ble_eq_true rfl, Nat.le_of_ble_eq_true rfl⟩ rfl hl.1 rfl (Nat.le_of_ble_eq_true rfl) dX9_hang_3 ⟨Nat.zero_le _, Nat.zero_le _⟩ (fun H locs G => ?_)
    refine lv_if_eq (tgt := 18) hx hb dX9_hang_6 (by decide) (fun _ => ?_) (fun h => absurd h (by decide))
    refine lv_aload_n hx hb dX9_hang_18 rfl (lv_at hl 0 rfl) ?_
    refine lv_bipush (v := (-2)) hx hb dX9_hang_19 (by decide) ?_
    refine q_cV (rest := []) E G 0 0 c0 sg_0 (C := RX9) (T := TX9) (N := 10) rfl (k_X9_refuse l D cy sz ad n S (-2)) tb_120 tb_122 tp_0 tb_1 tb_123 (nn := 1) (by decide +kernel) ⟨Nat.le_of_ble_eq_true rfl, Nat.le_of_ble_eq_true rfl⟩ rfl hl.1 rfl (Nat.le_of_ble_eq_true rfl) dX9_hang_21 ⟨Nat.zero_le _, Nat.zero_le _⟩ (fun H locs G => ?_)
    exact q_iret E G (by unfold f_X9_hang; simp only [if_neg h1, pr_eta]) dX9_hang_24

def f_X9_unhang (S : SS) (x1 : Int32) : Int32 × SS := if wi x1 10 = true then (match S.2 1 0 x1.toNatClampNeg with | none => (f_X9_done (uR S 1 0 x1.toNatClampNeg none) 0) | some t3 => (f_X9_done (uR S 1 0 x1.toNatClampNeg none) 1)) else (f_X9_refuse S (-2))
set_option maxHeartbeats 4000000 in
set_option maxRecDepth 100000 in
theorem k_X9_unhang (l : Launch) (D : va_G) (cy : Nat → ClassId) (sz : Nat) (ad : Nat → Nat → Nat) (n : Nat) (S : SS) (ok : okC n S) (x1 : Int32) : CI l yX9_unhang cX9_unhang 3 (some .int) 1 21 [.ref (ad 0 0), .int x1] D cy sz ad n S (f_X9_unhang S x1) := by
  refine Met.enter (by decide) (Nat.le_of_ble_eq_true rfl) (fun p e s m args below meth c ls E G hl => ?_)
  have E : En p s m args meth c cX9_unhang 3 (some .int) RX9 D cy sz := E
  obtain ⟨hx, hb, hrt, hml, hown, hw, hlk, hK, hF, hsz⟩ := id E
  have hl : lv_has ls 3 [(0, .ref (ad 0 0)), (1, .int x1)] := hl
  refine lv_iload_n hx hb dX9_unhang_0 rfl (lv_at hl 1 rfl) ?_
  refine lv_bipush (v := 10) hx hb dX9_unhang_1 (by decide) ?_
  by_cases h1 : wi x1 10 = true
  · have v2 : vp_in x1 10 := wi_in h1 (by decide) (by decide)
    refine q_cSp E G [] (k_X9_isWithin_t l D cy sz ad n S x1 10 h1) tb_117 tb_118 tb_1 tb_119 (nn := 2) (by decide +kernel) ⟨Nat.le_of_ble_eq_true rfl, Nat.le_of_ble_eq_true rfl⟩ rfl hl.1 rfl (Nat.le_of_ble_eq_true rfl) dX9_unhang_3 ⟨Nat.zero_le _, Nat.zero_le _⟩ (fun H locs G => ?_)
    refine lv_if_ne (tgt := 16) hx hb dX9_unhang_6 (by decide) (fun _ => ?_) (fun h => absurd h (by decide))
    refine lv_aload_n hx hb dX9_unhang_16 rfl (lv_at hl 0 rfl) ?_
    refine q_get (index := 11) (ref := "ToolRoom") E G inX9 0 0 c0 sg_0 rfl 0 (by decide) tb_82 (Or.inl rfl) rfl dX9_unhang_17 ?_
    refine lv_iload_n hx hb dX9_unhang_20 rfl (lv_at hl 1 rfl) ?_
    refine q_aaldT E G 1 0 c1 sa_1 v2 dX9_unhang_21 (fun h3 => ?_) (fun t3 h3 => ?_)
    · refine lv_ifnullN (tgt := 29) hx hb dX9_unhang_22 (by decide) ?_
      refine lv_iconst (v := 0) hx hb dX9_unhang_29 (by decide) ?_
      refine lv_istore_n (lv' := [(2, .int 0), (0, .ref (ad 0 0)), (1, .int x1)]) hx hb dX9_unhang_30 rfl hl (by decide) rfl (fun ls hl => ?_)
      refine lv_aload_n hx hb dX9_unhang_31 rfl (lv_at hl 1 rfl) ?_
      refine q_get (index := 11) (ref := "ToolRoom") E G inX9 0 0 c0 sg_0 rfl 0 (by decide) tb_82 (Or.inl rfl) rfl dX9_unhang_32 ?_
      refine lv_iload_n hx hb dX9_unhang_35 rfl (lv_at hl 2 rfl) ?_
      refine lv_null hx hb dX9_unhang_36 ?_
      refine q_aastN E G 1 0 c1 (fun _ => sa_1) v2 dX9_unhang_37 (fun H locs G => ?_)
      refine lv_aload_n hx hb dX9_unhang_38 rfl (lv_at hl 1 rfl) ?_
      refine lv_iload_n hx hb dX9_unhang_39 rfl (lv_at hl 0 rfl) ?_
      refine lv_if_eq (tgt := 47) hx hb dX9_unhang_40 (by decide) (fun _ => ?_) (fun h => absurd h (by decide))
      refine lv_iconst (v := 0) hx hb dX9_unhang_47 (by decide) ?_
      refine q_cV (rest := []) E G 0 0 c0 sg_0 (C := RX9) (T := TX9) (N := 10) rfl (k_X9_done l D cy sz ad n (uR S 1 0 x1.toNatClampNeg none) 0) tb_192 tb_194 tp_1 tb_1 tb_195 (nn := 1) (by decide +kernel) ⟨Nat.le_of_ble_eq_true rfl, Nat.le_of_ble_eq_true rfl⟩ rfl hl.1 rfl (Nat.le_of_ble_eq_true rfl) dX9_unhang_48 ⟨Nat.zero_le _, Nat.zero_le _⟩ (fun H locs G => ?_)
      exact q_iret E G (by unfold f_X9_unhang; simp only [if_pos h1, h3, pr_eta]) dX9_unhang_51
    · have kt3 : t3 < n := ok.1 _ _ _ _ h3
      refine lv_ifnull hx hb dX9_unhang_22 ?_
      refine lv_iconst (v := 1) hx hb dX9_unhang_25 (by decide) ?_
      refine lv_goto (tgt := 30) hx hb dX9_unhang_26 (by decide) ?_
      refine lv_istore_n (lv' := [(2, .int 1), (0, .ref (ad 0 0)), (1, .int x1)]) hx hb dX9_unhang_30 rfl hl (by decide) rfl (fun ls hl => ?_)
      refine lv_aload_n hx hb dX9_unhang_31 rfl (lv_at hl 1 rfl) ?_
      refine q_get (index := 11) (ref := "ToolRoom") E G inX9 0 0 c0 sg_0 rfl 0 (by decide) tb_82 (Or.inl rfl) rfl dX9_unhang_32 ?_
      refine lv_iload_n hx hb dX9_unhang_35 rfl (lv_at hl 2 rfl) ?_
      refine lv_null hx hb dX9_unhang_36 ?_
      refine q_aastN E G 1 0 c1 (fun _ => sa_1) v2 dX9_unhang_37 (fun H locs G => ?_)
      refine lv_aload_n hx hb dX9_unhang_38 rfl (lv_at hl 1 rfl) ?_
      refine lv_iload_n hx hb dX9_unhang_39 rfl (lv_at hl 0 rfl) ?_
      refine lv_if_eq (tgt := 47) hx hb dX9_unhang_40 (by decide) (fun h => absurd h (by decide)) (fun _ => ?_)
      refine lv_iconst (v := 1) hx hb dX9_unhang_43 (by decide) ?_
      refine lv_goto (tgt := 48) hx hb dX9_unhang_44 (by decide) ?_
      refine q_cV (rest := []) E G 0 0 c0 sg_0 (C := RX9) (T := TX9) (N := 10) rfl (k_X9_done l D cy sz ad n (uR S 1 0 x1.toNatClampNeg none) 1) tb_192 tb_194 tp_1 tb_1 tb_195 (nn := 1) (by decide +kernel) ⟨Nat.le_of_ble_eq_true rfl, Nat.le_of_ble_eq_true rfl⟩ rfl hl.1 rfl (Nat.le_of_ble_eq_true rfl) dX9_unhang_48 ⟨Nat.zero_le _, Nat.zero_le _⟩ (fun H locs G => ?_)
      exact q_iret E G (by unfold f_X9_unhang; simp only [if_pos h1, h3, pr_eta]) dX9_unhang_51
  · refine q_cSp E G [] (k_X9_isWithin_f l D cy sz ad n S x1 10 h1) tb_117 tb_118 tb_1 tb_119 (nn := 2) (by decide +kernel) ⟨Nat.le_of_ble_eq_true rfl, Nat.le_of_ble_eq_true rfl⟩ rfl hl.1 rfl (Nat.le_of_ble_eq_true rfl) dX9_unhang_3 ⟨Nat.zero_le _, Nat.zero_le _⟩ (fun H locs G => ?_)
    refine lv_if_ne (tgt := 16) hx hb dX9_unhang_6 (by decide) (fun h => absurd h (by decide)) (fun _ => ?_)
    refine lv_aload_n hx hb dX9_unhang_9 rfl (lv_at hl 0 rfl) ?_
    refine lv_bipush (v := (-2)) hx hb dX9_unhang_10 (by decide) ?_
    refine q_cV (rest := []) E G 0 0 c0 sg_0 (C := RX9) (T := TX9) (N := 10) rfl (k_X9_refuse l D cy sz ad n S (-2)) tb_120 tb_122 tp_0 tb_1 tb_123 (nn := 1) (by decide +kernel) ⟨Nat.le_of_ble_eq_true rfl, Nat.le_of_ble_eq_true rfl⟩ rfl hl.1 rfl (Nat.le_of_ble_eq_true rfl) dX9_unhang_12 ⟨Nat.zero_le _, Nat.zero_le _⟩ (fun H locs G => ?_)
    exact q_iret E G (by unfold f_X9_unhang; simp only [if_neg h1, pr_eta]) dX9_unhang_15

def f_X9_kind (S : SS) (x1 : Int32) : Int32 × SS := if wi x1 10 = true then (match S.2 1 0 x1.toNatClampNeg with | none => (f_X9_done S (-1)) | some t3 => (f_X9_done S (vK S t3))) else (f_X9_refuse S (-2))
set_option maxHeartbeats 4000000 in
set_option maxRecDepth 100000 in
theorem k_X9_kind (l : Launch) (D : va_G) (cy : Nat → ClassId) (sz : Nat) (ad : Nat → Nat → Nat) (n : Nat) (S : SS) (ok : okC n S) (x1 : Int32) : CI l yX9_kind cX9_kind 3 (some .int) 2 43 [.ref (ad 0 0), .int x1] D cy sz ad n S (f_X9_kind S x1) := by
  refine Met.enter (by decide) (Nat.le_of_ble_eq_true rfl) (fun p e s m args below meth c ls E G hl => ?_)
  have E : En p s m args meth c cX9_kind 3 (some .int) RX9 D cy sz := E
  obtain ⟨hx, hb, hrt, hml, hown, hw, hlk, hK, hF, hsz⟩ := id E
  have hl : lv_has ls 3 [(0, .ref (ad 0 0)), (1, .int x1)] := hl
  refine lv_iload_n hx hb dX9_kind_0 rfl (lv_at hl 1 rfl) ?_
  refine lv_bipush (v := 10) hx hb dX9_kind_1 (by decide) ?_
  by_cases h1 : wi x1 10 = true
  · have v2 : vp_in x1 10 := wi_in h1 (by decide) (by decide)
    refine q_cSp E G [] (k_X9_isWithin_t l D cy sz ad n S x1 10 h1) tb_117 tb_118 tb_1 tb_119 (nn := 2) (by decide +kernel) ⟨Nat.le_of_ble_eq_true rfl, Nat.le_of_ble_eq_true rfl⟩ rfl hl.1 rfl (Nat.le_of_ble_eq_true rfl) dX9_kind_3 ⟨Nat.zero_le _, Nat.zero_le _⟩ (fun H locs G => ?_)
    refine lv_if_ne (tgt := 16) hx hb dX9_kind_6 (by decide) (fun _ => ?_) (fun h => absurd h (by decide))
    refine lv_aload_n hx hb dX9_kind_16 rfl (lv_at hl 0 rfl) ?_
    refine q_get (index := 11) (ref := "ToolRoom") E G inX9 0 0 c0 sg_0 rfl 0 (by decide) tb_82 (Or.inl rfl) rfl dX9_kind_17 ?_
    refine lv_iload_n hx hb dX9_kind_20 rfl (lv_at hl 1 rfl) ?_
    refine q_aaldT E G 1 0 c1 sa_1 v2 dX9_kind_21 (fun h3 => ?_) (fun t3 h3 => ?_)
    · refine lv_astore_nN (lv' := [(2, .null), (0, .ref (ad 0 0)), (1, .int x1)]) hx hb dX9_kind_22 rfl hl (by decide) rfl (fun ls hl => ?_)
      refine lv_aload_n hx hb dX9_kind_23 rfl (lv_at hl 1 rfl) ?_
      refine lv_aload_nN hx hb dX9_kind_24 rfl (lv_at hl 0 rfl) ?_
      refine lv_ifnonnullN hx hb dX9_kind_25 ?_
      refine lv_iconst (v := (-1)) hx hb dX9_kind_28 (by decide) ?_
      refine lv_goto (tgt := 36) hx hb dX9_kind_29 (by decide) ?_
      refine q_cV (rest := []) E G 0 0 c0 sg_0 (C := RX9) (T := TX9) (N := 10) rfl (k_X9_done l D cy sz ad n S (-1)) tb_192 tb_194 tp_1 tb_1 tb_195 (nn := 1) (by decide +kernel) ⟨Nat.le_of_ble_eq_true rfl, Nat.le_of_ble_eq_true rfl⟩ rfl hl.1 rfl (Nat.le_of_ble_eq_true rfl) dX9_kind_36 ⟨Nat.zero_le _, Nat.zero_le _⟩ (fun H locs G => ?_)
      exact q_iret E G (by unfold f_X9_kind; simp only [if_pos h1, h3, pr_eta]) dX9_kind_39
    · have kt3 : t3 < n := ok.1 _ _ _ _ h3
      refine lv_astore_n (lv' := [(2, .ref (ad 16 t3)), (0, .ref (ad 0 0)), (1, .int x1)]) hx hb dX9_kind_22 rfl hl (by decide) rfl (fun ls hl => ?_)
      refine lv_aload_n hx hb dX9_kind_23 rfl (lv_at hl 1 rfl) ?_
      refine lv_aload_n hx hb dX9_kind_24 rfl (lv_at hl 0 rfl) ?_
      refine lv_ifnonnull (tgt := 32) hx hb dX9_kind_25 (by decide) ?_
      refine lv_aload_n hx hb dX9_kind_32 rfl (lv_at hl 0 rfl) ?_
      refine q_t_kindNumber E G kt3 [.ref (ad 0 0)] ⟨Nat.le_of_ble_eq_true rfl, Nat.le_of_ble_eq_true rfl⟩ hl.1 rfl (Nat.le_of_ble_eq_true rfl) dX9_kind_33 ⟨Nat.zero_le _, Nat.zero_le _⟩ (fun H locs G => ?_)
      refine q_cV (rest := []) E G 0 0 c0 sg_0 (C := RX9) (T := TX9) (N := 10) rfl (k_X9_done l D cy sz ad n S (vK S t3)) tb_192 tb_194 tp_1 tb_1 tb_195 (nn := 1) (by decide +kernel) ⟨Nat.le_of_ble_eq_true rfl, Nat.le_of_ble_eq_true rfl⟩ rfl hl.1 rfl (Nat.le_of_ble_eq_true rfl) dX9_kind_36 ⟨Nat.zero_le _, Nat.zero_le _⟩ (fun H locs G => ?_)
      exact q_iret E G (by unfold f_X9_kind; simp only [if_pos h1, h3, pr_eta]) dX9_kind_39
  · refine q_cSp E G [] (k_X9_isWithin_f l D cy sz ad n S x1 10 h1) tb_117 tb_118 tb_1 tb_119 (nn := 2) (by decide +kernel) ⟨Nat.le_of_ble_eq_true rfl, Nat.le_of_ble_eq_true rfl⟩ rfl hl.1 rfl (Nat.le_of_ble_eq_true rfl) dX9_kind_3 ⟨Nat.zero_le _, Nat.zero_le _⟩ (fun H locs G => ?_)
    refine lv_if_ne (tgt := 16) hx hb dX9_kind_6 (by decide) (fun h => absurd h (by decide)) (fun _ => ?_)
    refine lv_aload_n hx hb dX9_kind_9 rfl (lv_at hl 0 rfl) ?_
    refine lv_bipush (v := (-2)) hx hb dX9_kind_10 (by decide) ?_
    refine q_cV (rest := []) E G 0 0 c0 sg_0 (C := RX9) (T := TX9) (N := 10) rfl (k_X9_refuse l D cy sz ad n S (-2)) tb_120 tb_122 tp_0 tb_1 tb_123 (nn := 1) (by decide +kernel) ⟨Nat.le_of_ble_eq_true rfl, Nat.le_of_ble_eq_true rfl⟩ rfl hl.1 rfl (Nat.le_of_ble_eq_true rfl) dX9_kind_12 ⟨Nat.zero_le _, Nat.zero_le _⟩ (fun H locs G => ?_)
    exact q_iret E G (by unfold f_X9_kind; simp only [if_neg h1, pr_eta]) dX9_kind_15

def f_X9_card (S : SS) (x1 : Int32) (x2 : Int32) : Int32 × SS := if wi x1 10 = true then (match S.2 1 0 x1.toNatClampNeg with | none => (f_X9_fail S 1) | some t3 => (f_X9_done (uI (uI S 16 t3 1 1) 16 t3 2 x2) 1)) else (f_X9_refuse S (-2))
set_option maxHeartbeats 4000000 in
set_option maxRecDepth 100000 in
theorem k_X9_card (l : Launch) (D : va_G) (cy : Nat → ClassId) (sz : Nat) (ad : Nat → Nat → Nat) (n : Nat) (S : SS) (ok : okC n S) (x1 : Int32) (x2 : Int32) : CI l yX9_card cX9_card 4 (some .int) 2 42 [.ref (ad 0 0), .int x1, .int x2] D cy sz ad n S (f_X9_card S x1 x2) := by
  refine Met.enter (by decide) (Nat.le_of_ble_eq_true rfl) (fun p e s m args below meth c ls E G hl => ?_)
  have E : En p s m args meth c cX9_card 4 (some .int) RX9 D cy sz := E
  obtain ⟨hx, hb, hrt, hml, hown, hw, hlk, hK, hF, hsz⟩ := id E
  have hl : lv_has ls 4 [(0, .ref (ad 0 0)), (1, .int x1), (2, .int x2)] := hl
  refine lv_iload_n hx hb dX9_card_0 rfl (lv_at hl 1 rfl) ?_
  refine lv_bipush (v := 10) hx hb dX9_card_1 (by decide) ?_
  by_cases h1 : wi x1 10 = true
  · have v2 : vp_in x1 10 := wi_in h1 (by decide) (by decide)
    refine q_cSp E G [] (k_X9_isWithin_t l D cy sz ad n S x1 10 h1) tb_117 tb_118 tb_1 tb_119 (nn := 2) (by decide +kernel) ⟨Nat.le_of_ble_eq_true rfl, Nat.le_of_ble_eq_true rfl⟩ rfl hl.1 rfl (Nat.le_of_ble_eq_true rfl) dX9_card_3 ⟨Nat.zero_le _, Nat.zero_le _⟩ (fun H locs G => ?_)
    refine lv_if_ne (tgt := 16) hx hb dX9_card_6 (by decide) (fun _ => ?_) (fun h => absurd h (by decide))
    refine lv_aload_n hx hb dX9_card_16 rfl (lv_at hl 0 rfl) ?_
    refine q_get (index := 11) (ref := "ToolRoom") E G inX9 0 0 c0 sg_0 rfl 0 (by decide) tb_82 (Or.inl rfl) rfl dX9_card_17 ?_
    refine lv_iload_n hx hb dX9_card_20 rfl (lv_at hl 1 rfl) ?_
    refine q_aaldT E G 1 0 c1 sa_1 v2 dX9_card_21 (fun h3 => ?_) (fun t3 h3 => ?_)
    · refine lv_astore_nN (lv' := [(3, .null), (0, .ref (ad 0 0)), (1, .int x1), (2, .int x2)]) hx hb dX9_card_22 rfl hl (by decide) rfl (fun ls hl => ?_)
      refine lv_aload_nN hx hb dX9_card_23 rfl (lv_at hl 0 rfl) ?_
      refine lv_ifnonnullN hx hb dX9_card_24 ?_
      refine lv_aload_n hx hb dX9_card_27 rfl (lv_at hl 1 rfl) ?_
      refine lv_iconst (v := 1) hx hb dX9_card_28 (by decide) ?_
      refine q_cV (rest := []) E G 0 0 c0 sg_0 (C := RX9) (T := TX9) (N := 10) rfl (k_X9_fail l D cy sz ad n S 1 (by unfold vp_in; decide)) tb_227 tb_229 tp_2 tb_1 tb_230 (nn := 1) (by decide +kernel) ⟨Nat.le_of_ble_eq_true rfl, Nat.le_of_ble_eq_true rfl⟩ rfl hl.1 rfl (Nat.le_of_ble_eq_true rfl) dX9_card_29 ⟨Nat.zero_le _, Nat.zero_le _⟩ (fun H locs G => ?_)
      exact q_iret E G (by unfold f_X9_card; simp only [if_pos h1, h3, pr_eta]) dX9_card_32
    · have kt3 : t3 < n := ok.1 _ _ _ _ h3
      refine lv_astore_n (lv' := [(3, .ref (ad 16 t3)), (0, .ref (ad 0 0)), (1, .int x1), (2, .int x2)]) hx hb dX9_card_22 rfl hl (by decide) rfl (fun ls hl => ?_)
      refine lv_aload_n hx hb dX9_card_23 rfl (lv_at hl 0 rfl) ?_
      refine lv_ifnonnull (tgt := 33) hx hb dX9_card_24 (by decide) ?_
      refine lv_aload_n hx hb dX9_card_33 rfl (lv_at hl 0 rfl) ?_
      refine lv_iconst (v := 1) hx hb dX9_card_34 (by decide) ?_
      refine q_putT E G kt3 1 (by decide) rfl rfl rfl rfl tb_145 (Or.inl rfl) (ty := .boolean) (by decide +kernel) rfl rfl dX9_card_35 (fun H locs G => ?_)
      refine lv_aload_n hx hb dX9_card_38 rfl (lv_at hl 0 rfl) ?_
      refine lv_iload_n hx hb dX9_card_39 rfl (lv_at hl 3 rfl) ?_
      refine q_putT E G kt3 2 (by decide) rfl rfl rfl rfl tb_147 (Or.inl rfl) (ty := .int) (by decide +kernel) rfl rfl dX9_card_40 (fun H locs G => ?_)
      refine lv_aload_n hx hb dX9_card_43 rfl (lv_at hl 1 rfl) ?_
      refine lv_iconst (v := 1) hx hb dX9_card_44 (by decide) ?_
      refine q_cV (rest := []) E G 0 0 c0 sg_0 (C := RX9) (T := TX9) (N := 10) rfl (k_X9_done l D cy sz ad n (uI (uI S 16 t3 1 1) 16 t3 2 x2) 1) tb_192 tb_194 tp_1 tb_1 tb_195 (nn := 1) (by decide +kernel) ⟨Nat.le_of_ble_eq_true rfl, Nat.le_of_ble_eq_true rfl⟩ rfl hl.1 rfl (Nat.le_of_ble_eq_true rfl) dX9_card_45 ⟨Nat.zero_le _, Nat.zero_le _⟩ (fun H locs G => ?_)
      exact q_iret E G (by unfold f_X9_card; simp only [if_pos h1, h3, pr_eta]) dX9_card_48
  · refine q_cSp E G [] (k_X9_isWithin_f l D cy sz ad n S x1 10 h1) tb_117 tb_118 tb_1 tb_119 (nn := 2) (by decide +kernel) ⟨Nat.le_of_ble_eq_true rfl, Nat.le_of_ble_eq_true rfl⟩ rfl hl.1 rfl (Nat.le_of_ble_eq_true rfl) dX9_card_3 ⟨Nat.zero_le _, Nat.zero_le _⟩ (fun H locs G => ?_)
    refine lv_if_ne (tgt := 16) hx hb dX9_card_6 (by decide) (fun h => absurd h (by decide)) (fun _ => ?_)
    refine lv_aload_n hx hb dX9_card_9 rfl (lv_at hl 0 rfl) ?_
    refine lv_bipush (v := (-2)) hx hb dX9_card_10 (by decide) ?_
    refine q_cV (rest := []) E G 0 0 c0 sg_0 (C := RX9) (T := TX9) (N := 10) rfl (k_X9_refuse l D cy sz ad n S (-2)) tb_120 tb_122 tp_0 tb_1 tb_123 (nn := 1) (by decide +kernel) ⟨Nat.le_of_ble_eq_true rfl, Nat.le_of_ble_eq_true rfl⟩ rfl hl.1 rfl (Nat.le_of_ble_eq_true rfl) dX9_card_12 ⟨Nat.zero_le _, Nat.zero_le _⟩ (fun H locs G => ?_)
    exact q_iret E G (by unfold f_X9_card; simp only [if_neg h1, pr_eta]) dX9_card_15

def f_X9_uncard (S : SS) (x1 : Int32) : Int32 × SS := if wi x1 10 = true then (match S.2 1 0 x1.toNatClampNeg with | none => (f_X9_fail S 1) | some t3 => (f_X9_done (uI S 16 t3 1 0) 1)) else (f_X9_refuse S (-2))
set_option maxHeartbeats 4000000 in
set_option maxRecDepth 100000 in
theorem k_X9_uncard (l : Launch) (D : va_G) (cy : Nat → ClassId) (sz : Nat) (ad : Nat → Nat → Nat) (n : Nat) (S : SS) (ok : okC n S) (x1 : Int32) : CI l yX9_uncard cX9_uncard 3 (some .int) 2 42 [.ref (ad 0 0), .int x1] D cy sz ad n S (f_X9_uncard S x1) := by
  refine Met.enter (by decide) (Nat.le_of_ble_eq_true rfl) (fun p e s m args below meth c ls E G hl => ?_)
  have E : En p s m args meth c cX9_uncard 3 (some .int) RX9 D cy sz := E
  obtain ⟨hx, hb, hrt, hml, hown, hw, hlk, hK, hF, hsz⟩ := id E
  have hl : lv_has ls 3 [(0, .ref (ad 0 0)), (1, .int x1)] := hl
  refine lv_iload_n hx hb dX9_uncard_0 rfl (lv_at hl 1 rfl) ?_
  refine lv_bipush (v := 10) hx hb dX9_uncard_1 (by decide) ?_
  by_cases h1 : wi x1 10 = true
  · have v2 : vp_in x1 10 := wi_in h1 (by decide) (by decide)
    refine q_cSp E G [] (k_X9_isWithin_t l D cy sz ad n S x1 10 h1) tb_117 tb_118 tb_1 tb_119 (nn := 2) (by decide +kernel) ⟨Nat.le_of_ble_eq_true rfl, Nat.le_of_ble_eq_true rfl⟩ rfl hl.1 rfl (Nat.le_of_ble_eq_true rfl) dX9_uncard_3 ⟨Nat.zero_le _, Nat.zero_le _⟩ (fun H locs G => ?_)
    refine lv_if_ne (tgt := 16) hx hb dX9_uncard_6 (by decide) (fun _ => ?_) (fun h => absurd h (by decide))
    refine lv_aload_n hx hb dX9_uncard_16 rfl (lv_at hl 0 rfl) ?_
    refine q_get (index := 11) (ref := "ToolRoom") E G inX9 0 0 c0 sg_0 rfl 0 (by decide) tb_82 (Or.inl rfl) rfl dX9_uncard_17 ?_
    refine lv_iload_n hx hb dX9_uncard_20 rfl (lv_at hl 1 rfl) ?_
    refine q_aaldT E G 1 0 c1 sa_1 v2 dX9_uncard_21 (fun h3 => ?_) (fun t3 h3 => ?_)
    · refine lv_astore_nN (lv' := [(2, .null), (0, .ref (ad 0 0)), (1, .int x1)]) hx hb dX9_uncard_22 rfl hl (by decide) rfl (fun ls hl => ?_)
      refine lv_aload_nN hx hb dX9_uncard_23 rfl (lv_at hl 0 rfl) ?_
      refine lv_ifnonnullN hx hb dX9_uncard_24 ?_
      refine lv_aload_n hx hb dX9_uncard_27 rfl (lv_at hl 1 rfl) ?_
      refine lv_iconst (v := 1) hx hb dX9_uncard_28 (by decide) ?_
      refine q_cV (rest := []) E G 0 0 c0 sg_0 (C := RX9) (T := TX9) (N := 10) rfl (k_X9_fail l D cy sz ad n S 1 (by unfold vp_in; decide)) tb_227 tb_229 tp_2 tb_1 tb_230 (nn := 1) (by decide +kernel) ⟨Nat.le_of_ble_eq_true rfl, Nat.le_of_ble_eq_true rfl⟩ rfl hl.1 rfl (Nat.le_of_ble_eq_true rfl) dX9_uncard_29 ⟨Nat.zero_le _, Nat.zero_le _⟩ (fun H locs G => ?_)
      exact q_iret E G (by unfold f_X9_uncard; simp only [if_pos h1, h3, pr_eta]) dX9_uncard_32
    · have kt3 : t3 < n := ok.1 _ _ _ _ h3
      refine lv_astore_n (lv' := [(2, .ref (ad 16 t3)), (0, .ref (ad 0 0)), (1, .int x1)]) hx hb dX9_uncard_22 rfl hl (by decide) rfl (fun ls hl => ?_)
      refine lv_aload_n hx hb dX9_uncard_23 rfl (lv_at hl 0 rfl) ?_
      refine lv_ifnonnull (tgt := 33) hx hb dX9_uncard_24 (by decide) ?_
      refine lv_aload_n hx hb dX9_uncard_33 rfl (lv_at hl 0 rfl) ?_
      refine lv_iconst (v := 0) hx hb dX9_uncard_34 (by decide) ?_
      refine q_putT E G kt3 1 (by decide) rfl rfl rfl rfl tb_145 (Or.inl rfl) (ty := .boolean) (by decide +kernel) rfl rfl dX9_uncard_35 (fun H locs G => ?_)
      refine lv_aload_n hx hb dX9_uncard_38 rfl (lv_at hl 1 rfl) ?_
      refine lv_iconst (v := 1) hx hb dX9_uncard_39 (by decide) ?_
      refine q_cV (rest := []) E G 0 0 c0 sg_0 (C := RX9) (T := TX9) (N := 10) rfl (k_X9_done l D cy sz ad n (uI S 16 t3 1 0) 1) tb_192 tb_194 tp_1 tb_1 tb_195 (nn := 1) (by decide +kernel) ⟨Nat.le_of_ble_eq_true rfl, Nat.le_of_ble_eq_true rfl⟩ rfl hl.1 rfl (Nat.le_of_ble_eq_true rfl) dX9_uncard_40 ⟨Nat.zero_le _, Nat.zero_le _⟩ (fun H locs G => ?_)
      exact q_iret E G (by unfold f_X9_uncard; simp only [if_pos h1, h3, pr_eta]) dX9_uncard_43
  · refine q_cSp E G [] (k_X9_isWithin_f l D cy sz ad n S x1 10 h1) tb_117 tb_118 tb_1 tb_119 (nn := 2) (by decide +kernel) ⟨Nat.le_of_ble_eq_true rfl, Nat.le_of_ble_eq_true rfl⟩ rfl hl.1 rfl (Nat.le_of_ble_eq_true rfl) dX9_uncard_3 ⟨Nat.zero_le _, Nat.zero_le _⟩ (fun H locs G => ?_)
    refine lv_if_ne (tgt := 16) hx hb dX9_uncard_6 (by decide) (fun h => absurd h (by decide)) (fun _ => ?_)
    refine lv_aload_n hx hb dX9_uncard_9 rfl (lv_at hl 0 rfl) ?_
    refine lv_bipush (v := (-2)) hx hb dX9_uncard_10 (by decide) ?_
    refine q_cV (rest := []) E G 0 0 c0 sg_0 (C := RX9) (T := TX9) (N := 10) rfl (k_X9_refuse l D cy sz ad n S (-2)) tb_120 tb_122 tp_0 tb_1 tb_123 (nn := 1) (by decide +kernel) ⟨Nat.le_of_ble_eq_true rfl, Nat.le_of_ble_eq_true rfl⟩ rfl hl.1 rfl (Nat.le_of_ble_eq_true rfl) dX9_uncard_12 ⟨Nat.zero_le _, Nat.zero_le _⟩ (fun H locs G => ?_)
    exact q_iret E G (by unfold f_X9_uncard; simp only [if_neg h1, pr_eta]) dX9_uncard_15

def f_X9_rename (S : SS) (x1 : Int32) (x2 : Int32) : Int32 × SS := if wi x1 10 = true then (match S.2 1 0 x1.toNatClampNeg with | none => (f_X9_fail S 1) | some t3 => if (S.1 16 t3 1) = 0 then (f_X9_fail S 1) else (f_X9_done (uI S 16 t3 2 x2) 1)) else (f_X9_refuse S (-2))
set_option maxHeartbeats 4000000 in
set_option maxRecDepth 100000 in
theorem k_X9_rename (l : Launch) (D : va_G) (cy : Nat → ClassId) (sz : Nat) (ad : Nat → Nat → Nat) (n : Nat) (S : SS) (ok : okC n S) (x1 : Int32) (x2 : Int32) : CI l yX9_rename cX9_rename 4 (some .int) 2 42 [.ref (ad 0 0), .int x1, .int x2] D cy sz ad n S (f_X9_rename S x1 x2) := by
  refine Met.enter (by decide) (Nat.le_of_ble_eq_true rfl) (fun p e s m args below meth c ls E G hl => ?_)
  have E : En p s m args meth c cX9_rename 4 (some .int) RX9 D cy sz := E
  obtain ⟨hx, hb, hrt, hml, hown, hw, hlk, hK, hF, hsz⟩ := id E
  have hl : lv_has ls 4 [(0, .ref (ad 0 0)), (1, .int x1), (2, .int x2)] := hl
  refine lv_iload_n hx hb dX9_rename_0 rfl (lv_at hl 1 rfl) ?_
  refine lv_bipush (v := 10) hx hb dX9_rename_1 (by decide) ?_
  by_cases h1 : wi x1 10 = true
  · have v2 : vp_in x1 10 := wi_in h1 (by decide) (by decide)
    refine q_cSp E G [] (k_X9_isWithin_t l D cy sz ad n S x1 10 h1) tb_117 tb_118 tb_1 tb_119 (nn := 2) (by decide +kernel) ⟨Nat.le_of_ble_eq_true rfl, Nat.le_of_ble_eq_true rfl⟩ rfl hl.1 rfl (Nat.le_of_ble_eq_true rfl) dX9_rename_3 ⟨Nat.zero_le _, Nat.zero_le _⟩ (fun H locs G => ?_)
    refine lv_if_ne (tgt := 16) hx hb dX9_rename_6 (by decide) (fun _ => ?_) (fun h => absurd h (by decide))
    refine lv_aload_n hx hb dX9_rename_16 rfl (lv_at hl 0 rfl) ?_
    refine q_get (index := 11) (ref := "ToolRoom") E G inX9 0 0 c0 sg_0 rfl 0 (by decide) tb_82 (Or.inl rfl) rfl dX9_rename_17 ?_
    refine lv_iload_n hx hb dX9_rename_20 rfl (lv_at hl 1 rfl) ?_
    refine q_aaldT E G 1 0 c1 sa_1 v2 dX9_rename_21 (fun h3 => ?_) (fun t3 h3 => ?_)
    · refine lv_astore_nN (lv' := [(3, .null), (0, .ref (ad 0 0)), (1, .int x1), (2, .int x2)]) hx hb dX9_rename_22 rfl hl (by decide) rfl (fun ls hl => ?_)
      refine lv_aload_nN hx hb dX9_rename_23 rfl (lv_at hl 0 rfl) ?_
      refine lv_ifnullN (tgt := 34) hx hb dX9_rename_24 (by decide) ?_
      refine lv_aload_n hx hb dX9_rename_34 rfl (lv_at hl 1 rfl) ?_
      refine lv_iconst (v := 1) hx hb dX9_rename_35 (by decide) ?_
      refine q_cV (rest := []) E G 0 0 c0 sg_0 (C := RX9) (T := TX9) (N := 10) rfl (k_X9_fail l D cy sz ad n S 1 (by unfold vp_in; decide)) tb_227 tb_229 tp_2 tb_1 tb_230 (nn := 1) (by decide +kernel) ⟨Nat.le_of_ble_eq_true rfl, Nat.le_of_ble_eq_true rfl⟩ rfl hl.1 rfl (Nat.le_of_ble_eq_true rfl) dX9_rename_36 ⟨Nat.zero_le _, Nat.zero_le _⟩ (fun H locs G => ?_)
      exact q_iret E G (by unfold f_X9_rename; simp only [if_pos h1, h3, pr_eta]) dX9_rename_39
    · have kt3 : t3 < n := ok.1 _ _ _ _ h3
      refine lv_astore_n (lv' := [(3, .ref (ad 16 t3)), (0, .ref (ad 0 0)), (1, .int x1), (2, .int x2)]) hx hb dX9_rename_22 rfl hl (by decide) rfl (fun ls hl => ?_)
      refine lv_aload_n hx hb dX9_rename_23 rfl (lv_at hl 0 rfl) ?_
      refine lv_ifnull hx hb dX9_rename_24 ?_
      refine lv_aload_n hx hb dX9_rename_27 rfl (lv_at hl 0 rfl) ?_
      refine q_getT E G kt3 1 (by decide) rfl rfl rfl rfl tb_145 (Or.inl rfl) dX9_rename_28 ?_
      refine lv_if_ne (tgt := 40) hx hb dX9_rename_31 (by decide) (fun h4 => ?_) (fun h4 => ?_)
      · refine lv_aload_n hx hb dX9_rename_40 rfl (lv_at hl 0 rfl) ?_
        refine lv_iload_n hx hb dX9_rename_41 rfl (lv_at hl 3 rfl) ?_
        refine q_putT E G kt3 2 (by decide) rfl rfl rfl rfl tb_147 (Or.inl rfl) (ty := .int) (by decide +kernel) rfl rfl dX9_rename_42 (fun H locs G => ?_)
        refine lv_aload_n hx hb dX9_rename_45 rfl (lv_at hl 1 rfl) ?_
        refine lv_iconst (v := 1) hx hb dX9_rename_46 (by decide) ?_
        refine q_cV (rest := []) E G 0 0 c0 sg_0 (C := RX9) (T := TX9) (N := 10) rfl (k_X9_done l D cy sz ad n (uI S 16 t3 2 x2) 1) tb_192 tb_194 tp_1 tb_1 tb_195 (nn := 1) (by decide +kernel) ⟨Nat.le_of_ble_eq_true rfl, Nat.le_of_ble_eq_true rfl⟩ rfl hl.1 rfl (Nat.le_of_ble_eq_true rfl) dX9_rename_47 ⟨Nat.zero_le _, Nat.zero_le _⟩ (fun H locs G => ?_)
        exact q_iret E G (by unfold f_X9_rename; simp only [if_pos h1, h3, if_neg h4, pr_eta]) dX9_rename_50
      · refine lv_aload_n hx hb dX9_rename_34 rfl (lv_at hl 1 rfl) ?_
        refine lv_iconst (v := 1) hx hb dX9_rename_35 (by decide) ?_
        refine q_cV (rest := []) E G 0 0 c0 sg_0 (C := RX9) (T := TX9) (N := 10) rfl (k_X9_fail l D cy sz ad n S 1 (by unfold vp_in; decide)) tb_227 tb_229 tp_2 tb_1 tb_230 (nn := 1) (by decide +kernel) ⟨Nat.le_of_ble_eq_true rfl, Nat.le_of_ble_eq_true rfl⟩ rfl hl.1 rfl (Nat.le_of_ble_eq_true rfl) dX9_rename_36 ⟨Nat.zero_le _, Nat.zero_le _⟩ (fun H locs G => ?_)
        exact q_iret E G (by unfold f_X9_rename; simp only [if_pos h1, h3, if_pos h4, pr_eta]) dX9_rename_39
  · refine q_cSp E G [] (k_X9_isWithin_f l D cy sz ad n S x1 10 h1) tb_117 tb_118 tb_1 tb_119 (nn := 2) (by decide +kernel) ⟨Nat.le_of_ble_eq_true rfl, Nat.le_of_ble_eq_true rfl⟩ rfl hl.1 rfl (Nat.le_of_ble_eq_true rfl) dX9_rename_3 ⟨Nat.zero_le _, Nat.zero_le _⟩ (fun H locs G => ?_)
    refine lv_if_ne (tgt := 16) hx hb dX9_rename_6 (by decide) (fun h => absurd h (by decide)) (fun _ => ?_)
    refine lv_aload_n hx hb dX9_rename_9 rfl (lv_at hl 0 rfl) ?_
    refine lv_bipush (v := (-2)) hx hb dX9_rename_10 (by decide) ?_
    refine q_cV (rest := []) E G 0 0 c0 sg_0 (C := RX9) (T := TX9) (N := 10) rfl (k_X9_refuse l D cy sz ad n S (-2)) tb_120 tb_122 tp_0 tb_1 tb_123 (nn := 1) (by decide +kernel) ⟨Nat.le_of_ble_eq_true rfl, Nat.le_of_ble_eq_true rfl⟩ rfl hl.1 rfl (Nat.le_of_ble_eq_true rfl) dX9_rename_12 ⟨Nat.zero_le _, Nat.zero_le _⟩ (fun H locs G => ?_)
    exact q_iret E G (by unfold f_X9_rename; simp only [if_neg h1, pr_eta]) dX9_rename_15

def f_X9_of (S : SS) (x1 : Int32) (x2 : Int32) : Int32 × SS := if wi x1 10 = true then (if wi x2 4 = true then (match S.2 1 0 x1.toNatClampNeg with | none => (f_X9_failWithZero S 1) | some t5 => if x2 = 0 then (if (S.1 16 t5 1) = 0 then (f_X9_failWithZero S 1) else (f_X9_done S (S.1 16 t5 2))) else (if x2 = 1 then (f_X9_done S (S.1 16 t5 0)) else (if x2 = 2 then (f_X9_done S (vW S t5)) else (f_X9_edgeOf S t5)))) else (f_X9_refuseWithZero S (-3))) else (f_X9_refuseWithZero S (-2))
set_option maxHeartbeats 4000000 in
set_option maxRecDepth 100000 in
theorem k_X9_of (l : Launch) (D : va_G) (cy : Nat → ClassId) (sz : Nat) (ad : Nat → Nat → Nat) (n : Nat) (S : SS) (ok : okC n S) (x1 : Int32) (x2 : Int32) : CI l yX9_of cX9_of 4 (some .int) 4 85 [.ref (ad 0 0), .int x1, .int x2] D cy sz ad n S (f_X9_of S x1 x2) := by
  refine Met.enter (by decide) (Nat.le_of_ble_eq_true rfl) (fun p e s m args below meth c ls E G hl => ?_)
  have E : En p s m args meth c cX9_of 4 (some .int) RX9 D cy sz := E
  obtain ⟨hx, hb, hrt, hml, hown, hw, hlk, hK, hF, hsz⟩ := id E
  have hl : lv_has ls 4 [(0, .ref (ad 0 0)), (1, .int x1), (2, .int x2)] := hl
  refine lv_iload_n hx hb dX9_of_0 rfl (lv_at hl 1 rfl) ?_
  refine lv_bipush (v := 10) hx hb dX9_of_1 (by decide) ?_
  by_cases h1 : wi x1 10 = true
  · have v2 : vp_in x1 10 := wi_in h1 (by decide) (by decide)
    refine q_cSp E G [] (k_X9_isWithin_t l D cy sz ad n S x1 10 h1) tb_117 tb_118 tb_1 tb_119 (nn := 2) (by decide +kernel) ⟨Nat.le_of_ble_eq_true rfl, Nat.le_of_ble_eq_true rfl⟩ rfl hl.1 rfl (Nat.le_of_ble_eq_true rfl) dX9_of_3 ⟨Nat.zero_le _, Nat.zero_le _⟩ (fun H locs G => ?_)
    refine lv_if_ne (tgt := 16) hx hb dX9_of_6 (by decide) (fun _ => ?_) (fun h => absurd h (by decide))
    refine lv_iload_n hx hb dX9_of_16 rfl (lv_at hl 2 rfl) ?_
    refine lv_iconst (v := 4) hx hb dX9_of_17 (by decide) ?_
    by_cases h3 : wi x2 4 = true
    · have v4 : vp_in x2 4 := wi_in h3 (by decide) (by decide)
      refine q_cSp E G [] (k_X9_isWithin_t l D cy sz ad n S x2 4 h3) tb_117 tb_118 tb_1 tb_119 (nn := 2) (by decide +kernel) ⟨Nat.le_of_ble_eq_true rfl, Nat.le_of_ble_eq_true rfl⟩ rfl hl.1 rfl (Nat.le_of_ble_eq_true rfl) dX9_of_18 ⟨Nat.zero_le _, Nat.zero_le _⟩ (fun H locs G => ?_)
      refine lv_if_ne (tgt := 31) hx hb dX9_of_21 (by decide) (fun _ => ?_) (fun h => absurd h (by decide))
      refine lv_aload_n hx hb dX9_of_31 rfl (lv_at hl 0 rfl) ?_
      refine q_get (index := 11) (ref := "ToolRoom") E G inX9 0 0 c0 sg_0 rfl 0 (by decide) tb_82 (Or.inl rfl) rfl dX9_of_32 ?_
      refine lv_iload_n hx hb dX9_of_35 rfl (lv_at hl 1 rfl) ?_
      refine q_aaldT E G 1 0 c1 sa_1 v2 dX9_of_36 (fun h5 => ?_) (fun t5 h5 => ?_)
      · refine lv_astore_nN (lv' := [(3, .null), (0, .ref (ad 0 0)), (1, .int x1), (2, .int x2)]) hx hb dX9_of_37 rfl hl (by decide) rfl (fun ls hl => ?_)
        refine lv_aload_nN hx hb dX9_of_38 rfl (lv_at hl 0 rfl) ?_
        refine lv_ifnonnullN hx hb dX9_of_39 ?_
        refine lv_aload_n hx hb dX9_of_42 rfl (lv_at hl 1 rfl) ?_
        refine lv_iconst (v := 1) hx hb dX9_of_43 (by decide) ?_
        refine q_cV (rest := []) E G 0 0 c0 sg_0 (C := RX9) (T := TX9) (N := 10) rfl (k_X9_failWithZero l D cy sz ad n S 1 (by unfold vp_in; decide)) tb_247 tb_249 tp_4 tb_1 tb_250 (nn := 1) (by decide +kernel) ⟨Nat.le_of_ble_eq_true rfl, Nat.le_of_ble_eq_true rfl⟩ rfl hl.1 rfl (Nat.le_of_ble_eq_true rfl) dX9_of_44 ⟨Nat.zero_le _, Nat.zero_le _⟩ (fun H locs G => ?_)
        exact q_iret E G (by unfold f_X9_of; simp only [if_pos h1, if_pos h3, h5, pr_eta]) dX9_of_47
      · have kt5 : t5 < n := ok.1 _ _ _ _ h5
        refine lv_astore_n (lv' := [(3, .ref (ad 16 t5)), (0, .ref (ad 0 0)), (1, .int x1), (2, .int x2)]) hx hb dX9_of_37 rfl hl (by decide) rfl (fun ls hl => ?_)
        refine lv_aload_n hx hb dX9_of_38 rfl (lv_at hl 0 rfl) ?_
        refine lv_ifnonnull (tgt := 48) hx hb dX9_of_39 (by decide) ?_
        refine lv_iload_n hx hb dX9_of_48 rfl (lv_at hl 3 rfl) ?_
        refine q_tab3 (t0 := 76) (t1 := 100) (t2 := 109) (t3 := 118) hx hb dX9_of_49 (by decide) (by decide) (by decide) (by decide) (fun h6 => ?_) (fun h6 h7 => ?_) (fun h6 h7 h8 => ?_) (fun h6 h7 h8 => ?_)
        · refine lv_aload_n hx hb dX9_of_76 rfl (lv_at hl 0 rfl) ?_
          refine q_getT E G kt5 1 (by decide) rfl rfl rfl rfl tb_145 (Or.inl rfl) dX9_of_77 ?_
          refine lv_if_eq (tgt := 94) hx hb dX9_of_80 (by decide) (fun h9 => ?_) (fun h9 => ?_)
          · refine lv_aload_n hx hb dX9_of_94 rfl (lv_at hl 1 rfl) ?_
            refine lv_iconst (v := 1) hx hb dX9_of_95 (by decide) ?_
            refine q_cV (rest := []) E G 0 0 c0 sg_0 (C := RX9) (T := TX9) (N := 10) rfl (k_X9_failWithZero l D cy sz ad n S 1 (by unfold vp_in; decide)) tb_247 tb_249 tp_4 tb_1 tb_250 (nn := 1) (by decide +kernel) ⟨Nat.le_of_ble_eq_true rfl, Nat.le_of_ble_eq_true rfl⟩ rfl hl.1 rfl (Nat.le_of_ble_eq_true rfl) dX9_of_96 ⟨Nat.zero_le _, Nat.zero_le _⟩ (fun H locs G => ?_)
            exact q_iret E G (by unfold f_X9_of; simp only [if_pos h1, if_pos h3, h5, if_pos h6, if_pos h9, pr_eta]) dX9_of_99
          · refine lv_aload_n hx hb dX9_of_83 rfl (lv_at hl 1 rfl) ?_
            refine lv_aload_n hx hb dX9_of_84 rfl (lv_at hl 0 rfl) ?_
            refine q_getT E G kt5 2 (by decide) rfl rfl rfl rfl tb_147 (Or.inl rfl) dX9_of_85 ?_
            refine q_cV (rest := []) E G 0 0 c0 sg_0 (C := RX9) (T := TX9) (N := 10) rfl (k_X9_done l D cy sz ad n S (S.1 16 t5 2)) tb_192 tb_194 tp_1 tb_1 tb_195 (nn := 1) (by decide +kernel) ⟨Nat.le_of_ble_eq_true rfl, Nat.le_of_ble_eq_true rfl⟩ rfl hl.1 rfl (Nat.le_of_ble_eq_true rfl) dX9_of_88 ⟨Nat.zero_le _, Nat.zero_le _⟩ (fun H locs G => ?_)
            refine lv_goto (tgt := 99) hx hb dX9_of_91 (by decide) ?_
            exact q_iret E G (by unfold f_X9_of; simp only [if_pos h1, if_pos h3, h5, if_pos h6, if_neg h9, pr_eta]) dX9_of_99
        · refine lv_aload_n hx hb dX9_of_100 rfl (lv_at hl 1 rfl) ?_
          refine lv_aload_n hx hb dX9_of_101 rfl (lv_at hl 0 rfl) ?_
          refine q_getT E G kt5 0 (by decide) rfl rfl rfl rfl tb_143 (Or.inl rfl) dX9_of_102 ?_
          refine q_cV (rest := []) E G 0 0 c0 sg_0 (C := RX9) (T := TX9) (N := 10) rfl (k_X9_done l D cy sz ad n S (S.1 16 t5 0)) tb_192 tb_194 tp_1 tb_1 tb_195 (nn := 1) (by decide +kernel) ⟨Nat.le_of_ble_eq_true rfl, Nat.le_of_ble_eq_true rfl⟩ rfl hl.1 rfl (Nat.le_of_ble_eq_true rfl) dX9_of_105 ⟨Nat.zero_le _, Nat.zero_le _⟩ (fun H locs G => ?_)
          exact q_iret E G (by unfold f_X9_of; simp only [if_pos h1, if_pos h3, h5, if_neg h6, if_pos h7, pr_eta]) dX9_of_108
        · refine lv_aload_n hx hb dX9_of_109 rfl (lv_at hl 1 rfl) ?_
          refine lv_aload_n hx hb dX9_of_110 rfl (lv_at hl 0 rfl) ?_
          refine q_t_weight E G kt5 [.ref (ad 0 0)] ⟨Nat.le_of_ble_eq_true rfl, Nat.le_of_ble_eq_true rfl⟩ hl.1 rfl (Nat.le_of_ble_eq_true rfl) dX9_of_111 ⟨Nat.zero_le _, Nat.zero_le _⟩ (fun H locs G => ?_)
          refine q_cV (rest := []) E G 0 0 c0 sg_0 (C := RX9) (T := TX9) (N := 10) rfl (k_X9_done l D cy sz ad n S (vW S t5)) tb_192 tb_194 tp_1 tb_1 tb_195 (nn := 1) (by decide +kernel) ⟨Nat.le_of_ble_eq_true rfl, Nat.le_of_ble_eq_true rfl⟩ rfl hl.1 rfl (Nat.le_of_ble_eq_true rfl) dX9_of_114 ⟨Nat.zero_le _, Nat.zero_le _⟩ (fun H locs G => ?_)
          exact q_iret E G (by unfold f_X9_of; simp only [if_pos h1, if_pos h3, h5, if_neg h6, if_neg h7, if_pos h8, pr_eta]) dX9_of_117
        · refine lv_aload_n hx hb dX9_of_118 rfl (lv_at hl 1 rfl) ?_
          refine lv_aload_n hx hb dX9_of_119 rfl (lv_at hl 0 rfl) ?_
          refine q_cV (rest := []) E G 0 0 c0 sg_0 (C := RX9) (T := TX9) (N := 10) rfl (k_X9_edgeOf l D cy sz ad n S t5 kt5) tb_266 tb_268 tp_5 tb_1 tb_269 (nn := 1) (by decide +kernel) ⟨Nat.le_of_ble_eq_true rfl, Nat.le_of_ble_eq_true rfl⟩ rfl hl.1 rfl (Nat.le_of_ble_eq_true rfl) dX9_of_120 ⟨Nat.zero_le _, Nat.zero_le _⟩ (fun H locs G => ?_)
          exact q_iret E G (by unfold f_X9_of; simp only [if_pos h1, if_pos h3, h5, if_neg h6, if_neg h7, if_neg h8, pr_eta]) dX9_of_123
    · refine q_cSp E G [] (k_X9_isWithin_f l D cy sz ad n S x2 4 h3) tb_117 tb_118 tb_1 tb_119 (nn := 2) (by decide +kernel) ⟨Nat.le_of_ble_eq_true rfl, Nat.le_of_ble_eq_true rfl⟩ rfl hl.1 rfl (Nat.le_of_ble_eq_true rfl) dX9_of_18 ⟨Nat.zero_le _, Nat.zero_le _⟩ (fun H locs G => ?_)
      refine lv_if_ne (tgt := 31) hx hb dX9_of_21 (by decide) (fun h => absurd h (by decide)) (fun _ => ?_)
      refine lv_aload_n hx hb dX9_of_24 rfl (lv_at hl 0 rfl) ?_
      refine lv_bipush (v := (-3)) hx hb dX9_of_25 (by decide) ?_
      refine q_cV (rest := []) E G 0 0 c0 sg_0 (C := RX9) (T := TX9) (N := 10) rfl (k_X9_refuseWithZero l D cy sz ad n S (-3)) tb_243 tb_245 tp_3 tb_1 tb_246 (nn := 1) (by decide +kernel) ⟨Nat.le_of_ble_eq_true rfl, Nat.le_of_ble_eq_true rfl⟩ rfl hl.1 rfl (Nat.le_of_ble_eq_true rfl) dX9_of_27 ⟨Nat.zero_le _, Nat.zero_le _⟩ (fun H locs G => ?_)
      exact q_iret E G (by unfold f_X9_of; simp only [if_pos h1, if_neg h3, pr_eta]) dX9_of_30
  · refine q_cSp E G [] (k_X9_isWithin_f l D cy sz ad n S x1 10 h1) tb_117 tb_118 tb_1 tb_119 (nn := 2) (by decide +kernel) ⟨Nat.le_of_ble_eq_true rfl, Nat.le_of_ble_eq_true rfl⟩ rfl hl.1 rfl (Nat.le_of_ble_eq_true rfl) dX9_of_3 ⟨Nat.zero_le _, Nat.zero_le _⟩ (fun H locs G => ?_)
    refine lv_if_ne (tgt := 16) hx hb dX9_of_6 (by decide) (fun h => absurd h (by decide)) (fun _ => ?_)
    refine lv_aload_n hx hb dX9_of_9 rfl (lv_at hl 0 rfl) ?_
    refine lv_bipush (v := (-2)) hx hb dX9_of_10 (by decide) ?_
    refine q_cV (rest := []) E G 0 0 c0 sg_0 (C := RX9) (T := TX9) (N := 10) rfl (k_X9_refuseWithZero l D cy sz ad n S (-2)) tb_243 tb_245 tp_3 tb_1 tb_246 (nn := 1) (by decide +kernel) ⟨Nat.le_of_ble_eq_true rfl, Nat.le_of_ble_eq_true rfl⟩ rfl hl.1 rfl (Nat.le_of_ble_eq_true rfl) dX9_of_12 ⟨Nat.zero_le _, Nat.zero_le _⟩ (fun H locs G => ?_)
    exact q_iret E G (by unfold f_X9_of; simp only [if_neg h1, pr_eta]) dX9_of_15

def f_X9_hone (S : SS) (x1 : Int32) (x2 : Int32) : Int32 × SS := if wi x1 10 = true then (match S.2 1 0 x1.toNatClampNeg with | none => (f_X9_fail S 1) | some t3 => if (S.1 16 t3 4 = 1 ∨ S.1 16 t3 4 = 2) then (f_X9_done (uI S 16 t3 3 x2) 1) else (f_X9_fail S 4)) else (f_X9_refuse S (-2))
set_option maxHeartbeats 4000000 in
set_option maxRecDepth 100000 in
theorem k_X9_hone (l : Launch) (D : va_G) (cy : Nat → ClassId) (sz : Nat) (ad : Nat → Nat → Nat) (n : Nat) (S : SS) (ok : okC n S) (x1 : Int32) (x2 : Int32) : CI l yX9_hone cX9_hone 5 (some .int) 2 42 [.ref (ad 0 0), .int x1, .int x2] D cy sz ad n S (f_X9_hone S x1 x2) := by
  refine Met.enter (by decide) (Nat.le_of_ble_eq_true rfl) (fun p e s m args below meth c ls E G hl => ?_)
  have E : En p s m args meth c cX9_hone 5 (some .int) RX9 D cy sz := E
  obtain ⟨hx, hb, hrt, hml, hown, hw, hlk, hK, hF, hsz⟩ := id E
  have hl : lv_has ls 5 [(0, .ref (ad 0 0)), (1, .int x1), (2, .int x2)] := hl
  refine lv_iload_n hx hb dX9_hone_0 rfl (lv_at hl 1 rfl) ?_
  refine lv_bipush (v := 10) hx hb dX9_hone_1 (by decide) ?_
  by_cases h1 : wi x1 10 = true
  · have v2 : vp_in x1 10 := wi_in h1 (by decide) (by decide)
    refine q_cSp E G [] (k_X9_isWithin_t l D cy sz ad n S x1 10 h1) tb_117 tb_118 tb_1 tb_119 (nn := 2) (by decide +kernel) ⟨Nat.le_of_ble_eq_true rfl, Nat.le_of_ble_eq_true rfl⟩ rfl hl.1 rfl (Nat.le_of_ble_eq_true rfl) dX9_hone_3 ⟨Nat.zero_le _, Nat.zero_le _⟩ (fun H locs G => ?_)
    refine lv_if_ne (tgt := 16) hx hb dX9_hone_6 (by decide) (fun _ => ?_) (fun h => absurd h (by decide))
    refine lv_aload_n hx hb dX9_hone_16 rfl (lv_at hl 0 rfl) ?_
    refine q_get (index := 11) (ref := "ToolRoom") E G inX9 0 0 c0 sg_0 rfl 0 (by decide) tb_82 (Or.inl rfl) rfl dX9_hone_17 ?_
    refine lv_iload_n hx hb dX9_hone_20 rfl (lv_at hl 1 rfl) ?_
    refine q_aaldT E G 1 0 c1 sa_1 v2 dX9_hone_21 (fun h3 => ?_) (fun t3 h3 => ?_)
    · refine lv_astore_nN (lv' := [(3, .null), (0, .ref (ad 0 0)), (1, .int x1), (2, .int x2)]) hx hb dX9_hone_22 rfl hl (by decide) rfl (fun ls hl => ?_)
      refine lv_aload_nN hx hb dX9_hone_23 rfl (lv_at hl 0 rfl) ?_
      refine lv_ifnonnullN hx hb dX9_hone_24 ?_
      refine lv_aload_n hx hb dX9_hone_27 rfl (lv_at hl 1 rfl) ?_
      refine lv_iconst (v := 1) hx hb dX9_hone_28 (by decide) ?_
      refine q_cV (rest := []) E G 0 0 c0 sg_0 (C := RX9) (T := TX9) (N := 10) rfl (k_X9_fail l D cy sz ad n S 1 (by unfold vp_in; decide)) tb_227 tb_229 tp_2 tb_1 tb_230 (nn := 1) (by decide +kernel) ⟨Nat.le_of_ble_eq_true rfl, Nat.le_of_ble_eq_true rfl⟩ rfl hl.1 rfl (Nat.le_of_ble_eq_true rfl) dX9_hone_29 ⟨Nat.zero_le _, Nat.zero_le _⟩ (fun H locs G => ?_)
      exact q_iret E G (by unfold f_X9_hone; simp only [if_pos h1, h3, pr_eta]) dX9_hone_32
    · have kt3 : t3 < n := ok.1 _ _ _ _ h3
      refine lv_astore_n (lv' := [(3, .ref (ad 16 t3)), (0, .ref (ad 0 0)), (1, .int x1), (2, .int x2)]) hx hb dX9_hone_22 rfl hl (by decide) rfl (fun ls hl => ?_)
      refine lv_aload_n hx hb dX9_hone_23 rfl (lv_at hl 0 rfl) ?_
      refine lv_ifnonnull (tgt := 33) hx hb dX9_hone_24 (by decide) ?_
      refine lv_aload_n hx hb dX9_hone_33 rfl (lv_at hl 0 rfl) ?_
      refine q_instB E G kt3 tb_155 dX9_hone_34 (fun h4 => ?_) (fun h4 => ?_)
      · refine lv_if_eq (tgt := 58) hx hb dX9_hone_37 (by decide) (fun h => absurd h (by decide)) (fun _ => ?_)
        refine lv_aload_n hx hb dX9_hone_40 rfl (lv_at hl 0 rfl) ?_
        refine q_castB E G kt3 h4 tb_155 dX9_hone_41 ?_
        refine lv_astore (lv' := [(4, .ref (ad 16 t3)), (3, .ref (ad 16 t3)), (0, .ref (ad 0 0)), (1, .int x1), (2, .int x2)]) hx hb dX9_hone_44 hl (by decide) rfl (fun ls hl => ?_)
        refine lv_aload hx hb dX9_hone_46 (lv_at hl 0 rfl) ?_
        refine lv_iload_n hx hb dX9_hone_48 rfl (lv_at hl 4 rfl) ?_
        refine q_putE E G kt3 h4 tb_164 (Or.inl rfl) dX9_hone_49 (fun H locs G => ?_)
        refine lv_aload_n hx hb dX9_hone_52 rfl (lv_at hl 2 rfl) ?_
        refine lv_iconst (v := 1) hx hb dX9_hone_53 (by decide) ?_
        refine q_cV (rest := []) E G 0 0 c0 sg_0 (C := RX9) (T := TX9) (N := 10) rfl (k_X9_done l D cy sz ad n (uI S 16 t3 3 x2) 1) tb_192 tb_194 tp_1 tb_1 tb_195 (nn := 1) (by decide +kernel) ⟨Nat.le_of_ble_eq_true rfl, Nat.le_of_ble_eq_true rfl⟩ rfl hl.1 rfl (Nat.le_of_ble_eq_true rfl) dX9_hone_54 ⟨Nat.zero_le _, Nat.zero_le _⟩ (fun H locs G => ?_)
        exact q_iret E G (by unfold f_X9_hone; simp only [if_pos h1, h3, if_pos h4, pr_eta]) dX9_hone_57
      · refine lv_if_eq (tgt := 58) hx hb dX9_hone_37 (by decide) (fun _ => ?_) (fun h => absurd h (by decide))
        refine lv_aload_n hx hb dX9_hone_58 rfl (lv_at hl 1 rfl) ?_
        refine lv_iconst (v := 4) hx hb dX9_hone_59 (by decide) ?_
        refine q_cV (rest := []) E G 0 0 c0 sg_0 (C := RX9) (T := TX9) (N := 10) rfl (k_X9_fail l D cy sz ad n S 4 (by unfold vp_in; decide)) tb_227 tb_229 tp_2 tb_1 tb_230 (nn := 1) (by decide +kernel) ⟨Nat.le_of_ble_eq_true rfl, Nat.le_of_ble_eq_true rfl⟩ rfl hl.1 rfl (Nat.le_of_ble_eq_true rfl) dX9_hone_60 ⟨Nat.zero_le _, Nat.zero_le _⟩ (fun H locs G => ?_)
        exact q_iret E G (by unfold f_X9_hone; simp only [if_pos h1, h3, if_neg h4, pr_eta]) dX9_hone_63
  · refine q_cSp E G [] (k_X9_isWithin_f l D cy sz ad n S x1 10 h1) tb_117 tb_118 tb_1 tb_119 (nn := 2) (by decide +kernel) ⟨Nat.le_of_ble_eq_true rfl, Nat.le_of_ble_eq_true rfl⟩ rfl hl.1 rfl (Nat.le_of_ble_eq_true rfl) dX9_hone_3 ⟨Nat.zero_le _, Nat.zero_le _⟩ (fun H locs G => ?_)
    refine lv_if_ne (tgt := 16) hx hb dX9_hone_6 (by decide) (fun h => absurd h (by decide)) (fun _ => ?_)
    refine lv_aload_n hx hb dX9_hone_9 rfl (lv_at hl 0 rfl) ?_
    refine lv_bipush (v := (-2)) hx hb dX9_hone_10 (by decide) ?_
    refine q_cV (rest := []) E G 0 0 c0 sg_0 (C := RX9) (T := TX9) (N := 10) rfl (k_X9_refuse l D cy sz ad n S (-2)) tb_120 tb_122 tp_0 tb_1 tb_123 (nn := 1) (by decide +kernel) ⟨Nat.le_of_ble_eq_true rfl, Nat.le_of_ble_eq_true rfl⟩ rfl hl.1 rfl (Nat.le_of_ble_eq_true rfl) dX9_hone_12 ⟨Nat.zero_le _, Nat.zero_le _⟩ (fun H locs G => ?_)
    exact q_iret E G (by unfold f_X9_hone; simp only [if_neg h1, pr_eta]) dX9_hone_15

def f_X9_use (S : SS) (x1 : Int32) (x2 : Int32) : Int32 × SS := if wi x1 10 = true then (match S.2 1 0 x1.toNatClampNeg with | none => (f_X9_failWithZero S 1) | some t3 => (f_X9_done ((f_work (uI S 0 0 8 ((S.1 0 0 8) + 1)) t3 x2).2) ((f_work (uI S 0 0 8 ((S.1 0 0 8) + 1)) t3 x2).1))) else (f_X9_refuseWithZero S (-2))
set_option maxHeartbeats 4000000 in
set_option maxRecDepth 100000 in
theorem k_X9_use (l : Launch) (D : va_G) (cy : Nat → ClassId) (sz : Nat) (ad : Nat → Nat → Nat) (n : Nat) (S : SS) (ok : okC n S) (x1 : Int32) (x2 : Int32) : CI l yX9_use cX9_use 4 (some .int) 3 63 [.ref (ad 0 0), .int x1, .int x2] D cy sz ad n S (f_X9_use S x1 x2) := by
  refine Met.enter (by decide) (Nat.le_of_ble_eq_true rfl) (fun p e s m args below meth c ls E G hl => ?_)
  have E : En p s m args meth c cX9_use 4 (some .int) RX9 D cy sz := E
  obtain ⟨hx, hb, hrt, hml, hown, hw, hlk, hK, hF, hsz⟩ := id E
  have hl : lv_has ls 4 [(0, .ref (ad 0 0)), (1, .int x1), (2, .int x2)] := hl
  refine lv_iload_n hx hb dX9_use_0 rfl (lv_at hl 1 rfl) ?_
  refine lv_bipush (v := 10) hx hb dX9_use_1 (by decide) ?_
  by_cases h1 : wi x1 10 = true
  · have v2 : vp_in x1 10 := wi_in h1 (by decide) (by decide)
    refine q_cSp E G [] (k_X9_isWithin_t l D cy sz ad n S x1 10 h1) tb_117 tb_118 tb_1 tb_119 (nn := 2) (by decide +kernel) ⟨Nat.le_of_ble_eq_true rfl, Nat.le_of_ble_eq_true rfl⟩ rfl hl.1 rfl (Nat.le_of_ble_eq_true rfl) dX9_use_3 ⟨Nat.zero_le _, Nat.zero_le _⟩ (fun H locs G => ?_)
    refine lv_if_ne (tgt := 16) hx hb dX9_use_6 (by decide) (fun _ => ?_) (fun h => absurd h (by decide))
    refine lv_aload_n hx hb dX9_use_16 rfl (lv_at hl 0 rfl) ?_
    refine q_get (index := 11) (ref := "ToolRoom") E G inX9 0 0 c0 sg_0 rfl 0 (by decide) tb_82 (Or.inl rfl) rfl dX9_use_17 ?_
    refine lv_iload_n hx hb dX9_use_20 rfl (lv_at hl 1 rfl) ?_
    refine q_aaldT E G 1 0 c1 sa_1 v2 dX9_use_21 (fun h3 => ?_) (fun t3 h3 => ?_)
    · refine lv_astore_nN (lv' := [(3, .null), (0, .ref (ad 0 0)), (1, .int x1), (2, .int x2)]) hx hb dX9_use_22 rfl hl (by decide) rfl (fun ls hl => ?_)
      refine lv_aload_nN hx hb dX9_use_23 rfl (lv_at hl 0 rfl) ?_
      refine lv_ifnonnullN hx hb dX9_use_24 ?_
      refine lv_aload_n hx hb dX9_use_27 rfl (lv_at hl 1 rfl) ?_
      refine lv_iconst (v := 1) hx hb dX9_use_28 (by decide) ?_
      refine q_cV (rest := []) E G 0 0 c0 sg_0 (C := RX9) (T := TX9) (N := 10) rfl (k_X9_failWithZero l D cy sz ad n S 1 (by unfold vp_in; decide)) tb_247 tb_249 tp_4 tb_1 tb_250 (nn := 1) (by decide +kernel) ⟨Nat.le_of_ble_eq_true rfl, Nat.le_of_ble_eq_true rfl⟩ rfl hl.1 rfl (Nat.le_of_ble_eq_true rfl) dX9_use_29 ⟨Nat.zero_le _, Nat.zero_le _⟩ (fun H locs G => ?_)
      exact q_iret E G (by unfold f_X9_use; simp only [if_pos h1, h3, pr_eta]) dX9_use_32
    · have kt3 : t3 < n := ok.1 _ _ _ _ h3
      refine lv_astore_n (lv' := [(3, .ref (ad 16 t3)), (0, .ref (ad 0 0)), (1, .int x1), (2, .int x2)]) hx hb dX9_use_22 rfl hl (by decide) rfl (fun ls hl => ?_)
      refine lv_aload_n hx hb dX9_use_23 rfl (lv_at hl 0 rfl) ?_
      refine lv_ifnonnull (tgt := 33) hx hb dX9_use_24 (by decide) ?_
      refine lv_aload_n hx hb dX9_use_33 rfl (lv_at hl 1 rfl) ?_
      refine lv_dup hx hb dX9_use_34 rfl ?_
      refine q_get (index := 48) (ref := "ToolRoom") E G inX9 0 0 c0 sg_0 rfl 8 (by decide) tb_90 (Or.inl rfl) rfl dX9_use_35 ?_
      refine lv_iconst (v := 1) hx hb dX9_use_38 (by decide) ?_
      refine lv_iadd hx hb dX9_use_39 ?_
      refine q_put (index := 48) (ref := "ToolRoom") E G inX9 tyX9 tyX9_ok nmX9 0 0 c0 8 sg_0 rfl 8 (by decide) tb_90 (Or.inl rfl) rfl (ty := .int) (by decide +kernel) rfl rfl (Nat.le_of_ble_eq_true rfl) sp_0_8 dX9_use_40 (fun H locs G => ?_)
      refine lv_aload_n hx hb dX9_use_43 rfl (lv_at hl 1 rfl) ?_
      refine lv_aload_n hx hb dX9_use_44 rfl (lv_at hl 0 rfl) ?_
      refine lv_iload_n hx hb dX9_use_45 rfl (lv_at hl 3 rfl) ?_
      refine q_t_work E G kt3 [.ref (ad 0 0)] ⟨Nat.le_of_ble_eq_true rfl, Nat.le_of_ble_eq_true rfl⟩ hl.1 rfl (Nat.le_of_ble_eq_true rfl) dX9_use_46 ⟨Nat.zero_le _, Nat.zero_le _⟩ (fun H locs G => ?_)
      refine q_cV (rest := []) E G 0 0 c0 sg_0 (C := RX9) (T := TX9) (N := 10) rfl (k_X9_done l D cy sz ad n ((f_work (uI S 0 0 8 ((S.1 0 0 8) + 1)) t3 x2).2) ((f_work (uI S 0 0 8 ((S.1 0 0 8) + 1)) t3 x2).1)) tb_192 tb_194 tp_1 tb_1 tb_195 (nn := 1) (by decide +kernel) ⟨Nat.le_of_ble_eq_true rfl, Nat.le_of_ble_eq_true rfl⟩ rfl hl.1 rfl (Nat.le_of_ble_eq_true rfl) dX9_use_49 ⟨Nat.zero_le _, Nat.zero_le _⟩ (fun H locs G => ?_)
      exact q_iret E G (by unfold f_X9_use; simp only [if_pos h1, h3, pr_eta]) dX9_use_52
  · refine q_cSp E G [] (k_X9_isWithin_f l D cy sz ad n S x1 10 h1) tb_117 tb_118 tb_1 tb_119 (nn := 2) (by decide +kernel) ⟨Nat.le_of_ble_eq_true rfl, Nat.le_of_ble_eq_true rfl⟩ rfl hl.1 rfl (Nat.le_of_ble_eq_true rfl) dX9_use_3 ⟨Nat.zero_le _, Nat.zero_le _⟩ (fun H locs G => ?_)
    refine lv_if_ne (tgt := 16) hx hb dX9_use_6 (by decide) (fun h => absurd h (by decide)) (fun _ => ?_)
    refine lv_aload_n hx hb dX9_use_9 rfl (lv_at hl 0 rfl) ?_
    refine lv_bipush (v := (-2)) hx hb dX9_use_10 (by decide) ?_
    refine q_cV (rest := []) E G 0 0 c0 sg_0 (C := RX9) (T := TX9) (N := 10) rfl (k_X9_refuseWithZero l D cy sz ad n S (-2)) tb_243 tb_245 tp_3 tb_1 tb_246 (nn := 1) (by decide +kernel) ⟨Nat.le_of_ble_eq_true rfl, Nat.le_of_ble_eq_true rfl⟩ rfl hl.1 rfl (Nat.le_of_ble_eq_true rfl) dX9_use_12 ⟨Nat.zero_le _, Nat.zero_le _⟩ (fun H locs G => ?_)
    exact q_iret E G (by unfold f_X9_use; simp only [if_neg h1, pr_eta]) dX9_use_15

def f_X9_tray (S : SS) (x1 : Int32) (x2 : Int32) : Int32 × SS := if wi x1 4 = true then (if x2 ≤ 20 then (if 0 ≤ x2 then (f_X9_done (f_row8 S x1.toNatClampNeg x2) x2) else (f_X9_fail S 3)) else (f_X9_refuse S (-3))) else (f_X9_refuse S (-2))
set_option maxHeartbeats 4000000 in
set_option maxRecDepth 100000 in
theorem k_X9_tray (l : Launch) (D : va_G) (cy : Nat → ClassId) (sz : Nat) (ad : Nat → Nat → Nat) (n : Nat) (S : SS) (ok : okC n S) (x1 : Int32) (x2 : Int32) : CI l yX9_tray cX9_tray 3 (some .int) 2 42 [.ref (ad 0 0), .int x1, .int x2] D cy sz ad n S (f_X9_tray S x1 x2) := by
  refine Met.enter (by decide) (Nat.le_of_ble_eq_true rfl) (fun p e s m args below meth c ls E G hl => ?_)
  have E : En p s m args meth c cX9_tray 3 (some .int) RX9 D cy sz := E
  obtain ⟨hx, hb, hrt, hml, hown, hw, hlk, hK, hF, hsz⟩ := id E
  have hl : lv_has ls 3 [(0, .ref (ad 0 0)), (1, .int x1), (2, .int x2)] := hl
  refine lv_iload_n hx hb dX9_tray_0 rfl (lv_at hl 1 rfl) ?_
  refine lv_iconst (v := 4) hx hb dX9_tray_1 (by decide) ?_
  by_cases h1 : wi x1 4 = true
  · have v2 : vp_in x1 4 := wi_in h1 (by decide) (by decide)
    refine q_cSp E G [] (k_X9_isWithin_t l D cy sz ad n S x1 4 h1) tb_117 tb_118 tb_1 tb_119 (nn := 2) (by decide +kernel) ⟨Nat.le_of_ble_eq_true rfl, Nat.le_of_ble_eq_true rfl⟩ rfl hl.1 rfl (Nat.le_of_ble_eq_true rfl) dX9_tray_2 ⟨Nat.zero_le _, Nat.zero_le _⟩ (fun H locs G => ?_)
    refine lv_if_ne (tgt := 15) hx hb dX9_tray_5 (by decide) (fun _ => ?_) (fun h => absurd h (by decide))
    refine lv_iload_n hx hb dX9_tray_15 rfl (lv_at hl 2 rfl) ?_
    refine lv_bipush (v := 20) hx hb dX9_tray_16 (by decide) ?_
    refine lv_icmp_le (tgt := 28) hx hb dX9_tray_18 (by decide) (fun h3 => ?_) (fun h3 => ?_)
    · refine lv_iload_n hx hb dX9_tray_28 rfl (lv_at hl 2 rfl) ?_
      refine lv_if_ge (tgt := 38) hx hb dX9_tray_29 (by decide) (fun h4 => ?_) (fun h4 => ?_)
      · refine lv_aload_n hx hb dX9_tray_38 rfl (lv_at hl 0 rfl) ?_
        refine q_get (index := 17) (ref := "ToolRoom") E G inX9 0 0 c0 sg_0 rfl 1 (by decide) tb_83 (Or.inl rfl) rfl dX9_tray_39 ?_
        refine lv_iload_n hx hb dX9_tray_42 rfl (lv_at hl 1 rfl) ?_
        refine q_aald (C := "ToolRoom$Row") E G 2 0 c2 sa_2 3 rfl v2 dX9_tray_43 ?_
        refine lv_iload_n hx hb dX9_tray_44 rfl (lv_at hl 2 rfl) ?_
        refine q_cVv (rest := []) E G 8 x1.toNatClampNeg (c8 (vp_lt v2)) sg_8 (C := RX7) (T := TX7) (N := 2) rfl (k_X7_renew_8 l D cy sz ad n S x1.toNatClampNeg (vp_lt v2) x2) tb_316 tb_317 tb_318 tb_3 tb_319 (nn := 1) (by decide +kernel) ⟨Nat.le_of_ble_eq_true rfl, Nat.le_of_ble_eq_true rfl⟩ rfl hl.1 rfl (Nat.le_of_ble_eq_true rfl) dX9_tray_45 ⟨Nat.zero_le _, Nat.zero_le _⟩ (fun H locs G => ?_)
        refine lv_aload_n hx hb dX9_tray_48 rfl (lv_at hl 0 rfl) ?_
        refine lv_iload_n hx hb dX9_tray_49 rfl (lv_at hl 2 rfl) ?_
        refine q_cV (rest := []) E G 0 0 c0 sg_0 (C := RX9) (T := TX9) (N := 10) rfl (k_X9_done l D cy sz ad n (f_row8 S x1.toNatClampNeg x2) x2) tb_192 tb_194 tp_1 tb_1 tb_195 (nn := 1) (by decide +kernel) ⟨Nat.le_of_ble_eq_true rfl, Nat.le_of_ble_eq_true rfl⟩ rfl hl.1 rfl (Nat.le_of_ble_eq_true rfl) dX9_tray_50 ⟨Nat.zero_le _, Nat.zero_le _⟩ (fun H locs G => ?_)
        exact q_iret E G (by unfold f_X9_tray; simp only [if_pos h1, if_pos h3, if_pos h4, pr_eta]) dX9_tray_53
      · refine lv_aload_n hx hb dX9_tray_32 rfl (lv_at hl 0 rfl) ?_
        refine lv_iconst (v := 3) hx hb dX9_tray_33 (by decide) ?_
        refine q_cV (rest := []) E G 0 0 c0 sg_0 (C := RX9) (T := TX9) (N := 10) rfl (k_X9_fail l D cy sz ad n S 3 (by unfold vp_in; decide)) tb_227 tb_229 tp_2 tb_1 tb_230 (nn := 1) (by decide +kernel) ⟨Nat.le_of_ble_eq_true rfl, Nat.le_of_ble_eq_true rfl⟩ rfl hl.1 rfl (Nat.le_of_ble_eq_true rfl) dX9_tray_34 ⟨Nat.zero_le _, Nat.zero_le _⟩ (fun H locs G => ?_)
        exact q_iret E G (by unfold f_X9_tray; simp only [if_pos h1, if_pos h3, if_neg h4, pr_eta]) dX9_tray_37
    · refine lv_aload_n hx hb dX9_tray_21 rfl (lv_at hl 0 rfl) ?_
      refine lv_bipush (v := (-3)) hx hb dX9_tray_22 (by decide) ?_
      refine q_cV (rest := []) E G 0 0 c0 sg_0 (C := RX9) (T := TX9) (N := 10) rfl (k_X9_refuse l D cy sz ad n S (-3)) tb_120 tb_122 tp_0 tb_1 tb_123 (nn := 1) (by decide +kernel) ⟨Nat.le_of_ble_eq_true rfl, Nat.le_of_ble_eq_true rfl⟩ rfl hl.1 rfl (Nat.le_of_ble_eq_true rfl) dX9_tray_24 ⟨Nat.zero_le _, Nat.zero_le _⟩ (fun H locs G => ?_)
      exact q_iret E G (by unfold f_X9_tray; simp only [if_pos h1, if_neg h3, pr_eta]) dX9_tray_27
  · refine q_cSp E G [] (k_X9_isWithin_f l D cy sz ad n S x1 4 h1) tb_117 tb_118 tb_1 tb_119 (nn := 2) (by decide +kernel) ⟨Nat.le_of_ble_eq_true rfl, Nat.le_of_ble_eq_true rfl⟩ rfl hl.1 rfl (Nat.le_of_ble_eq_true rfl) dX9_tray_2 ⟨Nat.zero_le _, Nat.zero_le _⟩ (fun H locs G => ?_)
    refine lv_if_ne (tgt := 15) hx hb dX9_tray_5 (by decide) (fun h => absurd h (by decide)) (fun _ => ?_)
    refine lv_aload_n hx hb dX9_tray_8 rfl (lv_at hl 0 rfl) ?_
    refine lv_bipush (v := (-2)) hx hb dX9_tray_9 (by decide) ?_
    refine q_cV (rest := []) E G 0 0 c0 sg_0 (C := RX9) (T := TX9) (N := 10) rfl (k_X9_refuse l D cy sz ad n S (-2)) tb_120 tb_122 tp_0 tb_1 tb_123 (nn := 1) (by decide +kernel) ⟨Nat.le_of_ble_eq_true rfl, Nat.le_of_ble_eq_true rfl⟩ rfl hl.1 rfl (Nat.le_of_ble_eq_true rfl) dX9_tray_11 ⟨Nat.zero_le _, Nat.zero_le _⟩ (fun H locs G => ?_)
    exact q_iret E G (by unfold f_X9_tray; simp only [if_neg h1, pr_eta]) dX9_tray_14

def f_X9_lose (S : SS) (x1 : Int32) (x2 : Int32) : Int32 × SS := if wi x1 3 = true then (match hon x1 x2 with | none => (f_X9_refuse S (-2)) | some x => if (f_X5_vanish S x.1 x.2).1 = 0 then (f_X9_done ((f_X5_vanish S x.1 x.2).2) 0) else (f_X9_done ((f_X5_vanish S x.1 x.2).2) 1)) else (f_X9_refuse S (-3))
set_option maxHeartbeats 4000000 in
set_option maxRecDepth 100000 in
theorem k_X9_lose (l : Launch) (D : va_G) (cy : Nat → ClassId) (sz : Nat) (ad : Nat → Nat → Nat) (n : Nat) (S : SS) (ok : okC n S) (x1 : Int32) (x2 : Int32) : CI l yX9_lose cX9_lose 4 (some .int) 2 43 [.ref (ad 0 0), .int x1, .int x2] D cy sz ad n S (f_X9_lose S x1 x2) := by
  refine Met.enter (by decide) (Nat.le_of_ble_eq_true rfl) (fun p e s m args below meth c ls E G hl => ?_)
  have E : En p s m args meth c cX9_lose 4 (some .int) RX9 D cy sz := E
  obtain ⟨hx, hb, hrt, hml, hown, hw, hlk, hK, hF, hsz⟩ := id E
  have hl : lv_has ls 4 [(0, .ref (ad 0 0)), (1, .int x1), (2, .int x2)] := hl
  refine lv_iload_n hx hb dX9_lose_0 rfl (lv_at hl 1 rfl) ?_
  refine lv_iconst (v := 3) hx hb dX9_lose_1 (by decide) ?_
  by_cases h1 : wi x1 3 = true
  · have v2 : vp_in x1 3 := wi_in h1 (by decide) (by decide)
    refine q_cSp E G [] (k_X9_isWithin_t l D cy sz ad n S x1 3 h1) tb_117 tb_118 tb_1 tb_119 (nn := 2) (by decide +kernel) ⟨Nat.le_of_ble_eq_true rfl, Nat.le_of_ble_eq_true rfl⟩ rfl hl.1 rfl (Nat.le_of_ble_eq_true rfl) dX9_lose_2 ⟨Nat.zero_le _, Nat.zero_le _⟩ (fun H locs G => ?_)
    refine lv_if_ne (tgt := 15) hx hb dX9_lose_5 (by decide) (fun _ => ?_) (fun h => absurd h (by decide))
    refine lv_aload_n hx hb dX9_lose_15 rfl (lv_at hl 0 rfl) ?_
    refine lv_iload_n hx hb dX9_lose_16 rfl (lv_at hl 1 rfl) ?_
    refine lv_iload_n hx hb dX9_lose_17 rfl (lv_at hl 2 rfl) ?_
    refine q_cVq (rest := []) E G 0 0 c0 rfl (C := RX9) (T := TX9) (N := 10) rfl (k_X9_holderOrNull l D cy sz ad n S x1 x2) tb_324 tb_326 tp_7 tb_1 tb_327 (nn := 2) (by decide +kernel) ⟨Nat.le_of_ble_eq_true rfl, Nat.le_of_ble_eq_true rfl⟩ rfl hl.1 rfl (Nat.le_of_ble_eq_true rfl) dX9_lose_18 ⟨Nat.zero_le _, Nat.zero_le _⟩ (fun h3 H locs G => ?_) (fun x h3 H locs G => ?_)
    · refine lv_astore_nN (lv' := [(3, .null), (0, .ref (ad 0 0)), (1, .int x1), (2, .int x2)]) hx hb dX9_lose_21 rfl hl (by decide) rfl (fun ls hl => ?_)
      refine lv_aload_nN hx hb dX9_lose_22 rfl (lv_at hl 0 rfl) ?_
      refine lv_ifnonnullN hx hb dX9_lose_23 ?_
      refine lv_aload_n hx hb dX9_lose_26 rfl (lv_at hl 1 rfl) ?_
      refine lv_bipush (v := (-2)) hx hb dX9_lose_27 (by decide) ?_
      refine q_cV (rest := []) E G 0 0 c0 sg_0 (C := RX9) (T := TX9) (N := 10) rfl (k_X9_refuse l D cy sz ad n S (-2)) tb_120 tb_122 tp_0 tb_1 tb_123 (nn := 1) (by decide +kernel) ⟨Nat.le_of_ble_eq_true rfl, Nat.le_of_ble_eq_true rfl⟩ rfl hl.1 rfl (Nat.le_of_ble_eq_true rfl) dX9_lose_29 ⟨Nat.zero_le _, Nat.zero_le _⟩ (fun H locs G => ?_)
      exact q_iret E G (by unfold f_X9_lose; simp only [if_pos h1, h3, pr_eta]) dX9_lose_32
    · obtain ⟨hfx, hix⟩ := hon_ok n h3
      refine lv_astore_n (lv' := [(3, .ref (ad x.1 x.2)), (0, .ref (ad 0 0)), (1, .int x1), (2, .int x2)]) hx hb dX9_lose_21 rfl hl (by decide) rfl (fun ls hl => ?_)
      refine lv_aload_n hx hb dX9_lose_22 rfl (lv_at hl 0 rfl) ?_
      refine lv_ifnonnull (tgt := 33) hx hb dX9_lose_23 (by decide) ?_
      refine lv_aload_n hx hb dX9_lose_33 rfl (lv_at hl 1 rfl) ?_
      refine lv_aload_n hx hb dX9_lose_34 rfl (lv_at hl 0 rfl) ?_
      refine q_cH (x := yX5_vanish) (rest := [.ref (ad 0 0)]) E G x.1 x.2 hfx hix (k_X5_vanish l D cy sz ad n S x.1 x.2 hfx hix) tb_328 tb_330 tb_331 tb_332 tb_333 tb_329 tb_2 tb_334 rfl (nn := 0) (by decide +kernel) ⟨Nat.le_of_ble_eq_true rfl, Nat.le_of_ble_eq_true rfl⟩ rfl hl.1 rfl (Nat.le_of_ble_eq_true rfl) dX9_lose_35 ⟨Nat.zero_le _, Nat.zero_le _⟩ (fun H locs G => ?_)
      refine lv_if_eq (tgt := 45) hx hb dX9_lose_38 (by decide) (fun h4 => ?_) (fun h4 => ?_)
      · refine lv_iconst (v := 0) hx hb dX9_lose_45 (by decide) ?_
        refine q_cV (rest := []) E G 0 0 c0 sg_0 (C := RX9) (T := TX9) (N := 10) rfl (k_X9_done l D cy sz ad n ((f_X5_vanish S x.1 x.2).2) 0) tb_192 tb_194 tp_1 tb_1 tb_195 (nn := 1) (by decide +kernel) ⟨Nat.le_of_ble_eq_true rfl, Nat.le_of_ble_eq_true rfl⟩ rfl hl.1 rfl (Nat.le_of_ble_eq_true rfl) dX9_lose_46 ⟨Nat.zero_le _, Nat.zero_le _⟩ (fun H locs G => ?_)
        exact q_iret E G (by unfold f_X9_lose; simp only [if_pos h1, h3, if_pos h4, pr_eta]) dX9_lose_49
      · refine lv_iconst (v := 1) hx hb dX9_lose_41 (by decide) ?_
        refine lv_goto (tgt := 46) hx hb dX9_lose_42 (by decide) ?_
        refine q_cV (rest := []) E G 0 0 c0 sg_0 (C := RX9) (T := TX9) (N := 10) rfl (k_X9_done l D cy sz ad n ((f_X5_vanish S x.1 x.2).2) 1) tb_192 tb_194 tp_1 tb_1 tb_195 (nn := 1) (by decide +kernel) ⟨Nat.le_of_ble_eq_true rfl, Nat.le_of_ble_eq_true rfl⟩ rfl hl.1 rfl (Nat.le_of_ble_eq_true rfl) dX9_lose_46 ⟨Nat.zero_le _, Nat.zero_le _⟩ (fun H locs G => ?_)
        exact q_iret E G (by unfold f_X9_lose; simp only [if_pos h1, h3, if_neg h4, pr_eta]) dX9_lose_49
  · refine q_cSp E G [] (k_X9_isWithin_f l D cy sz ad n S x1 3 h1) tb_117 tb_118 tb_1 tb_119 (nn := 2) (by decide +kernel) ⟨Nat.le_of_ble_eq_true rfl, Nat.le_of_ble_eq_true rfl⟩ rfl hl.1 rfl (Nat.le_of_ble_eq_true rfl) dX9_lose_2 ⟨Nat.zero_le _, Nat.zero_le _⟩ (fun H locs G => ?_)
    refine lv_if_ne (tgt := 15) hx hb dX9_lose_5 (by decide) (fun h => absurd h (by decide)) (fun _ => ?_)
    refine lv_aload_n hx hb dX9_lose_8 rfl (lv_at hl 0 rfl) ?_
    refine lv_bipush (v := (-3)) hx hb dX9_lose_9 (by decide) ?_
    refine q_cV (rest := []) E G 0 0 c0 sg_0 (C := RX9) (T := TX9) (N := 10) rfl (k_X9_refuse l D cy sz ad n S (-3)) tb_120 tb_122 tp_0 tb_1 tb_123 (nn := 1) (by decide +kernel) ⟨Nat.le_of_ble_eq_true rfl, Nat.le_of_ble_eq_true rfl⟩ rfl hl.1 rfl (Nat.le_of_ble_eq_true rfl) dX9_lose_11 ⟨Nat.zero_le _, Nat.zero_le _⟩ (fun H locs G => ?_)
    exact q_iret E G (by unfold f_X9_lose; simp only [if_neg h1, pr_eta]) dX9_lose_14

def f_X9_put (S : SS) (x1 : Int32) (x2 : Int32) (x3 : Int32) : Int32 × SS := if wi x1 4 = true then (if (pA S 8 x1.toNatClampNeg x2) = 0 then (f_X9_done (uI S 9 x1.toNatClampNeg x2.toNatClampNeg x3) 1) else (f_X9_fail S (pA S 8 x1.toNatClampNeg x2))) else (f_X9_refuse S (-2))
set_option maxHeartbeats 4000000 in
set_option maxRecDepth 100000 in
theorem k_X9_put (l : Launch) (D : va_G) (cy : Nat → ClassId) (sz : Nat) (ad : Nat → Nat → Nat) (n : Nat) (S : SS) (ok : okC n S) (x1 : Int32) (x2 : Int32) (x3 : Int32) : CI l yX9_put cX9_put 6 (some .int) 2 42 [.ref (ad 0 0), .int x1, .int x2, .int x3] D cy sz ad n S (f_X9_put S x1 x2 x3) := by
  refine Met.enter (by decide) (Nat.le_of_ble_eq_true rfl) (fun p e s m args below meth c ls E G hl => ?_)
  have E : En p s m args meth c cX9_put 6 (some .int) RX9 D cy sz := E
  obtain ⟨hx, hb, hrt, hml, hown, hw, hlk, hK, hF, hsz⟩ := id E
  have hl : lv_has ls 6 [(0, .ref (ad 0 0)), (1, .int x1), (2, .int x2), (3, .int x3)] := hl
  refine lv_iload_n hx hb dX9_put_0 rfl (lv_at hl 1 rfl) ?_
  refine lv_iconst (v := 4) hx hb dX9_put_1 (by decide) ?_
  by_cases h1 : wi x1 4 = true
  · have v2 : vp_in x1 4 := wi_in h1 (by decide) (by decide)
    refine q_cSp E G [] (k_X9_isWithin_t l D cy sz ad n S x1 4 h1) tb_117 tb_118 tb_1 tb_119 (nn := 2) (by decide +kernel) ⟨Nat.le_of_ble_eq_true rfl, Nat.le_of_ble_eq_true rfl⟩ rfl hl.1 rfl (Nat.le_of_ble_eq_true rfl) dX9_put_2 ⟨Nat.zero_le _, Nat.zero_le _⟩ (fun H locs G => ?_)
    refine lv_if_ne (tgt := 15) hx hb dX9_put_5 (by decide) (fun _ => ?_) (fun h => absurd h (by decide))
    refine lv_aload_n hx hb dX9_put_15 rfl (lv_at hl 0 rfl) ?_
    refine q_get (index := 17) (ref := "ToolRoom") E G inX9 0 0 c0 sg_0 rfl 1 (by decide) tb_83 (Or.inl rfl) rfl dX9_put_16 ?_
    refine lv_iload_n hx hb dX9_put_19 rfl (lv_at hl 1 rfl) ?_
    refine q_aald (C := "ToolRoom$Row") E G 2 0 c2 sa_2 3 rfl v2 dX9_put_20 ?_
    refine lv_astore (lv' := [(4, .ref (ad 8 x1.toNatClampNeg)), (0, .ref (ad 0 0)), (1, .int x1), (2, .int x2), (3, .int x3)]) hx hb dX9_put_21 hl (by decide) rfl (fun ls hl => ?_)
    refine lv_aload hx hb dX9_put_23 (lv_at hl 0 rfl) ?_
    refine lv_iload_n hx hb dX9_put_25 rfl (lv_at hl 3 rfl) ?_
    refine q_cSp E G [] (k_X9_failureAt l D cy sz ad n S 8 x1.toNatClampNeg (Or.inl rfl) (c8 (vp_lt v2)) x2) tb_302 tb_303 tb_1 tb_304 (nn := 2) (by decide +kernel) ⟨Nat.le_of_ble_eq_true rfl, Nat.le_of_ble_eq_true rfl⟩ rfl hl.1 rfl (Nat.le_of_ble_eq_true rfl) dX9_put_26 ⟨Nat.zero_le _, Nat.zero_le _⟩ (fun H locs G => ?_)
    refine lv_istore (lv' := [(5, .int (pA S 8 x1.toNatClampNeg x2)), (4, .ref (ad 8 x1.toNatClampNeg)), (0, .ref (ad 0 0)), (1, .int x1), (2, .int x2), (3, .int x3)]) hx hb dX9_put_29 hl (by decide) rfl (fun ls hl => ?_)
    refine lv_iload hx hb dX9_put_31 (lv_at hl 0 rfl) ?_
    refine lv_if_eq (tgt := 43) hx hb dX9_put_33 (by decide) (fun h3 => ?_) (fun h3 => ?_)
    · have v4 : vp_in x2 20 := wi_le (pA_0 h3) (ok.2.1 _ (vp_lt v2)) (by decide)
      refine lv_aload hx hb dX9_put_43 (lv_at hl 1 rfl) ?_
      refine q_get (index := 120) (ref := "ToolRoom$Row") E G inX7 8 x1.toNatClampNeg (c8 (vp_lt v2)) sg_8 rfl 1 (by decide) tb_37 (Or.inl rfl) rfl dX9_put_45 ?_
      refine lv_iload_n hx hb dX9_put_48 rfl (lv_at hl 4 rfl) ?_
      refine lv_iload_n hx hb dX9_put_49 rfl (lv_at hl 5 rfl) ?_
      refine q_iast E G 9 x1.toNatClampNeg (c9 (vp_lt v2)) (fun _ => sa_9) v4 dX9_put_50 (fun H locs G => ?_)
      refine lv_aload_n hx hb dX9_put_51 rfl (lv_at hl 2 rfl) ?_
      refine lv_iconst (v := 1) hx hb dX9_put_52 (by decide) ?_
      refine q_cV (rest := []) E G 0 0 c0 sg_0 (C := RX9) (T := TX9) (N := 10) rfl (k_X9_done l D cy sz ad n (uI S 9 x1.toNatClampNeg x2.toNatClampNeg x3) 1) tb_192 tb_194 tp_1 tb_1 tb_195 (nn := 1) (by decide +kernel) ⟨Nat.le_of_ble_eq_true rfl, Nat.le_of_ble_eq_true rfl⟩ rfl hl.1 rfl (Nat.le_of_ble_eq_true rfl) dX9_put_53 ⟨Nat.zero_le _, Nat.zero_le _⟩ (fun H locs G => ?_)
      exact q_iret E G (by unfold f_X9_put; simp only [if_pos h1, if_pos h3, pr_eta]) dX9_put_56
    · refine lv_aload_n hx hb dX9_put_36 rfl (lv_at hl 2 rfl) ?_
      refine lv_iload hx hb dX9_put_37 (lv_at hl 0 rfl) ?_
      refine q_cV (rest := []) E G 0 0 c0 sg_0 (C := RX9) (T := TX9) (N := 10) rfl (k_X9_fail l D cy sz ad n S (pA S 8 x1.toNatClampNeg x2) pA_in) tb_227 tb_229 tp_2 tb_1 tb_230 (nn := 1) (by decide +kernel) ⟨Nat.le_of_ble_eq_true rfl, Nat.le_of_ble_eq_true rfl⟩ rfl hl.1 rfl (Nat.le_of_ble_eq_true rfl) dX9_put_39 ⟨Nat.zero_le _, Nat.zero_le _⟩ (fun H locs G => ?_)
      exact q_iret E G (by unfold f_X9_put; simp only [if_pos h1, if_neg h3, pr_eta]) dX9_put_42
  · refine q_cSp E G [] (k_X9_isWithin_f l D cy sz ad n S x1 4 h1) tb_117 tb_118 tb_1 tb_119 (nn := 2) (by decide +kernel) ⟨Nat.le_of_ble_eq_true rfl, Nat.le_of_ble_eq_true rfl⟩ rfl hl.1 rfl (Nat.le_of_ble_eq_true rfl) dX9_put_2 ⟨Nat.zero_le _, Nat.zero_le _⟩ (fun H locs G => ?_)
    refine lv_if_ne (tgt := 15) hx hb dX9_put_5 (by decide) (fun h => absurd h (by decide)) (fun _ => ?_)
    refine lv_aload_n hx hb dX9_put_8 rfl (lv_at hl 0 rfl) ?_
    refine lv_bipush (v := (-2)) hx hb dX9_put_9 (by decide) ?_
    refine q_cV (rest := []) E G 0 0 c0 sg_0 (C := RX9) (T := TX9) (N := 10) rfl (k_X9_refuse l D cy sz ad n S (-2)) tb_120 tb_122 tp_0 tb_1 tb_123 (nn := 1) (by decide +kernel) ⟨Nat.le_of_ble_eq_true rfl, Nat.le_of_ble_eq_true rfl⟩ rfl hl.1 rfl (Nat.le_of_ble_eq_true rfl) dX9_put_11 ⟨Nat.zero_le _, Nat.zero_le _⟩ (fun H locs G => ?_)
    exact q_iret E G (by unfold f_X9_put; simp only [if_neg h1, pr_eta]) dX9_put_14

def f_X9_get (S : SS) (x1 : Int32) (x2 : Int32) : Int32 × SS := if wi x1 4 = true then (if (pA S 8 x1.toNatClampNeg x2) = 0 then (f_X9_done S (S.1 9 x1.toNatClampNeg x2.toNatClampNeg)) else (f_X9_failWithZero S (pA S 8 x1.toNatClampNeg x2))) else (f_X9_refuseWithZero S (-2))
set_option maxHeartbeats 4000000 in
set_option maxRecDepth 100000 in
theorem k_X9_get (l : Launch) (D : va_G) (cy : Nat → ClassId) (sz : Nat) (ad : Nat → Nat → Nat) (n : Nat) (S : SS) (ok : okC n S) (x1 : Int32) (x2 : Int32) : CI l yX9_get cX9_get 5 (some .int) 3 63 [.ref (ad 0 0), .int x1, .int x2] D cy sz ad n S (f_X9_get S x1 x2) := by
  refine Met.enter (by decide) (Nat.le_of_ble_eq_true rfl) (fun p e s m args below meth c ls E G hl => ?_)
  have E : En p s m args meth c cX9_get 5 (some .int) RX9 D cy sz := E
  obtain ⟨hx, hb, hrt, hml, hown, hw, hlk, hK, hF, hsz⟩ := id E
  have hl : lv_has ls 5 [(0, .ref (ad 0 0)), (1, .int x1), (2, .int x2)] := hl
  refine lv_iload_n hx hb dX9_get_0 rfl (lv_at hl 1 rfl) ?_
  refine lv_iconst (v := 4) hx hb dX9_get_1 (by decide) ?_
  by_cases h1 : wi x1 4 = true
  · have v2 : vp_in x1 4 := wi_in h1 (by decide) (by decide)
    refine q_cSp E G [] (k_X9_isWithin_t l D cy sz ad n S x1 4 h1) tb_117 tb_118 tb_1 tb_119 (nn := 2) (by decide +kernel) ⟨Nat.le_of_ble_eq_true rfl, Nat.le_of_ble_eq_true rfl⟩ rfl hl.1 rfl (Nat.le_of_ble_eq_true rfl) dX9_get_2 ⟨Nat.zero_le _, Nat.zero_le _⟩ (fun H locs G => ?_)
    refine lv_if_ne (tgt := 15) hx hb dX9_get_5 (by decide) (fun _ => ?_) (fun h => absurd h (by decide))
    refine lv_aload_n hx hb dX9_get_15 rfl (lv_at hl 0 rfl) ?_
    refine q_get (index := 17) (ref := "ToolRoom") E G inX9 0 0 c0 sg_0 rfl 1 (by decide) tb_83 (Or.inl rfl) rfl dX9_get_16 ?_
    refine lv_iload_n hx hb dX9_get_19 rfl (lv_at hl 1 rfl) ?_
    refine q_aald (C := "ToolRoom$Row") E G 2 0 c2 sa_2 3 rfl v2 dX9_get_20 ?_
    refine lv_astore_n (lv' := [(3, .ref (ad 8 x1.toNatClampNeg)), (0, .ref (ad 0 0)), (1, .int x1), (2, .int x2)]) hx hb dX9_get_21 rfl hl (by decide) rfl (fun ls hl => ?_)
    refine lv_aload_n hx hb dX9_get_22 rfl (lv_at hl 0 rfl) ?_
    refine lv_iload_n hx hb dX9_get_23 rfl (lv_at hl 3 rfl) ?_
    refine q_cSp E G [] (k_X9_failureAt l D cy sz ad n S 8 x1.toNatClampNeg (Or.inl rfl) (c8 (vp_lt v2)) x2) tb_302 tb_303 tb_1 tb_304 (nn := 2) (by decide +kernel) ⟨Nat.le_of_ble_eq_true rfl, Nat.le_of_ble_eq_true rfl⟩ rfl hl.1 rfl (Nat.le_of_ble_eq_true rfl) dX9_get_24 ⟨Nat.zero_le _, Nat.zero_le _⟩ (fun H locs G => ?_)
    refine lv_istore (lv' := [(4, .int (pA S 8 x1.toNatClampNeg x2)), (3, .ref (ad 8 x1.toNatClampNeg)), (0, .ref (ad 0 0)), (1, .int x1), (2, .int x2)]) hx hb dX9_get_27 hl (by decide) rfl (fun ls hl => ?_)
    refine lv_iload hx hb dX9_get_29 (lv_at hl 0 rfl) ?_
    refine lv_if_eq (tgt := 41) hx hb dX9_get_31 (by decide) (fun h3 => ?_) (fun h3 => ?_)
    · have v4 : vp_in x2 20 := wi_le (pA_0 h3) (ok.2.1 _ (vp_lt v2)) (by decide)
      refine lv_aload_n hx hb dX9_get_41 rfl (lv_at hl 2 rfl) ?_
      refine lv_aload_n hx hb dX9_get_42 rfl (lv_at hl 1 rfl) ?_
      refine q_get (index := 120) (ref := "ToolRoom$Row") E G inX7 8 x1.toNatClampNeg (c8 (vp_lt v2)) sg_8 rfl 1 (by decide) tb_37 (Or.inl rfl) rfl dX9_get_43 ?_
      refine lv_iload_n hx hb dX9_get_46 rfl (lv_at hl 4 rfl) ?_
      refine q_iald E G 9 x1.toNatClampNeg (c9 (vp_lt v2)) sa_9 v4 dX9_get_47 ?_
      refine q_cV (rest := []) E G 0 0 c0 sg_0 (C := RX9) (T := TX9) (N := 10) rfl (k_X9_done l D cy sz ad n S (S.1 9 x1.toNatClampNeg x2.toNatClampNeg)) tb_192 tb_194 tp_1 tb_1 tb_195 (nn := 1) (by decide +kernel) ⟨Nat.le_of_ble_eq_true rfl, Nat.le_of_ble_eq_true rfl⟩ rfl hl.1 rfl (Nat.le_of_ble_eq_true rfl) dX9_get_48 ⟨Nat.zero_le _, Nat.zero_le _⟩ (fun H locs G => ?_)
      exact q_iret E G (by unfold f_X9_get; simp only [if_pos h1, if_pos h3, pr_eta]) dX9_get_51
    · refine lv_aload_n hx hb dX9_get_34 rfl (lv_at hl 2 rfl) ?_
      refine lv_iload hx hb dX9_get_35 (lv_at hl 0 rfl) ?_
      refine q_cV (rest := []) E G 0 0 c0 sg_0 (C := RX9) (T := TX9) (N := 10) rfl (k_X9_failWithZero l D cy sz ad n S (pA S 8 x1.toNatClampNeg x2) pA_in) tb_247 tb_249 tp_4 tb_1 tb_250 (nn := 1) (by decide +kernel) ⟨Nat.le_of_ble_eq_true rfl, Nat.le_of_ble_eq_true rfl⟩ rfl hl.1 rfl (Nat.le_of_ble_eq_true rfl) dX9_get_37 ⟨Nat.zero_le _, Nat.zero_le _⟩ (fun H locs G => ?_)
      exact q_iret E G (by unfold f_X9_get; simp only [if_pos h1, if_neg h3, pr_eta]) dX9_get_40
  · refine q_cSp E G [] (k_X9_isWithin_f l D cy sz ad n S x1 4 h1) tb_117 tb_118 tb_1 tb_119 (nn := 2) (by decide +kernel) ⟨Nat.le_of_ble_eq_true rfl, Nat.le_of_ble_eq_true rfl⟩ rfl hl.1 rfl (Nat.le_of_ble_eq_true rfl) dX9_get_2 ⟨Nat.zero_le _, Nat.zero_le _⟩ (fun H locs G => ?_)
    refine lv_if_ne (tgt := 15) hx hb dX9_get_5 (by decide) (fun h => absurd h (by decide)) (fun _ => ?_)
    refine lv_aload_n hx hb dX9_get_8 rfl (lv_at hl 0 rfl) ?_
    refine lv_bipush (v := (-2)) hx hb dX9_get_9 (by decide) ?_
    refine q_cV (rest := []) E G 0 0 c0 sg_0 (C := RX9) (T := TX9) (N := 10) rfl (k_X9_refuseWithZero l D cy sz ad n S (-2)) tb_243 tb_245 tp_3 tb_1 tb_246 (nn := 1) (by decide +kernel) ⟨Nat.le_of_ble_eq_true rfl, Nat.le_of_ble_eq_true rfl⟩ rfl hl.1 rfl (Nat.le_of_ble_eq_true rfl) dX9_get_11 ⟨Nat.zero_le _, Nat.zero_le _⟩ (fun H locs G => ?_)
    exact q_iret E G (by unfold f_X9_get; simp only [if_neg h1, pr_eta]) dX9_get_14

def f_X9_length (S : SS) (x1 : Int32) (x2 : Int32) : Int32 × SS := if wi x1 3 = true then (match hon x1 x2 with | none => (f_X9_refuse S (-2)) | some x => if S.1 x.1 x.2 0 = -1 then (f_X9_fail S 1) else (f_X9_done S (S.1 x.1 x.2 0))) else (f_X9_refuse S (-3))
set_option maxHeartbeats 4000000 in
set_option maxRecDepth 100000 in
theorem k_X9_length (l : Launch) (D : va_G) (cy : Nat → ClassId) (sz : Nat) (ad : Nat → Nat → Nat) (n : Nat) (S : SS) (ok : okC n S) (x1 : Int32) (x2 : Int32) : CI l yX9_length cX9_length 4 (some .int) 2 43 [.ref (ad 0 0), .int x1, .int x2] D cy sz ad n S (f_X9_length S x1 x2) := by
  refine Met.enter (by decide) (Nat.le_of_ble_eq_true rfl) (fun p e s m args below meth c ls E G hl => ?_)
  have E : En p s m args meth c cX9_length 4 (some .int) RX9 D cy sz := E
  obtain ⟨hx, hb, hrt, hml, hown, hw, hlk, hK, hF, hsz⟩ := id E
  have hl : lv_has ls 4 [(0, .ref (ad 0 0)), (1, .int x1), (2, .int x2)] := hl
  refine lv_iload_n hx hb dX9_length_0 rfl (lv_at hl 1 rfl) ?_
  refine lv_iconst (v := 3) hx hb dX9_length_1 (by decide) ?_
  by_cases h1 : wi x1 3 = true
  · have v2 : vp_in x1 3 := wi_in h1 (by decide) (by decide)
    refine q_cSp E G [] (k_X9_isWithin_t l D cy sz ad n S x1 3 h1) tb_117 tb_118 tb_1 tb_119 (nn := 2) (by decide +kernel) ⟨Nat.le_of_ble_eq_true rfl, Nat.le_of_ble_eq_true rfl⟩ rfl hl.1 rfl (Nat.le_of_ble_eq_true rfl) dX9_length_2 ⟨Nat.zero_le _, Nat.zero_le _⟩ (fun H locs G => ?_)
    refine lv_if_ne (tgt := 15) hx hb dX9_length_5 (by decide) (fun _ => ?_) (fun h => absurd h (by decide))
    refine lv_aload_n hx hb dX9_length_15 rfl (lv_at hl 0 rfl) ?_
    refine lv_iload_n hx hb dX9_length_16 rfl (lv_at hl 1 rfl) ?_
    refine lv_iload_n hx hb dX9_length_17 rfl (lv_at hl 2 rfl) ?_
    refine q_cVq (rest := []) E G 0 0 c0 rfl (C := RX9) (T := TX9) (N := 10) rfl (k_X9_holderOrNull l D cy sz ad n S x1 x2) tb_324 tb_326 tp_7 tb_1 tb_327 (nn := 2) (by decide +kernel) ⟨Nat.le_of_ble_eq_true rfl, Nat.le_of_ble_eq_true rfl⟩ rfl hl.1 rfl (Nat.le_of_ble_eq_true rfl) dX9_length_18 ⟨Nat.zero_le _, Nat.zero_le _⟩ (fun h3 H locs G => ?_) (fun x h3 H locs G => ?_)
    · refine lv_astore_nN (lv' := [(3, .null), (0, .ref (ad 0 0)), (1, .int x1), (2, .int x2)]) hx hb dX9_length_21 rfl hl (by decide) rfl (fun ls hl => ?_)
      refine lv_aload_nN hx hb dX9_length_22 rfl (lv_at hl 0 rfl) ?_
      refine lv_ifnonnullN hx hb dX9_length_23 ?_
      refine lv_aload_n hx hb dX9_length_26 rfl (lv_at hl 1 rfl) ?_
      refine lv_bipush (v := (-2)) hx hb dX9_length_27 (by decide) ?_
      refine q_cV (rest := []) E G 0 0 c0 sg_0 (C := RX9) (T := TX9) (N := 10) rfl (k_X9_refuse l D cy sz ad n S (-2)) tb_120 tb_122 tp_0 tb_1 tb_123 (nn := 1) (by decide +kernel) ⟨Nat.le_of_ble_eq_true rfl, Nat.le_of_ble_eq_true rfl⟩ rfl hl.1 rfl (Nat.le_of_ble_eq_true rfl) dX9_length_29 ⟨Nat.zero_le _, Nat.zero_le _⟩ (fun H locs G => ?_)
      exact q_iret E G (by unfold f_X9_length; simp only [if_pos h1, h3, pr_eta]) dX9_length_32
    · obtain ⟨hfx, hix⟩ := hon_ok n h3
      refine lv_astore_n (lv' := [(3, .ref (ad x.1 x.2)), (0, .ref (ad 0 0)), (1, .int x1), (2, .int x2)]) hx hb dX9_length_21 rfl hl (by decide) rfl (fun ls hl => ?_)
      refine lv_aload_n hx hb dX9_length_22 rfl (lv_at hl 0 rfl) ?_
      refine lv_ifnonnull (tgt := 33) hx hb dX9_length_23 (by decide) ?_
      refine lv_aload_n hx hb dX9_length_33 rfl (lv_at hl 0 rfl) ?_
      by_cases h4 : S.1 x.1 x.2 0 = -1
      · refine q_cHp E G x.1 x.2 hfx hix [] (k_X5_isMissing_t l D cy sz ad n S x.1 x.2 hfx hix h4) tb_305 tb_307 tb_308 tb_309 tb_310 tb_306 tb_2 tb_311 rfl (nn := 0) (by decide +kernel) ⟨Nat.le_of_ble_eq_true rfl, Nat.le_of_ble_eq_true rfl⟩ rfl hl.1 rfl (Nat.le_of_ble_eq_true rfl) dX9_length_34 ⟨Nat.zero_le _, Nat.zero_le _⟩ (fun H locs G => ?_)
        refine lv_if_eq (tgt := 48) hx hb dX9_length_37 (by decide) (fun h => absurd h (by decide)) (fun _ => ?_)
        refine lv_aload_n hx hb dX9_length_40 rfl (lv_at hl 1 rfl) ?_
        refine lv_iconst (v := 1) hx hb dX9_length_41 (by decide) ?_
        refine q_cV (rest := []) E G 0 0 c0 sg_0 (C := RX9) (T := TX9) (N := 10) rfl (k_X9_fail l D cy sz ad n S 1 (by unfold vp_in; decide)) tb_227 tb_229 tp_2 tb_1 tb_230 (nn := 1) (by decide +kernel) ⟨Nat.le_of_ble_eq_true rfl, Nat.le_of_ble_eq_true rfl⟩ rfl hl.1 rfl (Nat.le_of_ble_eq_true rfl) dX9_length_42 ⟨Nat.zero_le _, Nat.zero_le _⟩ (fun H locs G => ?_)
        refine lv_goto (tgt := 56) hx hb dX9_length_45 (by decide) ?_
        exact q_iret E G (by unfold f_X9_length; simp only [if_pos h1, h3, if_pos h4, pr_eta]) dX9_length_56
      · refine q_cHp E G x.1 x.2 hfx hix [] (k_X5_isMissing_f l D cy sz ad n S x.1 x.2 hfx hix h4) tb_305 tb_307 tb_308 tb_309 tb_310 tb_306 tb_2 tb_311 rfl (nn := 0) (by decide +kernel) ⟨Nat.le_of_ble_eq_true rfl, Nat.le_of_ble_eq_true rfl⟩ rfl hl.1 rfl (Nat.le_of_ble_eq_true rfl) dX9_length_34 ⟨Nat.zero_le _, Nat.zero_le _⟩ (fun H locs G => ?_)
        refine lv_if_eq (tgt := 48) hx hb dX9_length_37 (by decide) (fun _ => ?_) (fun h => absurd h (by decide))
        refine lv_aload_n hx hb dX9_length_48 rfl (lv_at hl 1 rfl) ?_
        refine lv_aload_n hx hb dX9_length_49 rfl (lv_at hl 0 rfl) ?_
        refine q_getH E G x.1 x.2 hfx hix tb_45 (Or.inl rfl) dX9_length_50 ?_
        refine q_cV (rest := []) E G 0 0 c0 sg_0 (C := RX9) (T := TX9) (N := 10) rfl (k_X9_done l D cy sz ad n S (S.1 x.1 x.2 0)) tb_192 tb_194 tp_1 tb_1 tb_195 (nn := 1) (by decide +kernel) ⟨Nat.le_of_ble_eq_true rfl, Nat.le_of_ble_eq_true rfl⟩ rfl hl.1 rfl (Nat.le_of_ble_eq_true rfl) dX9_length_53 ⟨Nat.zero_le _, Nat.zero_le _⟩ (fun H locs G => ?_)
        exact q_iret E G (by unfold f_X9_length; simp only [if_pos h1, h3, if_neg h4, pr_eta]) dX9_length_56
  · refine q_cSp E G [] (k_X9_isWithin_f l D cy sz ad n S x1 3 h1) tb_117 tb_118 tb_1 tb_119 (nn := 2) (by decide +kernel) ⟨Nat.le_of_ble_eq_true rfl, Nat.le_of_ble_eq_true rfl⟩ rfl hl.1 rfl (Nat.le_of_ble_eq_true rfl) dX9_length_2 ⟨Nat.zero_le _, Nat.zero_le _⟩ (fun H locs G => ?_)
    refine lv_if_ne (tgt := 15) hx hb dX9_length_5 (by decide) (fun h => absurd h (by decide)) (fun _ => ?_)
    refine lv_aload_n hx hb dX9_length_8 rfl (lv_at hl 0 rfl) ?_
    refine lv_bipush (v := (-3)) hx hb dX9_length_9 (by decide) ?_
    refine q_cV (rest := []) E G 0 0 c0 sg_0 (C := RX9) (T := TX9) (N := 10) rfl (k_X9_refuse l D cy sz ad n S (-3)) tb_120 tb_122 tp_0 tb_1 tb_123 (nn := 1) (by decide +kernel) ⟨Nat.le_of_ble_eq_true rfl, Nat.le_of_ble_eq_true rfl⟩ rfl hl.1 rfl (Nat.le_of_ble_eq_true rfl) dX9_length_11 ⟨Nat.zero_le _, Nat.zero_le _⟩ (fun H locs G => ?_)
    exact q_iret E G (by unfold f_X9_length; simp only [if_neg h1, pr_eta]) dX9_length_14

def f_X9_rack (S : SS) (x1 : Int32) (x2 : Int32) (x3 : Int32) : Int32 × SS := if wi x1 4 = true then (if wi x2 3 = true then (if x3 ≤ 10 then (if 0 ≤ x3 then (f_X9_done (f_rack S x1.toNatClampNeg x2 x3) x3) else (f_X9_fail S 3)) else (f_X9_refuse S (-3))) else (f_X9_refuse S (-3))) else (f_X9_refuse S (-2))
set_option maxHeartbeats 4000000 in
set_option maxRecDepth 100000 in
theorem k_X9_rack (l : Launch) (D : va_G) (cy : Nat → ClassId) (sz : Nat) (ad : Nat → Nat → Nat) (n : Nat) (S : SS) (ok : okC n S) (x1 : Int32) (x2 : Int32) (x3 : Int32) : CI l yX9_rack cX9_rack 4 (some .int) 2 42 [.ref (ad 0 0), .int x1, .int x2, .int x3] D cy sz ad n S (f_X9_rack S x1 x2 x3) := by
  refine Met.enter (by decide) (Nat.le_of_ble_eq_true rfl) (fun p e s m args below meth c ls E G hl => ?_)
  have E : En p s m args meth c cX9_rack 4 (some .int) RX9 D cy sz := E
  obtain ⟨hx, hb, hrt, hml, hown, hw, hlk, hK, hF, hsz⟩ := id E
  have hl : lv_has ls 4 [(0, .ref (ad 0 0)), (1, .int x1), (2, .int x2), (3, .int x3)] := hl
  refine lv_iload_n hx hb dX9_rack_0 rfl (lv_at hl 1 rfl) ?_
  refine lv_iconst (v := 4) hx hb dX9_rack_1 (by decide) ?_
  by_cases h1 : wi x1 4 = true
  · have v2 : vp_in x1 4 := wi_in h1 (by decide) (by decide)
    refine q_cSp E G [] (k_X9_isWithin_t l D cy sz ad n S x1 4 h1) tb_117 tb_118 tb_1 tb_119 (nn := 2) (by decide +kernel) ⟨Nat.le_of_ble_eq_true rfl, Nat.le_of_ble_eq_true rfl⟩ rfl hl.1 rfl (Nat.le_of_ble_eq_true rfl) dX9_rack_2 ⟨Nat.zero_le _, Nat.zero_le _⟩ (fun H locs G => ?_)
    refine lv_if_ne (tgt := 15) hx hb dX9_rack_5 (by decide) (fun _ => ?_) (fun h => absurd h (by decide))
    refine lv_iload_n hx hb dX9_rack_15 rfl (lv_at hl 2 rfl) ?_
    refine lv_iconst (v := 3) hx hb dX9_rack_16 (by decide) ?_
    by_cases h3 : wi x2 3 = true
    · have v4 : vp_in x2 3 := wi_in h3 (by decide) (by decide)
      refine q_cSp E G [] (k_X9_isWithin_t l D cy sz ad n S x2 3 h3) tb_117 tb_118 tb_1 tb_119 (nn := 2) (by decide +kernel) ⟨Nat.le_of_ble_eq_true rfl, Nat.le_of_ble_eq_true rfl⟩ rfl hl.1 rfl (Nat.le_of_ble_eq_true rfl) dX9_rack_17 ⟨Nat.zero_le _, Nat.zero_le _⟩ (fun H locs G => ?_)
      refine lv_if_eq (tgt := 29) hx hb dX9_rack_20 (by decide) (fun h => absurd h (by decide)) (fun _ => ?_)
      refine lv_iload_n hx hb dX9_rack_23 rfl (lv_at hl 3 rfl) ?_
      refine lv_bipush (v := 10) hx hb dX9_rack_24 (by decide) ?_
      refine lv_icmp_le (tgt := 36) hx hb dX9_rack_26 (by decide) (fun h5 => ?_) (fun h5 => ?_)
      · refine lv_iload_n hx hb dX9_rack_36 rfl (lv_at hl 3 rfl) ?_
        refine lv_if_ge (tgt := 46) hx hb dX9_rack_37 (by decide) (fun h6 => ?_) (fun h6 => ?_)
        · refine lv_aload_n hx hb dX9_rack_46 rfl (lv_at hl 0 rfl) ?_
          refine q_get (index := 23) (ref := "ToolRoom") E G inX9 0 0 c0 sg_0 rfl 2 (by decide) tb_84 (Or.inl rfl) rfl dX9_rack_47 ?_
          refine lv_iload_n hx hb dX9_rack_50 rfl (lv_at hl 1 rfl) ?_
          refine q_aald (C := "ToolRoom$Rack") E G 3 0 c3 sa_3 4 rfl v2 dX9_rack_51 ?_
          refine lv_iload_n hx hb dX9_rack_52 rfl (lv_at hl 2 rfl) ?_
          refine lv_iload_n hx hb dX9_rack_53 rfl (lv_at hl 3 rfl) ?_
          refine q_cVv (rest := []) E G 10 x1.toNatClampNeg (c10 (vp_lt v2)) sg_10 (C := RX6) (T := TX6) (N := 3) rfl (k_X6_renew l D cy sz ad n S x1.toNatClampNeg (vp_lt v2) x2 x3) tb_352 tb_353 tb_354 tb_4 tb_355 (nn := 2) (by decide +kernel) ⟨Nat.le_of_ble_eq_true rfl, Nat.le_of_ble_eq_true rfl⟩ rfl hl.1 rfl (Nat.le_of_ble_eq_true rfl) dX9_rack_54 ⟨Nat.zero_le _, Nat.zero_le _⟩ (fun H locs G => ?_)
          refine lv_aload_n hx hb dX9_rack_57 rfl (lv_at hl 0 rfl) ?_
          refine lv_iload_n hx hb dX9_rack_58 rfl (lv_at hl 3 rfl) ?_
          refine q_cV (rest := []) E G 0 0 c0 sg_0 (C := RX9) (T := TX9) (N := 10) rfl (k_X9_done l D cy sz ad n (f_rack S x1.toNatClampNeg x2 x3) x3) tb_192 tb_194 tp_1 tb_1 tb_195 (nn := 1) (by decide +kernel) ⟨Nat.le_of_ble_eq_true rfl, Nat.le_of_ble_eq_true rfl⟩ rfl hl.1 rfl (Nat.le_of_ble_eq_true rfl) dX9_rack_59 ⟨Nat.zero_le _, Nat.zero_le _⟩ (fun H locs G => ?_)
          exact q_iret E G (by unfold f_X9_rack; simp only [if_pos h1, if_pos h3, if_pos h5, if_pos h6, pr_eta]) dX9_rack_62
        · refine lv_aload_n hx hb dX9_rack_40 rfl (lv_at hl 0 rfl) ?_
          refine lv_iconst (v := 3) hx hb dX9_rack_41 (by decide) ?_
          refine q_cV (rest := []) E G 0 0 c0 sg_0 (C := RX9) (T := TX9) (N := 10) rfl (k_X9_fail l D cy sz ad n S 3 (by unfold vp_in; decide)) tb_227 tb_229 tp_2 tb_1 tb_230 (nn := 1) (by decide +kernel) ⟨Nat.le_of_ble_eq_true rfl, Nat.le_of_ble_eq_true rfl⟩ rfl hl.1 rfl (Nat.le_of_ble_eq_true rfl) dX9_rack_42 ⟨Nat.zero_le _, Nat.zero_le _⟩ (fun H locs G => ?_)
          exact q_iret E G (by unfold f_X9_rack; simp only [if_pos h1, if_pos h3, if_pos h5, if_neg h6, pr_eta]) dX9_rack_45
      · refine lv_aload_n hx hb dX9_rack_29 rfl (lv_at hl 0 rfl) ?_
        refine lv_bipush (v := (-3)) hx hb dX9_rack_30 (by decide) ?_
        refine q_cV (rest := []) E G 0 0 c0 sg_0 (C := RX9) (T := TX9) (N := 10) rfl (k_X9_refuse l D cy sz ad n S (-3)) tb_120 tb_122 tp_0 tb_1 tb_123 (nn := 1) (by decide +kernel) ⟨Nat.le_of_ble_eq_true rfl, Nat.le_of_ble_eq_true rfl⟩ rfl hl.1 rfl (Nat.le_of_ble_eq_true rfl) dX9_rack_32 ⟨Nat.zero_le _, Nat.zero_le _⟩ (fun H locs G => ?_)
        exact q_iret E G (by unfold f_X9_rack; simp only [if_pos h1, if_pos h3, if_neg h5, pr_eta]) dX9_rack_35
    · refine q_cSp E G [] (k_X9_isWithin_f l D cy sz ad n S x2 3 h3) tb_117 tb_118 tb_1 tb_119 (nn := 2) (by decide +kernel) ⟨Nat.le_of_ble_eq_true rfl, Nat.le_of_ble_eq_true rfl⟩ rfl hl.1 rfl (Nat.le_of_ble_eq_true rfl) dX9_rack_17 ⟨Nat.zero_le _, Nat.zero_le _⟩ (fun H locs G => ?_)
      refine lv_if_eq (tgt := 29) hx hb dX9_rack_20 (by decide) (fun _ => ?_) (fun h => absurd h (by decide))
      refine lv_aload_n hx hb dX9_rack_29 rfl (lv_at hl 0 rfl) ?_
      refine lv_bipush (v := (-3)) hx hb dX9_rack_30 (by decide) ?_
      refine q_cV (rest := []) E G 0 0 c0 sg_0 (C := RX9) (T := TX9) (N := 10) rfl (k_X9_refuse l D cy sz ad n S (-3)) tb_120 tb_122 tp_0 tb_1 tb_123 (nn := 1) (by decide +kernel) ⟨Nat.le_of_ble_eq_true rfl, Nat.le_of_ble_eq_true rfl⟩ rfl hl.1 rfl (Nat.le_of_ble_eq_true rfl) dX9_rack_32 ⟨Nat.zero_le _, Nat.zero_le _⟩ (fun H locs G => ?_)
      exact q_iret E G (by unfold f_X9_rack; simp only [if_pos h1, if_neg h3, pr_eta]) dX9_rack_35
  · refine q_cSp E G [] (k_X9_isWithin_f l D cy sz ad n S x1 4 h1) tb_117 tb_118 tb_1 tb_119 (nn := 2) (by decide +kernel) ⟨Nat.le_of_ble_eq_true rfl, Nat.le_of_ble_eq_true rfl⟩ rfl hl.1 rfl (Nat.le_of_ble_eq_true rfl) dX9_rack_2 ⟨Nat.zero_le _, Nat.zero_le _⟩ (fun H locs G => ?_)
    refine lv_if_ne (tgt := 15) hx hb dX9_rack_5 (by decide) (fun h => absurd h (by decide)) (fun _ => ?_)
    refine lv_aload_n hx hb dX9_rack_8 rfl (lv_at hl 0 rfl) ?_
    refine lv_bipush (v := (-2)) hx hb dX9_rack_9 (by decide) ?_
    refine q_cV (rest := []) E G 0 0 c0 sg_0 (C := RX9) (T := TX9) (N := 10) rfl (k_X9_refuse l D cy sz ad n S (-2)) tb_120 tb_122 tp_0 tb_1 tb_123 (nn := 1) (by decide +kernel) ⟨Nat.le_of_ble_eq_true rfl, Nat.le_of_ble_eq_true rfl⟩ rfl hl.1 rfl (Nat.le_of_ble_eq_true rfl) dX9_rack_11 ⟨Nat.zero_le _, Nat.zero_le _⟩ (fun H locs G => ?_)
    exact q_iret E G (by unfold f_X9_rack; simp only [if_neg h1, pr_eta]) dX9_rack_14

def f_X9_lay (S : SS) (x1 : Int32) (x2 : Int32) (x3 : Int32) : Int32 × SS := if wi x1 4 = true then (if wi x3 10 = true then (if (pA S 10 x1.toNatClampNeg x2) = 0 then (match S.2 1 0 x3.toNatClampNeg with | none => if (pS S none (S.1 10 x1.toNatClampNeg 2)) = 0 then (f_X9_fail S 5) else (f_X9_done (uR S 11 x1.toNatClampNeg x2.toNatClampNeg none) 1) | some t7 => if (pS S (some t7) (S.1 10 x1.toNatClampNeg 2)) = 0 then (f_X9_fail S 5) else (f_X9_done (uR S 11 x1.toNatClampNeg x2.toNatClampNeg (some t7)) 1)) else (f_X9_fail S (pA S 10 x1.toNatClampNeg x2))) else (f_X9_refuse S (-2))) else (f_X9_refuse S (-2))
set_option maxHeartbeats 4000000 in
set_option maxRecDepth 100000 in
theorem k_X9_lay (l : Launch) (D : va_G) (cy : Nat → ClassId) (sz : Nat) (ad : Nat → Nat → Nat) (n : Nat) (S : SS) (ok : okC n S) (x1 : Int32) (x2 : Int32) (x3 : Int32) : CI l yX9_lay cX9_lay 7 (some .int) 2 42 [.ref (ad 0 0), .int x1, .int x2, .int x3] D cy sz ad n S (f_X9_lay S x1 x2 x3) := by
  refine Met.enter (by decide) (Nat.le_of_ble_eq_true rfl) (fun p e s m args below meth c ls E G hl => ?_)
  have E : En p s m args meth c cX9_lay 7 (some .int) RX9 D cy sz := E
  obtain ⟨hx, hb, hrt, hml, hown, hw, hlk, hK, hF, hsz⟩ := id E
  have hl : lv_has ls 7 [(0, .ref (ad 0 0)), (1, .int x1), (2, .int x2), (3, .int x3)] := hl
  refine lv_iload_n hx hb dX9_lay_0 rfl (lv_at hl 1 rfl) ?_
  refine lv_iconst (v := 4) hx hb dX9_lay_1 (by decide) ?_
  by_cases h1 : wi x1 4 = true
  · have v2 : vp_in x1 4 := wi_in h1 (by decide) (by decide)
    refine q_cSp E G [] (k_X9_isWithin_t l D cy sz ad n S x1 4 h1) tb_117 tb_118 tb_1 tb_119 (nn := 2) (by decide +kernel) ⟨Nat.le_of_ble_eq_true rfl, Nat.le_of_ble_eq_true rfl⟩ rfl hl.1 rfl (Nat.le_of_ble_eq_true rfl) dX9_lay_2 ⟨Nat.zero_le _, Nat.zero_le _⟩ (fun H locs G => ?_)
    refine lv_if_eq (tgt := 17) hx hb dX9_lay_5 (by decide) (fun h => absurd h (by decide)) (fun _ => ?_)
    refine lv_iload_n hx hb dX9_lay_8 rfl (lv_at hl 3 rfl) ?_
    refine lv_bipush (v := 10) hx hb dX9_lay_9 (by decide) ?_
    by_cases h3 : wi x3 10 = true
    · have v4 : vp_in x3 10 := wi_in h3 (by decide) (by decide)
      refine q_cSp E G [] (k_X9_isWithin_t l D cy sz ad n S x3 10 h3) tb_117 tb_118 tb_1 tb_119 (nn := 2) (by decide +kernel) ⟨Nat.le_of_ble_eq_true rfl, Nat.le_of_ble_eq_true rfl⟩ rfl hl.1 rfl (Nat.le_of_ble_eq_true rfl) dX9_lay_11 ⟨Nat.zero_le _, Nat.zero_le _⟩ (fun H locs G => ?_)
      refine lv_if_ne (tgt := 24) hx hb dX9_lay_14 (by decide) (fun _ => ?_) (fun h => absurd h (by decide))
      refine lv_aload_n hx hb dX9_lay_24 rfl (lv_at hl 0 rfl) ?_
      refine q_get (index := 23) (ref := "ToolRoom") E G inX9 0 0 c0 sg_0 rfl 2 (by decide) tb_84 (Or.inl rfl) rfl dX9_lay_25 ?_
      refine lv_iload_n hx hb dX9_lay_28 rfl (lv_at hl 1 rfl) ?_
      refine q_aald (C := "ToolRoom$Rack") E G 3 0 c3 sa_3 4 rfl v2 dX9_lay_29 ?_
      refine lv_astore (lv' := [(4, .ref (ad 10 x1.toNatClampNeg)), (0, .ref (ad 0 0)), (1, .int x1), (2, .int x2), (3, .int x3)]) hx hb dX9_lay_30 hl (by decide) rfl (fun ls hl => ?_)
      refine lv_aload hx hb dX9_lay_32 (lv_at hl 0 rfl) ?_
      refine lv_iload_n hx hb dX9_lay_34 rfl (lv_at hl 3 rfl) ?_
      refine q_cSp E G [] (k_X9_failureAt l D cy sz ad n S 10 x1.toNatClampNeg (Or.inr (Or.inl rfl)) (c10 (vp_lt v2)) x2) tb_302 tb_303 tb_1 tb_304 (nn := 2) (by decide +kernel) ⟨Nat.le_of_ble_eq_true rfl, Nat.le_of_ble_eq_true rfl⟩ rfl hl.1 rfl (Nat.le_of_ble_eq_true rfl) dX9_lay_35 ⟨Nat.zero_le _, Nat.zero_le _⟩ (fun H locs G => ?_)
      refine lv_istore (lv' := [(5, .int (pA S 10 x1.toNatClampNeg x2)), (4, .ref (ad 10 x1.toNatClampNeg)), (0, .ref (ad 0 0)), (1, .int x1), (2, .int x2), (3, .int x3)]) hx hb dX9_lay_38 hl (by decide) rfl (fun ls hl => ?_)
      refine lv_iload hx hb dX9_lay_40 (lv_at hl 0 rfl) ?_
      refine lv_if_eq (tgt := 52) hx hb dX9_lay_42 (by decide) (fun h5 => ?_) (fun h5 => ?_)
      · have v6 : vp_in x2 10 := wi_le (pA_0 h5) (ok.2.2.1 _ (vp_lt v2)) (by decide)
        refine lv_aload_n hx hb dX9_lay_52 rfl (lv_at hl 2 rfl) ?_
        refine q_get (index := 11) (ref := "ToolRoom") E G inX9 0 0 c0 sg_0 rfl 0 (by decide) tb_82 (Or.inl rfl) rfl dX9_lay_53 ?_
        refine lv_iload_n hx hb dX9_lay_56 rfl (lv_at hl 5 rfl) ?_
        refine q_aaldT E G 1 0 c1 sa_1 v4 dX9_lay_57 (fun h7 => ?_) (fun t7 h7 => ?_)
        · refine lv_astoreN (lv' := [(6, .null), (5, .int (pA S 10 x1.toNatClampNeg x2)), (4, .ref (ad 10 x1.toNatClampNeg)), (0, .ref (ad 0 0)), (1, .int x1), (2, .int x2), (3, .int x3)]) hx hb dX9_lay_58 hl (by decide) rfl (fun ls hl => ?_)
          refine lv_aloadN hx hb dX9_lay_60 (lv_at hl 0 rfl) ?_
          refine lv_aload hx hb dX9_lay_62 (lv_at hl 2 rfl) ?_
          refine q_get (index := 155) (ref := "ToolRoom$Rack") E G inX6 10 x1.toNatClampNeg (c10 (vp_lt v2)) sg_10 rfl 2 (by decide) tb_62 (Or.inl rfl) rfl dX9_lay_64 ?_
          refine q_cSp E G [] (k_X9_isOfSort_n l D cy sz ad n S (S.1 10 x1.toNatClampNeg 2)) tb_360 tb_361 tb_1 tb_362 (nn := 2) (by decide +kernel) ⟨Nat.le_of_ble_eq_true rfl, Nat.le_of_ble_eq_true rfl⟩ rfl hl.1 rfl (Nat.le_of_ble_eq_true rfl) dX9_lay_67 ⟨Nat.zero_le _, Nat.zero_le _⟩ (fun H locs G => ?_)
          refine lv_if_ne (tgt := 79) hx hb dX9_lay_70 (by decide) (fun h8 => ?_) (fun h8 => ?_)
          · refine lv_aload hx hb dX9_lay_79 (lv_at hl 2 rfl) ?_
            refine q_get (index := 162) (ref := "ToolRoom$Rack") E G inX6 10 x1.toNatClampNeg (c10 (vp_lt v2)) sg_10 rfl 1 (by decide) tb_60 (Or.inl rfl) rfl dX9_lay_81 ?_
            refine lv_iload_n hx hb dX9_lay_84 rfl (lv_at hl 5 rfl) ?_
            refine lv_aloadN hx hb dX9_lay_85 (lv_at hl 0 rfl) ?_
            refine q_aastN E G 11 x1.toNatClampNeg (c11 (vp_lt v2)) (fun _ => sa_11) v6 dX9_lay_87 (fun H locs G => ?_)
            refine lv_aload_n hx hb dX9_lay_88 rfl (lv_at hl 3 rfl) ?_
            refine lv_iconst (v := 1) hx hb dX9_lay_89 (by decide) ?_
            refine q_cV (rest := []) E G 0 0 c0 sg_0 (C := RX9) (T := TX9) (N := 10) rfl (k_X9_done l D cy sz ad n (uR S 11 x1.toNatClampNeg x2.toNatClampNeg none) 1) tb_192 tb_194 tp_1 tb_1 tb_195 (nn := 1) (by decide +kernel) ⟨Nat.le_of_ble_eq_true rfl, Nat.le_of_ble_eq_true rfl⟩ rfl hl.1 rfl (Nat.le_of_ble_eq_true rfl) dX9_lay_90 ⟨Nat.zero_le _, Nat.zero_le _⟩ (fun H locs G => ?_)
            exact q_iret E G (by unfold f_X9_lay; simp only [if_pos h1, if_pos h3, if_pos h5, h7, if_neg h8, pr_eta]) dX9_lay_93
          · refine lv_aload_n hx hb dX9_lay_73 rfl (lv_at hl 3 rfl) ?_
            refine lv_iconst (v := 5) hx hb dX9_lay_74 (by decide) ?_
            refine q_cV (rest := []) E G 0 0 c0 sg_0 (C := RX9) (T := TX9) (N := 10) rfl (k_X9_fail l D cy sz ad n S 5 (by unfold vp_in; decide)) tb_227 tb_229 tp_2 tb_1 tb_230 (nn := 1) (by decide +kernel) ⟨Nat.le_of_ble_eq_true rfl, Nat.le_of_ble_eq_true rfl⟩ rfl hl.1 rfl (Nat.le_of_ble_eq_true rfl) dX9_lay_75 ⟨Nat.zero_le _, Nat.zero_le _⟩ (fun H locs G => ?_)
            exact q_iret E G (by unfold f_X9_lay; simp only [if_pos h1, if_pos h3, if_pos h5, h7, if_pos h8, pr_eta]) dX9_lay_78
        · have kt7 : t7 < n := ok.1 _ _ _ _ h7
          refine lv_astore (lv' := [(6, .ref (ad 16 t7)), (5, .int (pA S 10 x1.toNatClampNeg x2)), (4, .ref (ad 10 x1.toNatClampNeg)), (0, .ref (ad 0 0)), (1, .int x1), (2, .int x2), (3, .int x3)]) hx hb dX9_lay_58 hl (by decide) rfl (fun ls hl => ?_)
          refine lv_aload hx hb dX9_lay_60 (lv_at hl 0 rfl) ?_
          refine lv_aload hx hb dX9_lay_62 (lv_at hl 2 rfl) ?_
          refine q_get (index := 155) (ref := "ToolRoom$Rack") E G inX6 10 x1.toNatClampNeg (c10 (vp_lt v2)) sg_10 rfl 2 (by decide) tb_62 (Or.inl rfl) rfl dX9_lay_64 ?_
          refine q_cSp E G [] (k_X9_isOfSort_s l D cy sz ad n S t7 kt7 (S.1 10 x1.toNatClampNeg 2)) tb_360 tb_361 tb_1 tb_362 (nn := 2) (by decide +kernel) ⟨Nat.le_of_ble_eq_true rfl, Nat.le_of_ble_eq_true rfl⟩ rfl hl.1 rfl (Nat.le_of_ble_eq_true rfl) dX9_lay_67 ⟨Nat.zero_le _, Nat.zero_le _⟩ (fun H locs G => ?_)
          refine lv_if_ne (tgt := 79) hx hb dX9_lay_70 (by decide) (fun h9 => ?_) (fun h9 => ?_)
          · refine lv_aload hx hb dX9_lay_79 (lv_at hl 2 rfl) ?_
            refine q_get (index := 162) (ref := "ToolRoom$Rack") E G inX6 10 x1.toNatClampNeg (c10 (vp_lt v2)) sg_10 rfl 1 (by decide) tb_60 (Or.inl rfl) rfl dX9_lay_81 ?_
            refine lv_iload_n hx hb dX9_lay_84 rfl (lv_at hl 5 rfl) ?_
            refine lv_aload hx hb dX9_lay_85 (lv_at hl 0 rfl) ?_
            refine q_aast E G 11 x1.toNatClampNeg (c11 (vp_lt v2)) (fun _ => sa_11) kt7 v6 dX9_lay_87 (fun H locs G => ?_)
            refine lv_aload_n hx hb dX9_lay_88 rfl (lv_at hl 3 rfl) ?_
            refine lv_iconst (v := 1) hx hb dX9_lay_89 (by decide) ?_
            refine q_cV (rest := []) E G 0 0 c0 sg_0 (C := RX9) (T := TX9) (N := 10) rfl (k_X9_done l D cy sz ad n (uR S 11 x1.toNatClampNeg x2.toNatClampNeg (some t7)) 1) tb_192 tb_194 tp_1 tb_1 tb_195 (nn := 1) (by decide +kernel) ⟨Nat.le_of_ble_eq_true rfl, Nat.le_of_ble_eq_true rfl⟩ rfl hl.1 rfl (Nat.le_of_ble_eq_true rfl) dX9_lay_90 ⟨Nat.zero_le _, Nat.zero_le _⟩ (fun H locs G => ?_)
            exact q_iret E G (by unfold f_X9_lay; simp only [if_pos h1, if_pos h3, if_pos h5, h7, if_neg h9, pr_eta]) dX9_lay_93
          · refine lv_aload_n hx hb dX9_lay_73 rfl (lv_at hl 3 rfl) ?_
            refine lv_iconst (v := 5) hx hb dX9_lay_74 (by decide) ?_
            refine q_cV (rest := []) E G 0 0 c0 sg_0 (C := RX9) (T := TX9) (N := 10) rfl (k_X9_fail l D cy sz ad n S 5 (by unfold vp_in; decide)) tb_227 tb_229 tp_2 tb_1 tb_230 (nn := 1) (by decide +kernel) ⟨Nat.le_of_ble_eq_true rfl, Nat.le_of_ble_eq_true rfl⟩ rfl hl.1 rfl (Nat.le_of_ble_eq_true rfl) dX9_lay_75 ⟨Nat.zero_le _, Nat.zero_le _⟩ (fun H locs G => ?_)
            exact q_iret E G (by unfold f_X9_lay; simp only [if_pos h1, if_pos h3, if_pos h5, h7, if_pos h9, pr_eta]) dX9_lay_78
      · refine lv_aload_n hx hb dX9_lay_45 rfl (lv_at hl 2 rfl) ?_
        refine lv_iload hx hb dX9_lay_46 (lv_at hl 0 rfl) ?_
        refine q_cV (rest := []) E G 0 0 c0 sg_0 (C := RX9) (T := TX9) (N := 10) rfl (k_X9_fail l D cy sz ad n S (pA S 10 x1.toNatClampNeg x2) pA_in) tb_227 tb_229 tp_2 tb_1 tb_230 (nn := 1) (by decide +kernel) ⟨Nat.le_of_ble_eq_true rfl, Nat.le_of_ble_eq_true rfl⟩ rfl hl.1 rfl (Nat.le_of_ble_eq_true rfl) dX9_lay_48 ⟨Nat.zero_le _, Nat.zero_le _⟩ (fun H locs G => ?_)
        exact q_iret E G (by unfold f_X9_lay; simp only [if_pos h1, if_pos h3, if_neg h5, pr_eta]) dX9_lay_51
    · refine q_cSp E G [] (k_X9_isWithin_f l D cy sz ad n S x3 10 h3) tb_117 tb_118 tb_1 tb_119 (nn := 2) (by decide +kernel) ⟨Nat.le_of_ble_eq_true rfl, Nat.le_of_ble_eq_true rfl⟩ rfl hl.1 rfl (Nat.le_of_ble_eq_true rfl) dX9_lay_11 ⟨Nat.zero_le _, Nat.zero_le _⟩ (fun H locs G => ?_)
      refine lv_if_ne (tgt := 24) hx hb dX9_lay_14 (by decide) (fun h => absurd h (by decide)) (fun _ => ?_)
      refine lv_aload_n hx hb dX9_lay_17 rfl (lv_at hl 0 rfl) ?_
      refine lv_bipush (v := (-2)) hx hb dX9_lay_18 (by decide) ?_
      refine q_cV (rest := []) E G 0 0 c0 sg_0 (C := RX9) (T := TX9) (N := 10) rfl (k_X9_refuse l D cy sz ad n S (-2)) tb_120 tb_122 tp_0 tb_1 tb_123 (nn := 1) (by decide +kernel) ⟨Nat.le_of_ble_eq_true rfl, Nat.le_of_ble_eq_true rfl⟩ rfl hl.1 rfl (Nat.le_of_ble_eq_true rfl) dX9_lay_20 ⟨Nat.zero_le _, Nat.zero_le _⟩ (fun H locs G => ?_)
      exact q_iret E G (by unfold f_X9_lay; simp only [if_pos h1, if_neg h3, pr_eta]) dX9_lay_23
  · refine q_cSp E G [] (k_X9_isWithin_f l D cy sz ad n S x1 4 h1) tb_117 tb_118 tb_1 tb_119 (nn := 2) (by decide +kernel) ⟨Nat.le_of_ble_eq_true rfl, Nat.le_of_ble_eq_true rfl⟩ rfl hl.1 rfl (Nat.le_of_ble_eq_true rfl) dX9_lay_2 ⟨Nat.zero_le _, Nat.zero_le _⟩ (fun H locs G => ?_)
    refine lv_if_eq (tgt := 17) hx hb dX9_lay_5 (by decide) (fun _ => ?_) (fun h => absurd h (by decide))
    refine lv_aload_n hx hb dX9_lay_17 rfl (lv_at hl 0 rfl) ?_
    refine lv_bipush (v := (-2)) hx hb dX9_lay_18 (by decide) ?_
    refine q_cV (rest := []) E G 0 0 c0 sg_0 (C := RX9) (T := TX9) (N := 10) rfl (k_X9_refuse l D cy sz ad n S (-2)) tb_120 tb_122 tp_0 tb_1 tb_123 (nn := 1) (by decide +kernel) ⟨Nat.le_of_ble_eq_true rfl, Nat.le_of_ble_eq_true rfl⟩ rfl hl.1 rfl (Nat.le_of_ble_eq_true rfl) dX9_lay_20 ⟨Nat.zero_le _, Nat.zero_le _⟩ (fun H locs G => ?_)
    exact q_iret E G (by unfold f_X9_lay; simp only [if_neg h1, pr_eta]) dX9_lay_23

def f_X9_fetch (S : SS) (x1 : Int32) (x2 : Int32) (x3 : Int32) (x4 : Int32) : Int32 × SS := if wi x1 4 = true then (if wi x4 10 = true then (if wi x3 3 = true then (if (pA S 10 x1.toNatClampNeg x2) = 0 then (match S.2 11 x1.toNatClampNeg x2.toNatClampNeg with | none => if (pS S none x3) = 0 then (f_X9_fail S 4) else (f_X9_done (uR S 1 0 x4.toNatClampNeg none) 1) | some t9 => if (pS S (some t9) x3) = 0 then (f_X9_fail S 4) else (f_X9_done (uR S 1 0 x4.toNatClampNeg (some t9)) 1)) else (f_X9_fail S (pA S 10 x1.toNatClampNeg x2))) else (f_X9_refuse S (-3))) else (f_X9_refuse S (-2))) else (f_X9_refuse S (-2))
set_option maxHeartbeats 4000000 in
set_option maxRecDepth 100000 in
theorem k_X9_fetch (l : Launch) (D : va_G) (cy : Nat → ClassId) (sz : Nat) (ad : Nat → Nat → Nat) (n : Nat) (S : SS) (ok : okC n S) (x1 : Int32) (x2 : Int32) (x3 : Int32) (x4 : Int32) : CI l yX9_fetch cX9_fetch 8 (some .int) 2 42 [.ref (ad 0 0), .int x1, .int x2, .int x3, .int x4] D cy sz ad n S (f_X9_fetch S x1 x2 x3 x4) := by
  refine Met.enter (by decide) (Nat.le_of_ble_eq_true rfl) (fun p e s m args below meth c ls E G hl => ?_)
  have E : En p s m args meth c cX9_fetch 8 (some .int) RX9 D cy sz := E
  obtain ⟨hx, hb, hrt, hml, hown, hw, hlk, hK, hF, hsz⟩ := id E
  have hl : lv_has ls 8 [(0, .ref (ad 0 0)), (1, .int x1), (2, .int x2), (3, .int x3), (4, .int x4)] := hl
  refine lv_iload_n hx hb dX9_fetch_0 rfl (lv_at hl 1 rfl) ?_
  refine lv_iconst (v := 4) hx hb dX9_fetch_1 (by decide) ?_
  by_cases h1 : wi x1 4 = true
  · have v2 : vp_in x1 4 := wi_in h1 (by decide) (by decide)
    refine q_cSp E G [] (k_X9_isWithin_t l D cy sz ad n S x1 4 h1) tb_117 tb_118 tb_1 tb_119 (nn := 2) (by decide +kernel) ⟨Nat.le_of_ble_eq_true rfl, Nat.le_of_ble_eq_true rfl⟩ rfl hl.1 rfl (Nat.le_of_ble_eq_true rfl) dX9_fetch_2 ⟨Nat.zero_le _, Nat.zero_le _⟩ (fun H locs G => ?_)
    refine lv_if_eq (tgt := 18) hx hb dX9_fetch_5 (by decide) (fun h => absurd h (by decide)) (fun _ => ?_)
    refine lv_iload hx hb dX9_fetch_8 (lv_at hl 4 rfl) ?_
    refine lv_bipush (v := 10) hx hb dX9_fetch_10 (by decide) ?_
    by_cases h3 : wi x4 10 = true
    · have v4 : vp_in x4 10 := wi_in h3 (by decide) (by decide)
      refine q_cSp E G [] (k_X9_isWithin_t l D cy sz ad n S x4 10 h3) tb_117 tb_118 tb_1 tb_119 (nn := 2) (by decide +kernel) ⟨Nat.le_of_ble_eq_true rfl, Nat.le_of_ble_eq_true rfl⟩ rfl hl.1 rfl (Nat.le_of_ble_eq_true rfl) dX9_fetch_12 ⟨Nat.zero_le _, Nat.zero_le _⟩ (fun H locs G => ?_)
      refine lv_if_ne (tgt := 25) hx hb dX9_fetch_15 (by decide) (fun _ => ?_) (fun h => absurd h (by decide))
      refine lv_iload_n hx hb dX9_fetch_25 rfl (lv_at hl 3 rfl) ?_
      refine lv_iconst (v := 3) hx hb dX9_fetch_26 (by decide) ?_
      by_cases h5 : wi x3 3 = true
      · have v6 : vp_in x3 3 := wi_in h5 (by decide) (by decide)
        refine q_cSp E G [] (k_X9_isWithin_t l D cy sz ad n S x3 3 h5) tb_117 tb_118 tb_1 tb_119 (nn := 2) (by decide +kernel) ⟨Nat.le_of_ble_eq_true rfl, Nat.le_of_ble_eq_true rfl⟩ rfl hl.1 rfl (Nat.le_of_ble_eq_true rfl) dX9_fetch_27 ⟨Nat.zero_le _, Nat.zero_le _⟩ (fun H locs G => ?_)
        refine lv_if_ne (tgt := 40) hx hb dX9_fetch_30 (by decide) (fun _ => ?_) (fun h => absurd h (by decide))
        refine lv_aload_n hx hb dX9_fetch_40 rfl (lv_at hl 0 rfl) ?_
        refine q_get (index := 23) (ref := "ToolRoom") E G inX9 0 0 c0 sg_0 rfl 2 (by decide) tb_84 (Or.inl rfl) rfl dX9_fetch_41 ?_
        refine lv_iload_n hx hb dX9_fetch_44 rfl (lv_at hl 1 rfl) ?_
        refine q_aald (C := "ToolRoom$Rack") E G 3 0 c3 sa_3 4 rfl v2 dX9_fetch_45 ?_
        refine lv_astore (lv' := [(5, .ref (ad 10 x1.toNatClampNeg)), (0, .ref (ad 0 0)), (1, .int x1), (2, .int x2), (3, .int x3), (4, .int x4)]) hx hb dX9_fetch_46 hl (by decide) rfl (fun ls hl => ?_)
        refine lv_aload hx hb dX9_fetch_48 (lv_at hl 0 rfl) ?_
        refine lv_iload_n hx hb dX9_fetch_50 rfl (lv_at hl 3 rfl) ?_
        refine q_cSp E G [] (k_X9_failureAt l D cy sz ad n S 10 x1.toNatClampNeg (Or.inr (Or.inl rfl)) (c10 (vp_lt v2)) x2) tb_302 tb_303 tb_1 tb_304 (nn := 2) (by decide +kernel) ⟨Nat.le_of_ble_eq_true rfl, Nat.le_of_ble_eq_true rfl⟩ rfl hl.1 rfl (Nat.le_of_ble_eq_true rfl) dX9_fetch_51 ⟨Nat.zero_le _, Nat.zero_le _⟩ (fun H locs G => ?_)
        refine lv_istore (lv' := [(6, .int (pA S 10 x1.toNatClampNeg x2)), (5, .ref (ad 10 x1.toNatClampNeg)), (0, .ref (ad 0 0)), (1, .int x1), (2, .int x2), (3, .int x3), (4, .int x4)]) hx hb dX9_fetch_54 hl (by decide) rfl (fun ls hl => ?_)
        refine lv_iload hx hb dX9_fetch_56 (lv_at hl 0 rfl) ?_
        refine lv_if_eq (tgt := 68) hx hb dX9_fetch_58 (by decide) (fun h7 => ?_) (fun h7 => ?_)
        · have v8 : vp_in x2 10 := wi_le (pA_0 h7) (ok.2.2.1 _ (vp_lt v2)) (by decide)
          refine lv_aload hx hb dX9_fetch_68 (lv_at hl 1 rfl) ?_
          refine q_get (index := 162) (ref := "ToolRoom$Rack") E G inX6 10 x1.toNatClampNeg (c10 (vp_lt v2)) sg_10 rfl 1 (by decide) tb_60 (Or.inl rfl) rfl dX9_fetch_70 ?_
          refine lv_iload_n hx hb dX9_fetch_73 rfl (lv_at hl 4 rfl) ?_
          refine q_aaldT E G 11 x1.toNatClampNeg (c11 (vp_lt v2)) sa_11 v8 dX9_fetch_74 (fun h9 => ?_) (fun t9 h9 => ?_)
          · refine lv_astoreN (lv' := [(7, .null), (6, .int (pA S 10 x1.toNatClampNeg x2)), (5, .ref (ad 10 x1.toNatClampNeg)), (0, .ref (ad 0 0)), (1, .int x1), (2, .int x2), (3, .int x3), (4, .int x4)]) hx hb dX9_fetch_75 hl (by decide) rfl (fun ls hl => ?_)
            refine lv_aloadN hx hb dX9_fetch_77 (lv_at hl 0 rfl) ?_
            refine lv_iload_n hx hb dX9_fetch_79 rfl (lv_at hl 6 rfl) ?_
            refine q_cSp E G [] (k_X9_isOfSort_n l D cy sz ad n S x3) tb_360 tb_361 tb_1 tb_362 (nn := 2) (by decide +kernel) ⟨Nat.le_of_ble_eq_true rfl, Nat.le_of_ble_eq_true rfl⟩ rfl hl.1 rfl (Nat.le_of_ble_eq_true rfl) dX9_fetch_80 ⟨Nat.zero_le _, Nat.zero_le _⟩ (fun H locs G => ?_)
            refine lv_if_ne (tgt := 92) hx hb dX9_fetch_83 (by decide) (fun h10 => ?_) (fun h10 => ?_)
            · refine lv_aload_n hx hb dX9_fetch_92 rfl (lv_at hl 3 rfl) ?_
              refine q_get (index := 11) (ref := "ToolRoom") E G inX9 0 0 c0 sg_0 rfl 0 (by decide) tb_82 (Or.inl rfl) rfl dX9_fetch_93 ?_
              refine lv_iload hx hb dX9_fetch_96 (lv_at hl 7 rfl) ?_
              refine lv_aloadN hx hb dX9_fetch_98 (lv_at hl 0 rfl) ?_
              refine q_aastN E G 1 0 c1 (fun _ => sa_1) v4 dX9_fetch_100 (fun H locs G => ?_)
              refine lv_aload_n hx hb dX9_fetch_101 rfl (lv_at hl 3 rfl) ?_
              refine lv_iconst (v := 1) hx hb dX9_fetch_102 (by decide) ?_
              refine q_cV (rest := []) E G 0 0 c0 sg_0 (C := RX9) (T := TX9) (N := 10) rfl (k_X9_done l D cy sz ad n (uR S 1 0 x4.toNatClampNeg none) 1) tb_192 tb_194 tp_1 tb_1 tb_195 (nn := 1) (by decide +kernel) ⟨Nat.le_of_ble_eq_true rfl, Nat.le_of_ble_eq_true rfl⟩ rfl hl.1 rfl (Nat.le_of_ble_eq_true rfl) dX9_fetch_103 ⟨Nat.zero_le _, Nat.zero_le _⟩ (fun H locs G => ?_)
              exact q_iret E G (by unfold f_X9_fetch; simp only [if_pos h1, if_pos h3, if_pos h5, if_pos h7, h9, if_neg h10, pr_eta]) dX9_fetch_106
            · refine lv_aload_n hx hb dX9_fetch_86 rfl (lv_at hl 3 rfl) ?_
              refine lv_iconst (v := 4) hx hb dX9_fetch_87 (by decide) ?_
              refine q_cV (rest := []) E G 0 0 c0 sg_0 (C := RX9) (T := TX9) (N := 10) rfl (k_X9_fail l D cy sz ad n S 4 (by unfold vp_in; decide)) tb_227 tb_229 tp_2 tb_1 tb_230 (nn := 1) (by decide +kernel) ⟨Nat.le_of_ble_eq_true rfl, Nat.le_of_ble_eq_true rfl⟩ rfl hl.1 rfl (Nat.le_of_ble_eq_true rfl) dX9_fetch_88 ⟨Nat.zero_le _, Nat.zero_le _⟩ (fun H locs G => ?_)
              exact q_iret E G (by unfold f_X9_fetch; simp only [if_pos h1, if_pos h3, if_pos h5, if_pos h7, h9, if_pos h10, pr_eta]) dX9_fetch_91
          · have kt9 : t9 < n := ok.1 _ _ _ _ h9
            refine lv_astore (lv' := [(7, .ref (ad 16 t9)), (6, .int (pA S 10 x1.toNatClampNeg x2)), (5, .ref (ad 10 x1.toNatClampNeg)), (0, .ref (ad 0 0)), (1, .int x1), (2, .int x2), (3, .int x3), (4, .int x4)]) hx hb dX9_fetch_75 hl (by decide) rfl (fun ls hl => ?_)
            refine lv_aload hx hb dX9_fetch_77 (lv_at hl 0 rfl) ?_
            refine lv_iload_n hx hb dX9_fetch_79 rfl (lv_at hl 6 rfl) ?_
            refine q_cSp E G [] (k_X9_isOfSort_s l D cy sz ad n S t9 kt9 x3) tb_360 tb_361 tb_1 tb_362 (nn := 2) (by decide +kernel) ⟨Nat.le_of_ble_eq_true rfl, Nat.le_of_ble_eq_true rfl⟩ rfl hl.1 rfl (Nat.le_of_ble_eq_true rfl) dX9_fetch_80 ⟨Nat.zero_le _, Nat.zero_le _⟩ (fun H locs G => ?_)
            refine lv_if_ne (tgt := 92) hx hb dX9_fetch_83 (by decide) (fun h11 => ?_) (fun h11 => ?_)
            · refine lv_aload_n hx hb dX9_fetch_92 rfl (lv_at hl 3 rfl) ?_
              refine q_get (index := 11) (ref := "ToolRoom") E G inX9 0 0 c0 sg_0 rfl 0 (by decide) tb_82 (Or.inl rfl) rfl dX9_fetch_93 ?_
              refine lv_iload hx hb dX9_fetch_96 (lv_at hl 7 rfl) ?_
              refine lv_aload hx hb dX9_fetch_98 (lv_at hl 0 rfl) ?_
              refine q_aast E G 1 0 c1 (fun _ => sa_1) kt9 v4 dX9_fetch_100 (fun H locs G => ?_)
              refine lv_aload_n hx hb dX9_fetch_101 rfl (lv_at hl 3 rfl) ?_
              refine lv_iconst (v := 1) hx hb dX9_fetch_102 (by decide) ?_
              refine q_cV (rest := []) E G 0 0 c0 sg_0 (C := RX9) (T := TX9) (N := 10) rfl (k_X9_done l D cy sz ad n (uR S 1 0 x4.toNatClampNeg (some t9)) 1) tb_192 tb_194 tp_1 tb_1 tb_195 (nn := 1) (by decide +kernel) ⟨Nat.le_of_ble_eq_true rfl, Nat.le_of_ble_eq_true rfl⟩ rfl hl.1 rfl (Nat.le_of_ble_eq_true rfl) dX9_fetch_103 ⟨Nat.zero_le _, Nat.zero_le _⟩ (fun H locs G => ?_)
              exact q_iret E G (by unfold f_X9_fetch; simp only [if_pos h1, if_pos h3, if_pos h5, if_pos h7, h9, if_neg h11, pr_eta]) dX9_fetch_106
            · refine lv_aload_n hx hb dX9_fetch_86 rfl (lv_at hl 3 rfl) ?_
              refine lv_iconst (v := 4) hx hb dX9_fetch_87 (by decide) ?_
              refine q_cV (rest := []) E G 0 0 c0 sg_0 (C := RX9) (T := TX9) (N := 10) rfl (k_X9_fail l D cy sz ad n S 4 (by unfold vp_in; decide)) tb_227 tb_229 tp_2 tb_1 tb_230 (nn := 1) (by decide +kernel) ⟨Nat.le_of_ble_eq_true rfl, Nat.le_of_ble_eq_true rfl⟩ rfl hl.1 rfl (Nat.le_of_ble_eq_true rfl) dX9_fetch_88 ⟨Nat.zero_le _, Nat.zero_le _⟩ (fun H locs G => ?_)
              exact q_iret E G (by unfold f_X9_fetch; simp only [if_pos h1, if_pos h3, if_pos h5, if_pos h7, h9, if_pos h11, pr_eta]) dX9_fetch_91
        · refine lv_aload_n hx hb dX9_fetch_61 rfl (lv_at hl 2 rfl) ?_
          refine lv_iload hx hb dX9_fetch_62 (lv_at hl 0 rfl) ?_
          refine q_cV (rest := []) E G 0 0 c0 sg_0 (C := RX9) (T := TX9) (N := 10) rfl (k_X9_fail l D cy sz ad n S (pA S 10 x1.toNatClampNeg x2) pA_in) tb_227 tb_229 tp_2 tb_1 tb_230 (nn := 1) (by decide +kernel) ⟨Nat.le_of_ble_eq_true rfl, Nat.le_of_ble_eq_true rfl⟩ rfl hl.1 rfl (Nat.le_of_ble_eq_true rfl) dX9_fetch_64 ⟨Nat.zero_le _, Nat.zero_le _⟩ (fun H locs G => ?_)
          exact q_iret E G (by unfold f_X9_fetch; simp only [if_pos h1, if_pos h3, if_pos h5, if_neg h7, pr_eta]) dX9_fetch_67
      · refine q_cSp E G [] (k_X9_isWithin_f l D cy sz ad n S x3 3 h5) tb_117 tb_118 tb_1 tb_119 (nn := 2) (by decide +kernel) ⟨Nat.le_of_ble_eq_true rfl, Nat.le_of_ble_eq_true rfl⟩ rfl hl.1 rfl (Nat.le_of_ble_eq_true rfl) dX9_fetch_27 ⟨Nat.zero_le _, Nat.zero_le _⟩ (fun H locs G => ?_)
        refine lv_if_ne (tgt := 40) hx hb dX9_fetch_30 (by decide) (fun h => absurd h (by decide)) (fun _ => ?_)
        refine lv_aload_n hx hb dX9_fetch_33 rfl (lv_at hl 0 rfl) ?_
        refine lv_bipush (v := (-3)) hx hb dX9_fetch_34 (by decide) ?_
        refine q_cV (rest := []) E G 0 0 c0 sg_0 (C := RX9) (T := TX9) (N := 10) rfl (k_X9_refuse l D cy sz ad n S (-3)) tb_120 tb_122 tp_0 tb_1 tb_123 (nn := 1) (by decide +kernel) ⟨Nat.le_of_ble_eq_true rfl, Nat.le_of_ble_eq_true rfl⟩ rfl hl.1 rfl (Nat.le_of_ble_eq_true rfl) dX9_fetch_36 ⟨Nat.zero_le _, Nat.zero_le _⟩ (fun H locs G => ?_)
        exact q_iret E G (by unfold f_X9_fetch; simp only [if_pos h1, if_pos h3, if_neg h5, pr_eta]) dX9_fetch_39
    · refine q_cSp E G [] (k_X9_isWithin_f l D cy sz ad n S x4 10 h3) tb_117 tb_118 tb_1 tb_119 (nn := 2) (by decide +kernel) ⟨Nat.le_of_ble_eq_true rfl, Nat.le_of_ble_eq_true rfl⟩ rfl hl.1 rfl (Nat.le_of_ble_eq_true rfl) dX9_fetch_12 ⟨Nat.zero_le _, Nat.zero_le _⟩ (fun H locs G => ?_)
      refine lv_if_ne (tgt := 25) hx hb dX9_fetch_15 (by decide) (fun h => absurd h (by decide)) (fun _ => ?_)
      refine lv_aload_n hx hb dX9_fetch_18 rfl (lv_at hl 0 rfl) ?_
      refine lv_bipush (v := (-2)) hx hb dX9_fetch_19 (by decide) ?_
      refine q_cV (rest := []) E G 0 0 c0 sg_0 (C := RX9) (T := TX9) (N := 10) rfl (k_X9_refuse l D cy sz ad n S (-2)) tb_120 tb_122 tp_0 tb_1 tb_123 (nn := 1) (by decide +kernel) ⟨Nat.le_of_ble_eq_true rfl, Nat.le_of_ble_eq_true rfl⟩ rfl hl.1 rfl (Nat.le_of_ble_eq_true rfl) dX9_fetch_21 ⟨Nat.zero_le _, Nat.zero_le _⟩ (fun H locs G => ?_)
      exact q_iret E G (by unfold f_X9_fetch; simp only [if_pos h1, if_neg h3, pr_eta]) dX9_fetch_24
  · refine q_cSp E G [] (k_X9_isWithin_f l D cy sz ad n S x1 4 h1) tb_117 tb_118 tb_1 tb_119 (nn := 2) (by decide +kernel) ⟨Nat.le_of_ble_eq_true rfl, Nat.le_of_ble_eq_true rfl⟩ rfl hl.1 rfl (Nat.le_of_ble_eq_true rfl) dX9_fetch_2 ⟨Nat.zero_le _, Nat.zero_le _⟩ (fun H locs G => ?_)
    refine lv_if_eq (tgt := 18) hx hb dX9_fetch_5 (by decide) (fun _ => ?_) (fun h => absurd h (by decide))
    refine lv_aload_n hx hb dX9_fetch_18 rfl (lv_at hl 0 rfl) ?_
    refine lv_bipush (v := (-2)) hx hb dX9_fetch_19 (by decide) ?_
    refine q_cV (rest := []) E G 0 0 c0 sg_0 (C := RX9) (T := TX9) (N := 10) rfl (k_X9_refuse l D cy sz ad n S (-2)) tb_120 tb_122 tp_0 tb_1 tb_123 (nn := 1) (by decide +kernel) ⟨Nat.le_of_ble_eq_true rfl, Nat.le_of_ble_eq_true rfl⟩ rfl hl.1 rfl (Nat.le_of_ble_eq_true rfl) dX9_fetch_21 ⟨Nat.zero_le _, Nat.zero_le _⟩ (fun H locs G => ?_)
    exact q_iret E G (by unfold f_X9_fetch; simp only [if_neg h1, pr_eta]) dX9_fetch_24

def f_X9_grid (S : SS) (x1 : Int32) (x2 : Int32) (x3 : Int32) : Int32 × SS := if wi x1 2 = true then (if 8 < x2 then (f_X9_refuse S (-3)) else (if x3 ≤ 8 then (if x2 < 0 then (f_X9_fail S 3) else (if 0 ≤ x3 then (f_X9_done (f_grid S x1.toNatClampNeg x2 x3) x2) else (f_X9_fail S 3))) else (f_X9_refuse S (-3)))) else (f_X9_refuse S (-2))
set_option maxHeartbeats 4000000 in
set_option maxRecDepth 100000 in
theorem k_X9_grid (l : Launch) (D : va_G) (cy : Nat → ClassId) (sz : Nat) (ad : Nat → Nat → Nat) (n : Nat) (S : SS) (ok : okC n S) (x1 : Int32) (x2 : Int32) (x3 : Int32) : CI l yX9_grid cX9_grid 4 (some .int) 2 45 [.ref (ad 0 0), .int x1, .int x2, .int x3] D cy sz ad n S (f_X9_grid S x1 x2 x3) := by
  refine Met.enter (by decide) (Nat.le_of_ble_eq_true rfl) (fun p e s m args below meth c ls E G hl => ?_)
  have E : En p s m args meth c cX9_grid 4 (some .int) RX9 D cy sz := E
  obtain ⟨hx, hb, hrt, hml, hown, hw, hlk, hK, hF, hsz⟩ := id E
  have hl : lv_has ls 4 [(0, .ref (ad 0 0)), (1, .int x1), (2, .int x2), (3, .int x3)] := hl
  refine lv_iload_n hx hb dX9_grid_0 rfl (lv_at hl 1 rfl) ?_
  refine lv_iconst (v := 2) hx hb dX9_grid_1 (by decide) ?_
  by_cases h1 : wi x1 2 = true
  · have v2 : vp_in x1 2 := wi_in h1 (by decide) (by decide)
    refine q_cSp E G [] (k_X9_isWithin_t l D cy sz ad n S x1 2 h1) tb_117 tb_118 tb_1 tb_119 (nn := 2) (by decide +kernel) ⟨Nat.le_of_ble_eq_true rfl, Nat.le_of_ble_eq_true rfl⟩ rfl hl.1 rfl (Nat.le_of_ble_eq_true rfl) dX9_grid_2 ⟨Nat.zero_le _, Nat.zero_le _⟩ (fun H locs G => ?_)
    refine lv_if_ne (tgt := 15) hx hb dX9_grid_5 (by decide) (fun _ => ?_) (fun h => absurd h (by decide))
    refine lv_iload_n hx hb dX9_grid_15 rfl (lv_at hl 2 rfl) ?_
    refine lv_bipush (v := 8) hx hb dX9_grid_16 (by decide) ?_
    refine lv_icmp_gt (tgt := 27) hx hb dX9_grid_18 (by decide) (fun h3 => ?_) (fun h3 => ?_)
    · refine lv_aload_n hx hb dX9_grid_27 rfl (lv_at hl 0 rfl) ?_
      refine lv_bipush (v := (-3)) hx hb dX9_grid_28 (by decide) ?_
      refine q_cV (rest := []) E G 0 0 c0 sg_0 (C := RX9) (T := TX9) (N := 10) rfl (k_X9_refuse l D cy sz ad n S (-3)) tb_120 tb_122 tp_0 tb_1 tb_123 (nn := 1) (by decide +kernel) ⟨Nat.le_of_ble_eq_true rfl, Nat.le_of_ble_eq_true rfl⟩ rfl hl.1 rfl (Nat.le_of_ble_eq_true rfl) dX9_grid_30 ⟨Nat.zero_le _, Nat.zero_le _⟩ (fun H locs G => ?_)
      exact q_iret E G (by unfold f_X9_grid; simp only [if_pos h1, if_pos h3, pr_eta]) dX9_grid_33
    · refine lv_iload_n hx hb dX9_grid_21 rfl (lv_at hl 3 rfl) ?_
      refine lv_bipush (v := 8) hx hb dX9_grid_22 (by decide) ?_
      refine lv_icmp_le (tgt := 34) hx hb dX9_grid_24 (by decide) (fun h4 => ?_) (fun h4 => ?_)
      · refine lv_iload_n hx hb dX9_grid_34 rfl (lv_at hl 2 rfl) ?_
        refine lv_if_lt (tgt := 42) hx hb dX9_grid_35 (by decide) (fun h5 => ?_) (fun h5 => ?_)
        · refine lv_aload_n hx hb dX9_grid_42 rfl (lv_at hl 0 rfl) ?_
          refine lv_iconst (v := 3) hx hb dX9_grid_43 (by decide) ?_
          refine q_cV (rest := []) E G 0 0 c0 sg_0 (C := RX9) (T := TX9) (N := 10) rfl (k_X9_fail l D cy sz ad n S 3 (by unfold vp_in; decide)) tb_227 tb_229 tp_2 tb_1 tb_230 (nn := 1) (by decide +kernel) ⟨Nat.le_of_ble_eq_true rfl, Nat.le_of_ble_eq_true rfl⟩ rfl hl.1 rfl (Nat.le_of_ble_eq_true rfl) dX9_grid_44 ⟨Nat.zero_le _, Nat.zero_le _⟩ (fun H locs G => ?_)
          exact q_iret E G (by unfold f_X9_grid; simp only [if_pos h1, if_neg h3, if_pos h4, if_pos h5, pr_eta]) dX9_grid_47
        · refine lv_iload_n hx hb dX9_grid_38 rfl (lv_at hl 3 rfl) ?_
          refine lv_if_ge (tgt := 48) hx hb dX9_grid_39 (by decide) (fun h6 => ?_) (fun h6 => ?_)
          · refine lv_aload_n hx hb dX9_grid_48 rfl (lv_at hl 0 rfl) ?_
            refine q_get (index := 29) (ref := "ToolRoom") E G inX9 0 0 c0 sg_0 rfl 3 (by decide) tb_85 (Or.inl rfl) rfl dX9_grid_49 ?_
            refine lv_iload_n hx hb dX9_grid_52 rfl (lv_at hl 1 rfl) ?_
            refine q_aald (C := "ToolRoom$Grid") E G 4 0 c4 sa_4 5 rfl v2 dX9_grid_53 ?_
            refine lv_iload_n hx hb dX9_grid_54 rfl (lv_at hl 2 rfl) ?_
            refine lv_iload_n hx hb dX9_grid_55 rfl (lv_at hl 3 rfl) ?_
            refine q_cVv (rest := []) E G 12 x1.toNatClampNeg (c12 (vp_lt v2)) sg_12 (C := RX3) (T := TX3) (N := 2) rfl (k_X3_renew l D cy sz ad n S x1.toNatClampNeg (vp_lt v2) x2 x3 (grd_in h3 h5)) tb_371 tb_372 tb_373 tb_5 tb_374 (nn := 2) (by decide +kernel) ⟨Nat.le_of_ble_eq_true rfl, Nat.le_of_ble_eq_true rfl⟩ rfl hl.1 rfl (Nat.le_of_ble_eq_true rfl) dX9_grid_56 ⟨Nat.zero_le _, Nat.zero_le _⟩ (fun H locs G => ?_)
            refine lv_aload_n hx hb dX9_grid_59 rfl (lv_at hl 0 rfl) ?_
            refine lv_iload_n hx hb dX9_grid_60 rfl (lv_at hl 2 rfl) ?_
            refine q_cV (rest := []) E G 0 0 c0 sg_0 (C := RX9) (T := TX9) (N := 10) rfl (k_X9_done l D cy sz ad n (f_grid S x1.toNatClampNeg x2 x3) x2) tb_192 tb_194 tp_1 tb_1 tb_195 (nn := 1) (by decide +kernel) ⟨Nat.le_of_ble_eq_true rfl, Nat.le_of_ble_eq_true rfl⟩ rfl hl.1 rfl (Nat.le_of_ble_eq_true rfl) dX9_grid_61 ⟨Nat.zero_le _, Nat.zero_le _⟩ (fun H locs G => ?_)
            exact q_iret E G (by unfold f_X9_grid; simp only [if_pos h1, if_neg h3, if_pos h4, if_neg h5, if_pos h6, pr_eta]) dX9_grid_64
          · refine lv_aload_n hx hb dX9_grid_42 rfl (lv_at hl 0 rfl) ?_
            refine lv_iconst (v := 3) hx hb dX9_grid_43 (by decide) ?_
            refine q_cV (rest := []) E G 0 0 c0 sg_0 (C := RX9) (T := TX9) (N := 10) rfl (k_X9_fail l D cy sz ad n S 3 (by unfold vp_in; decide)) tb_227 tb_229 tp_2 tb_1 tb_230 (nn := 1) (by decide +kernel) ⟨Nat.le_of_ble_eq_true rfl, Nat.le_of_ble_eq_true rfl⟩ rfl hl.1 rfl (Nat.le_of_ble_eq_true rfl) dX9_grid_44 ⟨Nat.zero_le _, Nat.zero_le _⟩ (fun H locs G => ?_)
            exact q_iret E G (by unfold f_X9_grid; simp only [if_pos h1, if_neg h3, if_pos h4, if_neg h5, if_neg h6, pr_eta]) dX9_grid_47
      · refine lv_aload_n hx hb dX9_grid_27 rfl (lv_at hl 0 rfl) ?_
        refine lv_bipush (v := (-3)) hx hb dX9_grid_28 (by decide) ?_
        refine q_cV (rest := []) E G 0 0 c0 sg_0 (C := RX9) (T := TX9) (N := 10) rfl (k_X9_refuse l D cy sz ad n S (-3)) tb_120 tb_122 tp_0 tb_1 tb_123 (nn := 1) (by decide +kernel) ⟨Nat.le_of_ble_eq_true rfl, Nat.le_of_ble_eq_true rfl⟩ rfl hl.1 rfl (Nat.le_of_ble_eq_true rfl) dX9_grid_30 ⟨Nat.zero_le _, Nat.zero_le _⟩ (fun H locs G => ?_)
        exact q_iret E G (by unfold f_X9_grid; simp only [if_pos h1, if_neg h3, if_neg h4, pr_eta]) dX9_grid_33
  · refine q_cSp E G [] (k_X9_isWithin_f l D cy sz ad n S x1 2 h1) tb_117 tb_118 tb_1 tb_119 (nn := 2) (by decide +kernel) ⟨Nat.le_of_ble_eq_true rfl, Nat.le_of_ble_eq_true rfl⟩ rfl hl.1 rfl (Nat.le_of_ble_eq_true rfl) dX9_grid_2 ⟨Nat.zero_le _, Nat.zero_le _⟩ (fun H locs G => ?_)
    refine lv_if_ne (tgt := 15) hx hb dX9_grid_5 (by decide) (fun h => absurd h (by decide)) (fun _ => ?_)
    refine lv_aload_n hx hb dX9_grid_8 rfl (lv_at hl 0 rfl) ?_
    refine lv_bipush (v := (-2)) hx hb dX9_grid_9 (by decide) ?_
    refine q_cV (rest := []) E G 0 0 c0 sg_0 (C := RX9) (T := TX9) (N := 10) rfl (k_X9_refuse l D cy sz ad n S (-2)) tb_120 tb_122 tp_0 tb_1 tb_123 (nn := 1) (by decide +kernel) ⟨Nat.le_of_ble_eq_true rfl, Nat.le_of_ble_eq_true rfl⟩ rfl hl.1 rfl (Nat.le_of_ble_eq_true rfl) dX9_grid_11 ⟨Nat.zero_le _, Nat.zero_le _⟩ (fun H locs G => ?_)
    exact q_iret E G (by unfold f_X9_grid; simp only [if_neg h1, pr_eta]) dX9_grid_14

def f_X9_strike (S : SS) (x1 : Int32) (x2 : Int32) : Int32 × SS := if wi x1 2 = true then (if (pA S 12 x1.toNatClampNeg x2) = 0 then (if (f_X5_vanish S 14 (8 * x1.toNatClampNeg + x2.toNatClampNeg)).1 = 0 then (f_X9_done ((f_X5_vanish S 14 (8 * x1.toNatClampNeg + x2.toNatClampNeg)).2) 0) else (f_X9_done ((f_X5_vanish S 14 (8 * x1.toNatClampNeg + x2.toNatClampNeg)).2) 1)) else (f_X9_fail S (pA S 12 x1.toNatClampNeg x2))) else (f_X9_refuse S (-2))
set_option maxHeartbeats 4000000 in
set_option maxRecDepth 100000 in
theorem k_X9_strike (l : Launch) (D : va_G) (cy : Nat → ClassId) (sz : Nat) (ad : Nat → Nat → Nat) (n : Nat) (S : SS) (ok : okC n S) (x1 : Int32) (x2 : Int32) : CI l yX9_strike cX9_strike 5 (some .int) 2 42 [.ref (ad 0 0), .int x1, .int x2] D cy sz ad n S (f_X9_strike S x1 x2) := by
  refine Met.enter (by decide) (Nat.le_of_ble_eq_true rfl) (fun p e s m args below meth c ls E G hl => ?_)
  have E : En p s m args meth c cX9_strike 5 (some .int) RX9 D cy sz := E
  obtain ⟨hx, hb, hrt, hml, hown, hw, hlk, hK, hF, hsz⟩ := id E
  have hl : lv_has ls 5 [(0, .ref (ad 0 0)), (1, .int x1), (2, .int x2)] := hl
  refine lv_iload_n hx hb dX9_strike_0 rfl (lv_at hl 1 rfl) ?_
  refine lv_iconst (v := 2) hx hb dX9_strike_1 (by decide) ?_
  by_cases h1 : wi x1 2 = true
  · have v2 : vp_in x1 2 := wi_in h1 (by decide) (by decide)
    refine q_cSp E G [] (k_X9_isWithin_t l D cy sz ad n S x1 2 h1) tb_117 tb_118 tb_1 tb_119 (nn := 2) (by decide +kernel) ⟨Nat.le_of_ble_eq_true rfl, Nat.le_of_ble_eq_true rfl⟩ rfl hl.1 rfl (Nat.le_of_ble_eq_true rfl) dX9_strike_2 ⟨Nat.zero_le _, Nat.zero_le _⟩ (fun H locs G => ?_)
    refine lv_if_ne (tgt := 15) hx hb dX9_strike_5 (by decide) (fun _ => ?_) (fun h => absurd h (by decide))
    refine lv_aload_n hx hb dX9_strike_15 rfl (lv_at hl 0 rfl) ?_
    refine q_get (index := 29) (ref := "ToolRoom") E G inX9 0 0 c0 sg_0 rfl 3 (by decide) tb_85 (Or.inl rfl) rfl dX9_strike_16 ?_
    refine lv_iload_n hx hb dX9_strike_19 rfl (lv_at hl 1 rfl) ?_
    refine q_aald (C := "ToolRoom$Grid") E G 4 0 c4 sa_4 5 rfl v2 dX9_strike_20 ?_
    refine lv_astore_n (lv' := [(3, .ref (ad 12 x1.toNatClampNeg)), (0, .ref (ad 0 0)), (1, .int x1), (2, .int x2)]) hx hb dX9_strike_21 rfl hl (by decide) rfl (fun ls hl => ?_)
    refine lv_aload_n hx hb dX9_strike_22 rfl (lv_at hl 0 rfl) ?_
    refine lv_iload_n hx hb dX9_strike_23 rfl (lv_at hl 3 rfl) ?_
    refine q_cSp E G [] (k_X9_failureAt l D cy sz ad n S 12 x1.toNatClampNeg (Or.inr (Or.inr (Or.inl rfl))) (c12 (vp_lt v2)) x2) tb_302 tb_303 tb_1 tb_304 (nn := 2) (by decide +kernel) ⟨Nat.le_of_ble_eq_true rfl, Nat.le_of_ble_eq_true rfl⟩ rfl hl.1 rfl (Nat.le_of_ble_eq_true rfl) dX9_strike_24 ⟨Nat.zero_le _, Nat.zero_le _⟩ (fun H locs G => ?_)
    refine lv_istore (lv' := [(4, .int (pA S 12 x1.toNatClampNeg x2)), (3, .ref (ad 12 x1.toNatClampNeg)), (0, .ref (ad 0 0)), (1, .int x1), (2, .int x2)]) hx hb dX9_strike_27 hl (by decide) rfl (fun ls hl => ?_)
    refine lv_iload hx hb dX9_strike_29 (lv_at hl 0 rfl) ?_
    refine lv_if_eq (tgt := 41) hx hb dX9_strike_31 (by decide) (fun h3 => ?_) (fun h3 => ?_)
    · have v4 : vp_in x2 8 := wi_le (pA_0 h3) (ok.2.2.2.1 _ (vp_lt v2)) (by decide)
      have v5 : 8 * x1.toNatClampNeg + x2.toNatClampNeg < 16 := by have := vp_lt v2; have := vp_lt v4; omega
      refine lv_aload_n hx hb dX9_strike_41 rfl (lv_at hl 2 rfl) ?_
      refine lv_aload_n hx hb dX9_strike_42 rfl (lv_at hl 1 rfl) ?_
      refine q_get (index := 166) (ref := "ToolRoom$Grid") E G inX3 12 x1.toNatClampNeg (c12 (vp_lt v2)) sg_12 rfl 1 (by decide) tb_77 (Or.inl rfl) rfl dX9_strike_43 ?_
      refine lv_iload_n hx hb dX9_strike_46 rfl (lv_at hl 4 rfl) ?_
      refine q_aald (C := "ToolRoom$Row") E G 13 x1.toNatClampNeg (c13 (vp_lt v2)) sa_13 3 rfl v4 dX9_strike_47 ?_
      refine q_cU (x := ⟨"ToolRoom$Row", "vanish", "()Z"⟩) (owner := "ToolRoom$Holder") (rest := [.ref (ad 0 0)]) E G 14 (8 * x1.toNatClampNeg + x2.toNatClampNeg) (c14 v5) rfl (C := RX7) (T := TX7) (N := 2) rfl (k_X5_vanish l D cy sz ad n S 14 (8 * x1.toNatClampNeg + x2.toNatClampNeg) (Or.inr (Or.inr (Or.inr rfl))) (c14 v5)) tb_380 tb_381 tb_383 tb_329 tb_2 tb_334 rfl (nn := 0) (by decide +kernel) ⟨Nat.le_of_ble_eq_true rfl, Nat.le_of_ble_eq_true rfl⟩ rfl hl.1 rfl (Nat.le_of_ble_eq_true rfl) dX9_strike_48 ⟨Nat.zero_le _, Nat.zero_le _⟩ (fun H locs G => ?_)
      refine lv_if_eq (tgt := 58) hx hb dX9_strike_51 (by decide) (fun h6 => ?_) (fun h6 => ?_)
      · refine lv_iconst (v := 0) hx hb dX9_strike_58 (by decide) ?_
        refine q_cV (rest := []) E G 0 0 c0 sg_0 (C := RX9) (T := TX9) (N := 10) rfl (k_X9_done l D cy sz ad n ((f_X5_vanish S 14 (8 * x1.toNatClampNeg + x2.toNatClampNeg)).2) 0) tb_192 tb_194 tp_1 tb_1 tb_195 (nn := 1) (by decide +kernel) ⟨Nat.le_of_ble_eq_true rfl, Nat.le_of_ble_eq_true rfl⟩ rfl hl.1 rfl (Nat.le_of_ble_eq_true rfl) dX9_strike_59 ⟨Nat.zero_le _, Nat.zero_le _⟩ (fun H locs G => ?_)
        exact q_iret E G (by unfold f_X9_strike; simp only [if_pos h1, if_pos h3, if_pos h6, pr_eta]) dX9_strike_62
      · refine lv_iconst (v := 1) hx hb dX9_strike_54 (by decide) ?_
        refine lv_goto (tgt := 59) hx hb dX9_strike_55 (by decide) ?_
        refine q_cV (rest := []) E G 0 0 c0 sg_0 (C := RX9) (T := TX9) (N := 10) rfl (k_X9_done l D cy sz ad n ((f_X5_vanish S 14 (8 * x1.toNatClampNeg + x2.toNatClampNeg)).2) 1) tb_192 tb_194 tp_1 tb_1 tb_195 (nn := 1) (by decide +kernel) ⟨Nat.le_of_ble_eq_true rfl, Nat.le_of_ble_eq_true rfl⟩ rfl hl.1 rfl (Nat.le_of_ble_eq_true rfl) dX9_strike_59 ⟨Nat.zero_le _, Nat.zero_le _⟩ (fun H locs G => ?_)
        exact q_iret E G (by unfold f_X9_strike; simp only [if_pos h1, if_pos h3, if_neg h6, pr_eta]) dX9_strike_62
    · refine lv_aload_n hx hb dX9_strike_34 rfl (lv_at hl 2 rfl) ?_
      refine lv_iload hx hb dX9_strike_35 (lv_at hl 0 rfl) ?_
      refine q_cV (rest := []) E G 0 0 c0 sg_0 (C := RX9) (T := TX9) (N := 10) rfl (k_X9_fail l D cy sz ad n S (pA S 12 x1.toNatClampNeg x2) pA_in) tb_227 tb_229 tp_2 tb_1 tb_230 (nn := 1) (by decide +kernel) ⟨Nat.le_of_ble_eq_true rfl, Nat.le_of_ble_eq_true rfl⟩ rfl hl.1 rfl (Nat.le_of_ble_eq_true rfl) dX9_strike_37 ⟨Nat.zero_le _, Nat.zero_le _⟩ (fun H locs G => ?_)
      exact q_iret E G (by unfold f_X9_strike; simp only [if_pos h1, if_neg h3, pr_eta]) dX9_strike_40
  · refine q_cSp E G [] (k_X9_isWithin_f l D cy sz ad n S x1 2 h1) tb_117 tb_118 tb_1 tb_119 (nn := 2) (by decide +kernel) ⟨Nat.le_of_ble_eq_true rfl, Nat.le_of_ble_eq_true rfl⟩ rfl hl.1 rfl (Nat.le_of_ble_eq_true rfl) dX9_strike_2 ⟨Nat.zero_le _, Nat.zero_le _⟩ (fun H locs G => ?_)
    refine lv_if_ne (tgt := 15) hx hb dX9_strike_5 (by decide) (fun h => absurd h (by decide)) (fun _ => ?_)
    refine lv_aload_n hx hb dX9_strike_8 rfl (lv_at hl 0 rfl) ?_
    refine lv_bipush (v := (-2)) hx hb dX9_strike_9 (by decide) ?_
    refine q_cV (rest := []) E G 0 0 c0 sg_0 (C := RX9) (T := TX9) (N := 10) rfl (k_X9_refuse l D cy sz ad n S (-2)) tb_120 tb_122 tp_0 tb_1 tb_123 (nn := 1) (by decide +kernel) ⟨Nat.le_of_ble_eq_true rfl, Nat.le_of_ble_eq_true rfl⟩ rfl hl.1 rfl (Nat.le_of_ble_eq_true rfl) dX9_strike_11 ⟨Nat.zero_le _, Nat.zero_le _⟩ (fun H locs G => ?_)
    exact q_iret E G (by unfold f_X9_strike; simp only [if_neg h1, pr_eta]) dX9_strike_14

def f_X9_mark (S : SS) (x1 : Int32) (x2 : Int32) (x3 : Int32) (x4 : Int32) : Int32 × SS := if wi x1 2 = true then (if (pC S x1.toNatClampNeg x2 x3) = 0 then (f_X9_done (uI S 15 (8 * x1.toNatClampNeg + x2.toNatClampNeg) x3.toNatClampNeg x4) 1) else (f_X9_fail S (pC S x1.toNatClampNeg x2 x3))) else (f_X9_refuse S (-2))
set_option maxHeartbeats 4000000 in
set_option maxRecDepth 100000 in
theorem k_X9_mark (l : Launch) (D : va_G) (cy : Nat → ClassId) (sz : Nat) (ad : Nat → Nat → Nat) (n : Nat) (S : SS) (ok : okC n S) (x1 : Int32) (x2 : Int32) (x3 : Int32) (x4 : Int32) : CI l yX9_mark cX9_mark 7 (some .int) 3 65 [.ref (ad 0 0), .int x1, .int x2, .int x3, .int x4] D cy sz ad n S (f_X9_mark S x1 x2 x3 x4) := by
  refine Met.enter (by decide) (Nat.le_of_ble_eq_true rfl) (fun p e s m args below meth c ls E G hl => ?_)
  have E : En p s m args meth c cX9_mark 7 (some .int) RX9 D cy sz := E
  obtain ⟨hx, hb, hrt, hml, hown, hw, hlk, hK, hF, hsz⟩ := id E
  have hl : lv_has ls 7 [(0, .ref (ad 0 0)), (1, .int x1), (2, .int x2), (3, .int x3), (4, .int x4)] := hl
  refine lv_iload_n hx hb dX9_mark_0 rfl (lv_at hl 1 rfl) ?_
  refine lv_iconst (v := 2) hx hb dX9_mark_1 (by decide) ?_
  by_cases h1 : wi x1 2 = true
  · have v2 : vp_in x1 2 := wi_in h1 (by decide) (by decide)
    refine q_cSp E G [] (k_X9_isWithin_t l D cy sz ad n S x1 2 h1) tb_117 tb_118 tb_1 tb_119 (nn := 2) (by decide +kernel) ⟨Nat.le_of_ble_eq_true rfl, Nat.le_of_ble_eq_true rfl⟩ rfl hl.1 rfl (Nat.le_of_ble_eq_true rfl) dX9_mark_2 ⟨Nat.zero_le _, Nat.zero_le _⟩ (fun H locs G => ?_)
    refine lv_if_ne (tgt := 15) hx hb dX9_mark_5 (by decide) (fun _ => ?_) (fun h => absurd h (by decide))
    refine lv_aload_n hx hb dX9_mark_15 rfl (lv_at hl 0 rfl) ?_
    refine q_get (index := 29) (ref := "ToolRoom") E G inX9 0 0 c0 sg_0 rfl 3 (by decide) tb_85 (Or.inl rfl) rfl dX9_mark_16 ?_
    refine lv_iload_n hx hb dX9_mark_19 rfl (lv_at hl 1 rfl) ?_
    refine q_aald (C := "ToolRoom$Grid") E G 4 0 c4 sa_4 5 rfl v2 dX9_mark_20 ?_
    refine lv_astore (lv' := [(5, .ref (ad 12 x1.toNatClampNeg)), (0, .ref (ad 0 0)), (1, .int x1), (2, .int x2), (3, .int x3), (4, .int x4)]) hx hb dX9_mark_21 hl (by decide) rfl (fun ls hl => ?_)
    refine lv_aload hx hb dX9_mark_23 (lv_at hl 0 rfl) ?_
    refine lv_iload_n hx hb dX9_mark_25 rfl (lv_at hl 3 rfl) ?_
    refine lv_iload_n hx hb dX9_mark_26 rfl (lv_at hl 4 rfl) ?_
    refine q_cSp E G [] (k_X9_failureAtCell l D cy sz ad n S ok x1.toNatClampNeg (vp_lt v2) x2 x3) tb_388 tb_389 tb_1 tb_390 (nn := 3) (by decide +kernel) ⟨Nat.le_of_ble_eq_true rfl, Nat.le_of_ble_eq_true rfl⟩ rfl hl.1 rfl (Nat.le_of_ble_eq_true rfl) dX9_mark_27 ⟨Nat.zero_le _, Nat.zero_le _⟩ (fun H locs G => ?_)
    refine lv_istore (lv' := [(6, .int (pC S x1.toNatClampNeg x2 x3)), (5, .ref (ad 12 x1.toNatClampNeg)), (0, .ref (ad 0 0)), (1, .int x1), (2, .int x2), (3, .int x3), (4, .int x4)]) hx hb dX9_mark_30 hl (by decide) rfl (fun ls hl => ?_)
    refine lv_iload hx hb dX9_mark_32 (lv_at hl 0 rfl) ?_
    refine lv_if_eq (tgt := 44) hx hb dX9_mark_34 (by decide) (fun h3 => ?_) (fun h3 => ?_)
    · have v4 : vp_in x2 8 := wi_le (pA_0 (pC_0a h3)) (ok.2.2.2.1 _ (vp_lt v2)) (by decide)
      have v5 : 8 * x1.toNatClampNeg + x2.toNatClampNeg < 16 := by have := vp_lt v2; have := vp_lt v4; omega
      have v6 : vp_in x3 8 := wi_le (pA_0 (pC_0b h3)) (ok.2.2.2.2 _ v5) (by decide)
      refine lv_aload hx hb dX9_mark_44 (lv_at hl 1 rfl) ?_
      refine q_get (index := 166) (ref := "ToolRoom$Grid") E G inX3 12 x1.toNatClampNeg (c12 (vp_lt v2)) sg_12 rfl 1 (by decide) tb_77 (Or.inl rfl) rfl dX9_mark_46 ?_
      refine lv_iload_n hx hb dX9_mark_49 rfl (lv_at hl 4 rfl) ?_
      refine q_aald (C := "ToolRoom$Row") E G 13 x1.toNatClampNeg (c13 (vp_lt v2)) sa_13 3 rfl v4 dX9_mark_50 ?_
      refine q_get (index := 120) (ref := "ToolRoom$Row") E G inX7 14 (8 * x1.toNatClampNeg + x2.toNatClampNeg) (c14 v5) sg_14 rfl 1 (by decide) tb_37 (Or.inl rfl) rfl dX9_mark_51 ?_
      refine lv_iload_n hx hb dX9_mark_54 rfl (lv_at hl 5 rfl) ?_
      refine lv_iload hx hb dX9_mark_55 (lv_at hl 6 rfl) ?_
      refine q_iast E G 15 (8 * x1.toNatClampNeg + x2.toNatClampNeg) (c15 v5) (fun _ => sa_15) v6 dX9_mark_57 (fun H locs G => ?_)
      refine lv_aload_n hx hb dX9_mark_58 rfl (lv_at hl 2 rfl) ?_
      refine lv_iconst (v := 1) hx hb dX9_mark_59 (by decide) ?_
      refine q_cV (rest := []) E G 0 0 c0 sg_0 (C := RX9) (T := TX9) (N := 10) rfl (k_X9_done l D cy sz ad n (uI S 15 (8 * x1.toNatClampNeg + x2.toNatClampNeg) x3.toNatClampNeg x4) 1) tb_192 tb_194 tp_1 tb_1 tb_195 (nn := 1) (by decide +kernel) ⟨Nat.le_of_ble_eq_true rfl, Nat.le_of_ble_eq_true rfl⟩ rfl hl.1 rfl (Nat.le_of_ble_eq_true rfl) dX9_mark_60 ⟨Nat.zero_le _, Nat.zero_le _⟩ (fun H locs G => ?_)
      exact q_iret E G (by unfold f_X9_mark; simp only [if_pos h1, if_pos h3, pr_eta]) dX9_mark_63
    · refine lv_aload_n hx hb dX9_mark_37 rfl (lv_at hl 2 rfl) ?_
      refine lv_iload hx hb dX9_mark_38 (lv_at hl 0 rfl) ?_
      refine q_cV (rest := []) E G 0 0 c0 sg_0 (C := RX9) (T := TX9) (N := 10) rfl (k_X9_fail l D cy sz ad n S (pC S x1.toNatClampNeg x2 x3) pC_in) tb_227 tb_229 tp_2 tb_1 tb_230 (nn := 1) (by decide +kernel) ⟨Nat.le_of_ble_eq_true rfl, Nat.le_of_ble_eq_true rfl⟩ rfl hl.1 rfl (Nat.le_of_ble_eq_true rfl) dX9_mark_40 ⟨Nat.zero_le _, Nat.zero_le _⟩ (fun H locs G => ?_)
      exact q_iret E G (by unfold f_X9_mark; simp only [if_pos h1, if_neg h3, pr_eta]) dX9_mark_43
  · refine q_cSp E G [] (k_X9_isWithin_f l D cy sz ad n S x1 2 h1) tb_117 tb_118 tb_1 tb_119 (nn := 2) (by decide +kernel) ⟨Nat.le_of_ble_eq_true rfl, Nat.le_of_ble_eq_true rfl⟩ rfl hl.1 rfl (Nat.le_of_ble_eq_true rfl) dX9_mark_2 ⟨Nat.zero_le _, Nat.zero_le _⟩ (fun H locs G => ?_)
    refine lv_if_ne (tgt := 15) hx hb dX9_mark_5 (by decide) (fun h => absurd h (by decide)) (fun _ => ?_)
    refine lv_aload_n hx hb dX9_mark_8 rfl (lv_at hl 0 rfl) ?_
    refine lv_bipush (v := (-2)) hx hb dX9_mark_9 (by decide) ?_
    refine q_cV (rest := []) E G 0 0 c0 sg_0 (C := RX9) (T := TX9) (N := 10) rfl (k_X9_refuse l D cy sz ad n S (-2)) tb_120 tb_122 tp_0 tb_1 tb_123 (nn := 1) (by decide +kernel) ⟨Nat.le_of_ble_eq_true rfl, Nat.le_of_ble_eq_true rfl⟩ rfl hl.1 rfl (Nat.le_of_ble_eq_true rfl) dX9_mark_11 ⟨Nat.zero_le _, Nat.zero_le _⟩ (fun H locs G => ?_)
    exact q_iret E G (by unfold f_X9_mark; simp only [if_neg h1, pr_eta]) dX9_mark_14

def f_X9_cell (S : SS) (x1 : Int32) (x2 : Int32) (x3 : Int32) : Int32 × SS := if wi x1 2 = true then (if (pC S x1.toNatClampNeg x2 x3) = 0 then (f_X9_done S (S.1 15 (8 * x1.toNatClampNeg + x2.toNatClampNeg) x3.toNatClampNeg)) else (f_X9_failWithZero S (pC S x1.toNatClampNeg x2 x3))) else (f_X9_refuseWithZero S (-2))
set_option maxHeartbeats 4000000 in
set_option maxRecDepth 100000 in
theorem k_X9_cell (l : Launch) (D : va_G) (cy : Nat → ClassId) (sz : Nat) (ad : Nat → Nat → Nat) (n : Nat) (S : SS) (ok : okC n S) (x1 : Int32) (x2 : Int32) (x3 : Int32) : CI l yX9_cell cX9_cell 6 (some .int) 3 65 [.ref (ad 0 0), .int x1, .int x2, .int x3] D cy sz ad n S (f_X9_cell S x1 x2 x3) := by
  refine Met.enter (by decide) (Nat.le_of_ble_eq_true rfl) (fun p e s m args below meth c ls E G hl => ?_)
  have E : En p s m args meth c cX9_cell 6 (some .int) RX9 D cy sz := E
  obtain ⟨hx, hb, hrt, hml, hown, hw, hlk, hK, hF, hsz⟩ := id E
  have hl : lv_has ls 6 [(0, .ref (ad 0 0)), (1, .int x1), (2, .int x2), (3, .int x3)] := hl
  refine lv_iload_n hx hb dX9_cell_0 rfl (lv_at hl 1 rfl) ?_
  refine lv_iconst (v := 2) hx hb dX9_cell_1 (by decide) ?_
  by_cases h1 : wi x1 2 = true
  · have v2 : vp_in x1 2 := wi_in h1 (by decide) (by decide)
    refine q_cSp E G [] (k_X9_isWithin_t l D cy sz ad n S x1 2 h1) tb_117 tb_118 tb_1 tb_119 (nn := 2) (by decide +kernel) ⟨Nat.le_of_ble_eq_true rfl, Nat.le_of_ble_eq_true rfl⟩ rfl hl.1 rfl (Nat.le_of_ble_eq_true rfl) dX9_cell_2 ⟨Nat.zero_le _, Nat.zero_le _⟩ (fun H locs G => ?_)
    refine lv_if_ne (tgt := 15) hx hb dX9_cell_5 (by decide) (fun _ => ?_) (fun h => absurd h (by decide))
    refine lv_aload_n hx hb dX9_cell_15 rfl (lv_at hl 0 rfl) ?_
    refine q_get (index := 29) (ref := "ToolRoom") E G inX9 0 0 c0 sg_0 rfl 3 (by decide) tb_85 (Or.inl rfl) rfl dX9_cell_16 ?_
    refine lv_iload_n hx hb dX9_cell_19 rfl (lv_at hl 1 rfl) ?_
    refine q_aald (C := "ToolRoom$Grid") E G 4 0 c4 sa_4 5 rfl v2 dX9_cell_20 ?_
    refine lv_astore (lv' := [(4, .ref (ad 12 x1.toNatClampNeg)), (0, .ref (ad 0 0)), (1, .int x1), (2, .int x2), (3, .int x3)]) hx hb dX9_cell_21 hl (by decide) rfl (fun ls hl => ?_)
    refine lv_aload hx hb dX9_cell_23 (lv_at hl 0 rfl) ?_
    refine lv_iload_n hx hb dX9_cell_25 rfl (lv_at hl 3 rfl) ?_
    refine lv_iload_n hx hb dX9_cell_26 rfl (lv_at hl 4 rfl) ?_
    refine q_cSp E G [] (k_X9_failureAtCell l D cy sz ad n S ok x1.toNatClampNeg (vp_lt v2) x2 x3) tb_388 tb_389 tb_1 tb_390 (nn := 3) (by decide +kernel) ⟨Nat.le_of_ble_eq_true rfl, Nat.le_of_ble_eq_true rfl⟩ rfl hl.1 rfl (Nat.le_of_ble_eq_true rfl) dX9_cell_27 ⟨Nat.zero_le _, Nat.zero_le _⟩ (fun H locs G => ?_)
    refine lv_istore (lv' := [(5, .int (pC S x1.toNatClampNeg x2 x3)), (4, .ref (ad 12 x1.toNatClampNeg)), (0, .ref (ad 0 0)), (1, .int x1), (2, .int x2), (3, .int x3)]) hx hb dX9_cell_30 hl (by decide) rfl (fun ls hl => ?_)
    refine lv_iload hx hb dX9_cell_32 (lv_at hl 0 rfl) ?_
    refine lv_if_eq (tgt := 44) hx hb dX9_cell_34 (by decide) (fun h3 => ?_) (fun h3 => ?_)
    · have v4 : vp_in x2 8 := wi_le (pA_0 (pC_0a h3)) (ok.2.2.2.1 _ (vp_lt v2)) (by decide)
      have v5 : 8 * x1.toNatClampNeg + x2.toNatClampNeg < 16 := by have := vp_lt v2; have := vp_lt v4; omega
      have v6 : vp_in x3 8 := wi_le (pA_0 (pC_0b h3)) (ok.2.2.2.2 _ v5) (by decide)
      refine lv_aload_n hx hb dX9_cell_44 rfl (lv_at hl 2 rfl) ?_
      refine lv_aload hx hb dX9_cell_45 (lv_at hl 1 rfl) ?_
      refine q_get (index := 166) (ref := "ToolRoom$Grid") E G inX3 12 x1.toNatClampNeg (c12 (vp_lt v2)) sg_12 rfl 1 (by decide) tb_77 (Or.inl rfl) rfl dX9_cell_47 ?_
      refine lv_iload_n hx hb dX9_cell_50 rfl (lv_at hl 4 rfl) ?_
      refine q_aald (C := "ToolRoom$Row") E G 13 x1.toNatClampNeg (c13 (vp_lt v2)) sa_13 3 rfl v4 dX9_cell_51 ?_
      refine q_get (index := 120) (ref := "ToolRoom$Row") E G inX7 14 (8 * x1.toNatClampNeg + x2.toNatClampNeg) (c14 v5) sg_14 rfl 1 (by decide) tb_37 (Or.inl rfl) rfl dX9_cell_52 ?_
      refine lv_iload_n hx hb dX9_cell_55 rfl (lv_at hl 5 rfl) ?_
      refine q_iald E G 15 (8 * x1.toNatClampNeg + x2.toNatClampNeg) (c15 v5) sa_15 v6 dX9_cell_56 ?_
      refine q_cV (rest := []) E G 0 0 c0 sg_0 (C := RX9) (T := TX9) (N := 10) rfl (k_X9_done l D cy sz ad n S (S.1 15 (8 * x1.toNatClampNeg + x2.toNatClampNeg) x3.toNatClampNeg)) tb_192 tb_194 tp_1 tb_1 tb_195 (nn := 1) (by decide +kernel) ⟨Nat.le_of_ble_eq_true rfl, Nat.le_of_ble_eq_true rfl⟩ rfl hl.1 rfl (Nat.le_of_ble_eq_true rfl) dX9_cell_57 ⟨Nat.zero_le _, Nat.zero_le _⟩ (fun H locs G => ?_)
      exact q_iret E G (by unfold f_X9_cell; simp only [if_pos h1, if_pos h3, pr_eta]) dX9_cell_60
    · refine lv_aload_n hx hb dX9_cell_37 rfl (lv_at hl 2 rfl) ?_
      refine lv_iload hx hb dX9_cell_38 (lv_at hl 0 rfl) ?_
      refine q_cV (rest := []) E G 0 0 c0 sg_0 (C := RX9) (T := TX9) (N := 10) rfl (k_X9_failWithZero l D cy sz ad n S (pC S x1.toNatClampNeg x2 x3) pC_in) tb_247 tb_249 tp_4 tb_1 tb_250 (nn := 1) (by decide +kernel) ⟨Nat.le_of_ble_eq_true rfl, Nat.le_of_ble_eq_true rfl⟩ rfl hl.1 rfl (Nat.le_of_ble_eq_true rfl) dX9_cell_40 ⟨Nat.zero_le _, Nat.zero_le _⟩ (fun H locs G => ?_)
      exact q_iret E G (by unfold f_X9_cell; simp only [if_pos h1, if_neg h3, pr_eta]) dX9_cell_43
  · refine q_cSp E G [] (k_X9_isWithin_f l D cy sz ad n S x1 2 h1) tb_117 tb_118 tb_1 tb_119 (nn := 2) (by decide +kernel) ⟨Nat.le_of_ble_eq_true rfl, Nat.le_of_ble_eq_true rfl⟩ rfl hl.1 rfl (Nat.le_of_ble_eq_true rfl) dX9_cell_2 ⟨Nat.zero_le _, Nat.zero_le _⟩ (fun H locs G => ?_)
    refine lv_if_ne (tgt := 15) hx hb dX9_cell_5 (by decide) (fun h => absurd h (by decide)) (fun _ => ?_)
    refine lv_aload_n hx hb dX9_cell_8 rfl (lv_at hl 0 rfl) ?_
    refine lv_bipush (v := (-2)) hx hb dX9_cell_9 (by decide) ?_
    refine q_cV (rest := []) E G 0 0 c0 sg_0 (C := RX9) (T := TX9) (N := 10) rfl (k_X9_refuseWithZero l D cy sz ad n S (-2)) tb_243 tb_245 tp_3 tb_1 tb_246 (nn := 1) (by decide +kernel) ⟨Nat.le_of_ble_eq_true rfl, Nat.le_of_ble_eq_true rfl⟩ rfl hl.1 rfl (Nat.le_of_ble_eq_true rfl) dX9_cell_11 ⟨Nat.zero_le _, Nat.zero_le _⟩ (fun H locs G => ?_)
    exact q_iret E G (by unfold f_X9_cell; simp only [if_neg h1, pr_eta]) dX9_cell_14

def f_X9_alarm (S : SS) (x1 : Int32) (x2 : Int32) : Int32 × SS := if wi x1 4 = true then (if (S.1 5 0 x1.toNatClampNeg) = 0 then (f_X9_done (uI (uI S 5 0 x1.toNatClampNeg 1) 6 0 x1.toNatClampNeg x2) 1) else (f_X9_done (uI (uI S 5 0 x1.toNatClampNeg 1) 6 0 x1.toNatClampNeg x2) 0)) else (f_X9_refuse S (-2))
set_option maxHeartbeats 4000000 in
set_option maxRecDepth 100000 in
theorem k_X9_alarm (l : Launch) (D : va_G) (cy : Nat → ClassId) (sz : Nat) (ad : Nat → Nat → Nat) (n : Nat) (S : SS) (ok : okC n S) (x1 : Int32) (x2 : Int32) : CI l yX9_alarm cX9_alarm 4 (some .int) 1 21 [.ref (ad 0 0), .int x1, .int x2] D cy sz ad n S (f_X9_alarm S x1 x2) := by
  refine Met.enter (by decide) (Nat.le_of_ble_eq_true rfl) (fun p e s m args below meth c ls E G hl => ?_)
  have E : En p s m args meth c cX9_alarm 4 (some .int) RX9 D cy sz := E
  obtain ⟨hx, hb, hrt, hml, hown, hw, hlk, hK, hF, hsz⟩ := id E
  have hl : lv_has ls 4 [(0, .ref (ad 0 0)), (1, .int x1), (2, .int x2)] := hl
  refine lv_iload_n hx hb dX9_alarm_0 rfl (lv_at hl 1 rfl) ?_
  refine lv_iconst (v := 4) hx hb dX9_alarm_1 (by decide) ?_
  by_cases h1 : wi x1 4 = true
  · have v2 : vp_in x1 4 := wi_in h1 (by decide) (by decide)
    refine q_cSp E G [] (k_X9_isWithin_t l D cy sz ad n S x1 4 h1) tb_117 tb_118 tb_1 tb_119 (nn := 2) (by decide +kernel) ⟨Nat.le_of_ble_eq_true rfl, Nat.le_of_ble_eq_true rfl⟩ rfl hl.1 rfl (Nat.le_of_ble_eq_true rfl) dX9_alarm_2 ⟨Nat.zero_le _, Nat.zero_le _⟩ (fun H locs G => ?_)
    refine lv_if_ne (tgt := 15) hx hb dX9_alarm_5 (by decide) (fun _ => ?_) (fun h => absurd h (by decide))
    refine lv_aload_n hx hb dX9_alarm_15 rfl (lv_at hl 0 rfl) ?_
    refine q_get (index := 33) (ref := "ToolRoom") E G inX9 0 0 c0 sg_0 rfl 4 (by decide) tb_86 (Or.inl rfl) rfl dX9_alarm_16 ?_
    refine lv_iload_n hx hb dX9_alarm_19 rfl (lv_at hl 1 rfl) ?_
    refine q_zald E G 5 0 c5 sa_5 v2 dX9_alarm_20 ?_
    refine lv_istore_n (lv' := [(3, .int (S.1 5 0 x1.toNatClampNeg)), (0, .ref (ad 0 0)), (1, .int x1), (2, .int x2)]) hx hb dX9_alarm_21 rfl hl (by decide) rfl (fun ls hl => ?_)
    refine lv_aload_n hx hb dX9_alarm_22 rfl (lv_at hl 1 rfl) ?_
    refine q_get (index := 33) (ref := "ToolRoom") E G inX9 0 0 c0 sg_0 rfl 4 (by decide) tb_86 (Or.inl rfl) rfl dX9_alarm_23 ?_
    refine lv_iload_n hx hb dX9_alarm_26 rfl (lv_at hl 2 rfl) ?_
    refine lv_iconst (v := 1) hx hb dX9_alarm_27 (by decide) ?_
    refine q_zast E G 5 0 c5 (fun _ => sa_5) v2 (by decide) dX9_alarm_28 (fun H locs G => ?_)
    refine lv_aload_n hx hb dX9_alarm_29 rfl (lv_at hl 1 rfl) ?_
    refine q_get (index := 37) (ref := "ToolRoom") E G inX9 0 0 c0 sg_0 rfl 5 (by decide) tb_87 (Or.inl rfl) rfl dX9_alarm_30 ?_
    refine lv_iload_n hx hb dX9_alarm_33 rfl (lv_at hl 2 rfl) ?_
    refine lv_iload_n hx hb dX9_alarm_34 rfl (lv_at hl 3 rfl) ?_
    refine q_iast E G 6 0 c6 (fun _ => sa_6) v2 dX9_alarm_35 (fun H locs G => ?_)
    refine lv_aload_n hx hb dX9_alarm_36 rfl (lv_at hl 1 rfl) ?_
    refine lv_iload_n hx hb dX9_alarm_37 rfl (lv_at hl 0 rfl) ?_
    refine lv_if_eq (tgt := 45) hx hb dX9_alarm_38 (by decide) (fun h3 => ?_) (fun h3 => ?_)
    · refine lv_iconst (v := 1) hx hb dX9_alarm_45 (by decide) ?_
      refine q_cV (rest := []) E G 0 0 c0 sg_0 (C := RX9) (T := TX9) (N := 10) rfl (k_X9_done l D cy sz ad n (uI (uI S 5 0 x1.toNatClampNeg 1) 6 0 x1.toNatClampNeg x2) 1) tb_192 tb_194 tp_1 tb_1 tb_195 (nn := 1) (by decide +kernel) ⟨Nat.le_of_ble_eq_true rfl, Nat.le_of_ble_eq_true rfl⟩ rfl hl.1 rfl (Nat.le_of_ble_eq_true rfl) dX9_alarm_46 ⟨Nat.zero_le _, Nat.zero_le _⟩ (fun H locs G => ?_)
      exact q_iret E G (by unfold f_X9_alarm; simp only [if_pos h1, if_pos h3, pr_eta]) dX9_alarm_49
    · refine lv_iconst (v := 0) hx hb dX9_alarm_41 (by decide) ?_
      refine lv_goto (tgt := 46) hx hb dX9_alarm_42 (by decide) ?_
      refine q_cV (rest := []) E G 0 0 c0 sg_0 (C := RX9) (T := TX9) (N := 10) rfl (k_X9_done l D cy sz ad n (uI (uI S 5 0 x1.toNatClampNeg 1) 6 0 x1.toNatClampNeg x2) 0) tb_192 tb_194 tp_1 tb_1 tb_195 (nn := 1) (by decide +kernel) ⟨Nat.le_of_ble_eq_true rfl, Nat.le_of_ble_eq_true rfl⟩ rfl hl.1 rfl (Nat.le_of_ble_eq_true rfl) dX9_alarm_46 ⟨Nat.zero_le _, Nat.zero_le _⟩ (fun H locs G => ?_)
      exact q_iret E G (by unfold f_X9_alarm; simp only [if_pos h1, if_neg h3, pr_eta]) dX9_alarm_49
  · refine q_cSp E G [] (k_X9_isWithin_f l D cy sz ad n S x1 4 h1) tb_117 tb_118 tb_1 tb_119 (nn := 2) (by decide +kernel) ⟨Nat.le_of_ble_eq_true rfl, Nat.le_of_ble_eq_true rfl⟩ rfl hl.1 rfl (Nat.le_of_ble_eq_true rfl) dX9_alarm_2 ⟨Nat.zero_le _, Nat.zero_le _⟩ (fun H locs G => ?_)
    refine lv_if_ne (tgt := 15) hx hb dX9_alarm_5 (by decide) (fun h => absurd h (by decide)) (fun _ => ?_)
    refine lv_aload_n hx hb dX9_alarm_8 rfl (lv_at hl 0 rfl) ?_
    refine lv_bipush (v := (-2)) hx hb dX9_alarm_9 (by decide) ?_
    refine q_cV (rest := []) E G 0 0 c0 sg_0 (C := RX9) (T := TX9) (N := 10) rfl (k_X9_refuse l D cy sz ad n S (-2)) tb_120 tb_122 tp_0 tb_1 tb_123 (nn := 1) (by decide +kernel) ⟨Nat.le_of_ble_eq_true rfl, Nat.le_of_ble_eq_true rfl⟩ rfl hl.1 rfl (Nat.le_of_ble_eq_true rfl) dX9_alarm_11 ⟨Nat.zero_le _, Nat.zero_le _⟩ (fun H locs G => ?_)
    exact q_iret E G (by unfold f_X9_alarm; simp only [if_neg h1, pr_eta]) dX9_alarm_14

def f_X9_calm (S : SS) (x1 : Int32) : Int32 × SS := if wi x1 4 = true then (if (S.1 5 0 x1.toNatClampNeg) = 0 then (f_X9_done (uI S 5 0 x1.toNatClampNeg 0) 0) else (f_X9_done (uI S 5 0 x1.toNatClampNeg 0) 1)) else (f_X9_refuse S (-2))
set_option maxHeartbeats 4000000 in
set_option maxRecDepth 100000 in
theorem k_X9_calm (l : Launch) (D : va_G) (cy : Nat → ClassId) (sz : Nat) (ad : Nat → Nat → Nat) (n : Nat) (S : SS) (ok : okC n S) (x1 : Int32) : CI l yX9_calm cX9_calm 3 (some .int) 1 21 [.ref (ad 0 0), .int x1] D cy sz ad n S (f_X9_calm S x1) := by
  refine Met.enter (by decide) (Nat.le_of_ble_eq_true rfl) (fun p e s m args below meth c ls E G hl => ?_)
  have E : En p s m args meth c cX9_calm 3 (some .int) RX9 D cy sz := E
  obtain ⟨hx, hb, hrt, hml, hown, hw, hlk, hK, hF, hsz⟩ := id E
  have hl : lv_has ls 3 [(0, .ref (ad 0 0)), (1, .int x1)] := hl
  refine lv_iload_n hx hb dX9_calm_0 rfl (lv_at hl 1 rfl) ?_
  refine lv_iconst (v := 4) hx hb dX9_calm_1 (by decide) ?_
  by_cases h1 : wi x1 4 = true
  · have v2 : vp_in x1 4 := wi_in h1 (by decide) (by decide)
    refine q_cSp E G [] (k_X9_isWithin_t l D cy sz ad n S x1 4 h1) tb_117 tb_118 tb_1 tb_119 (nn := 2) (by decide +kernel) ⟨Nat.le_of_ble_eq_true rfl, Nat.le_of_ble_eq_true rfl⟩ rfl hl.1 rfl (Nat.le_of_ble_eq_true rfl) dX9_calm_2 ⟨Nat.zero_le _, Nat.zero_le _⟩ (fun H locs G => ?_)
    refine lv_if_ne (tgt := 15) hx hb dX9_calm_5 (by decide) (fun _ => ?_) (fun h => absurd h (by decide))
    refine lv_aload_n hx hb dX9_calm_15 rfl (lv_at hl 0 rfl) ?_
    refine q_get (index := 33) (ref := "ToolRoom") E G inX9 0 0 c0 sg_0 rfl 4 (by decide) tb_86 (Or.inl rfl) rfl dX9_calm_16 ?_
    refine lv_iload_n hx hb dX9_calm_19 rfl (lv_at hl 1 rfl) ?_
    refine q_zald E G 5 0 c5 sa_5 v2 dX9_calm_20 ?_
    refine lv_istore_n (lv' := [(2, .int (S.1 5 0 x1.toNatClampNeg)), (0, .ref (ad 0 0)), (1, .int x1)]) hx hb dX9_calm_21 rfl hl (by decide) rfl (fun ls hl => ?_)
    refine lv_aload_n hx hb dX9_calm_22 rfl (lv_at hl 1 rfl) ?_
    refine q_get (index := 33) (ref := "ToolRoom") E G inX9 0 0 c0 sg_0 rfl 4 (by decide) tb_86 (Or.inl rfl) rfl dX9_calm_23 ?_
    refine lv_iload_n hx hb dX9_calm_26 rfl (lv_at hl 2 rfl) ?_
    refine lv_iconst (v := 0) hx hb dX9_calm_27 (by decide) ?_
    refine q_zast E G 5 0 c5 (fun _ => sa_5) v2 (by decide) dX9_calm_28 (fun H locs G => ?_)
    refine lv_aload_n hx hb dX9_calm_29 rfl (lv_at hl 1 rfl) ?_
    refine lv_iload_n hx hb dX9_calm_30 rfl (lv_at hl 0 rfl) ?_
    refine lv_if_eq (tgt := 38) hx hb dX9_calm_31 (by decide) (fun h3 => ?_) (fun h3 => ?_)
    · refine lv_iconst (v := 0) hx hb dX9_calm_38 (by decide) ?_
      refine q_cV (rest := []) E G 0 0 c0 sg_0 (C := RX9) (T := TX9) (N := 10) rfl (k_X9_done l D cy sz ad n (uI S 5 0 x1.toNatClampNeg 0) 0) tb_192 tb_194 tp_1 tb_1 tb_195 (nn := 1) (by decide +kernel) ⟨Nat.le_of_ble_eq_true rfl, Nat.le_of_ble_eq_true rfl⟩ rfl hl.1 rfl (Nat.le_of_ble_eq_true rfl) dX9_calm_39 ⟨Nat.zero_le _, Nat.zero_le _⟩ (fun H locs G => ?_)
      exact q_iret E G (by unfold f_X9_calm; simp only [if_pos h1, if_pos h3, pr_eta]) dX9_calm_42
    · refine lv_iconst (v := 1) hx hb dX9_calm_34 (by decide) ?_
      refine lv_goto (tgt := 39) hx hb dX9_calm_35 (by decide) ?_
      refine q_cV (rest := []) E G 0 0 c0 sg_0 (C := RX9) (T := TX9) (N := 10) rfl (k_X9_done l D cy sz ad n (uI S 5 0 x1.toNatClampNeg 0) 1) tb_192 tb_194 tp_1 tb_1 tb_195 (nn := 1) (by decide +kernel) ⟨Nat.le_of_ble_eq_true rfl, Nat.le_of_ble_eq_true rfl⟩ rfl hl.1 rfl (Nat.le_of_ble_eq_true rfl) dX9_calm_39 ⟨Nat.zero_le _, Nat.zero_le _⟩ (fun H locs G => ?_)
      exact q_iret E G (by unfold f_X9_calm; simp only [if_pos h1, if_neg h3, pr_eta]) dX9_calm_42
  · refine q_cSp E G [] (k_X9_isWithin_f l D cy sz ad n S x1 4 h1) tb_117 tb_118 tb_1 tb_119 (nn := 2) (by decide +kernel) ⟨Nat.le_of_ble_eq_true rfl, Nat.le_of_ble_eq_true rfl⟩ rfl hl.1 rfl (Nat.le_of_ble_eq_true rfl) dX9_calm_2 ⟨Nat.zero_le _, Nat.zero_le _⟩ (fun H locs G => ?_)
    refine lv_if_ne (tgt := 15) hx hb dX9_calm_5 (by decide) (fun h => absurd h (by decide)) (fun _ => ?_)
    refine lv_aload_n hx hb dX9_calm_8 rfl (lv_at hl 0 rfl) ?_
    refine lv_bipush (v := (-2)) hx hb dX9_calm_9 (by decide) ?_
    refine q_cV (rest := []) E G 0 0 c0 sg_0 (C := RX9) (T := TX9) (N := 10) rfl (k_X9_refuse l D cy sz ad n S (-2)) tb_120 tb_122 tp_0 tb_1 tb_123 (nn := 1) (by decide +kernel) ⟨Nat.le_of_ble_eq_true rfl, Nat.le_of_ble_eq_true rfl⟩ rfl hl.1 rfl (Nat.le_of_ble_eq_true rfl) dX9_calm_11 ⟨Nat.zero_le _, Nat.zero_le _⟩ (fun H locs G => ?_)
    exact q_iret E G (by unfold f_X9_calm; simp only [if_neg h1, pr_eta]) dX9_calm_14

def f_X9_let (S : SS) (x1 : Int32) : Int32 × SS := if wi x1 4 = true then (if (S.1 5 0 x1.toNatClampNeg) = 0 then (f_X9_fail S 1) else ((f_X9_fail S 6).1, (uI ((f_X9_fail S 6).2) 0 0 9 (((f_X9_fail S 6).2).1 6 0 x1.toNatClampNeg)))) else (f_X9_refuse S (-2))
set_option maxHeartbeats 4000000 in
set_option maxRecDepth 100000 in
theorem k_X9_let (l : Launch) (D : va_G) (cy : Nat → ClassId) (sz : Nat) (ad : Nat → Nat → Nat) (n : Nat) (S : SS) (ok : okC n S) (x1 : Int32) : CI l yX9_let cX9_let 3 (some .int) 2 42 [.ref (ad 0 0), .int x1] D cy sz ad n S (f_X9_let S x1) := by
  refine Met.enter (by decide) (Nat.le_of_ble_eq_true rfl) (fun p e s m args below meth c ls E G hl => ?_)
  have E : En p s m args meth c cX9_let 3 (some .int) RX9 D cy sz := E
  obtain ⟨hx, hb, hrt, hml, hown, hw, hlk, hK, hF, hsz⟩ := id E
  have hl : lv_has ls 3 [(0, .ref (ad 0 0)), (1, .int x1)] := hl
  refine lv_iload_n hx hb dX9_let_0 rfl (lv_at hl 1 rfl) ?_
  refine lv_iconst (v := 4) hx hb dX9_let_1 (by decide) ?_
  by_cases h1 : wi x1 4 = true
  · have v2 : vp_in x1 4 := wi_in h1 (by decide) (by decide)
    refine q_cSp E G [] (k_X9_isWithin_t l D cy sz ad n S x1 4 h1) tb_117 tb_118 tb_1 tb_119 (nn := 2) (by decide +kernel) ⟨Nat.le_of_ble_eq_true rfl, Nat.le_of_ble_eq_true rfl⟩ rfl hl.1 rfl (Nat.le_of_ble_eq_true rfl) dX9_let_2 ⟨Nat.zero_le _, Nat.zero_le _⟩ (fun H locs G => ?_)
    refine lv_if_ne (tgt := 15) hx hb dX9_let_5 (by decide) (fun _ => ?_) (fun h => absurd h (by decide))
    refine lv_aload_n hx hb dX9_let_15 rfl (lv_at hl 0 rfl) ?_
    refine q_get (index := 33) (ref := "ToolRoom") E G inX9 0 0 c0 sg_0 rfl 4 (by decide) tb_86 (Or.inl rfl) rfl dX9_let_16 ?_
    refine lv_iload_n hx hb dX9_let_19 rfl (lv_at hl 1 rfl) ?_
    refine q_zald E G 5 0 c5 sa_5 v2 dX9_let_20 ?_
    refine lv_if_ne (tgt := 30) hx hb dX9_let_21 (by decide) (fun h3 => ?_) (fun h3 => ?_)
    · refine lv_aload_n hx hb dX9_let_30 rfl (lv_at hl 0 rfl) ?_
      refine lv_bipush (v := 6) hx hb dX9_let_31 (by decide) ?_
      refine q_cV (rest := []) E G 0 0 c0 sg_0 (C := RX9) (T := TX9) (N := 10) rfl (k_X9_fail l D cy sz ad n S 6 (by unfold vp_in; decide)) tb_227 tb_229 tp_2 tb_1 tb_230 (nn := 1) (by decide +kernel) ⟨Nat.le_of_ble_eq_true rfl, Nat.le_of_ble_eq_true rfl⟩ rfl hl.1 rfl (Nat.le_of_ble_eq_true rfl) dX9_let_33 ⟨Nat.zero_le _, Nat.zero_le _⟩ (fun H locs G => ?_)
      refine lv_istore_n (lv' := [(2, .int (f_X9_fail S 6).1), (0, .ref (ad 0 0)), (1, .int x1)]) hx hb dX9_let_36 rfl hl (by decide) rfl (fun ls hl => ?_)
      refine lv_aload_n hx hb dX9_let_37 rfl (lv_at hl 1 rfl) ?_
      refine lv_aload_n hx hb dX9_let_38 rfl (lv_at hl 1 rfl) ?_
      refine q_get (index := 37) (ref := "ToolRoom") E G inX9 0 0 c0 sg_0 rfl 5 (by decide) tb_87 (Or.inl rfl) rfl dX9_let_39 ?_
      refine lv_iload_n hx hb dX9_let_42 rfl (lv_at hl 2 rfl) ?_
      refine q_iald E G 6 0 c6 sa_6 v2 dX9_let_43 ?_
      refine q_put (index := 51) (ref := "ToolRoom") E G inX9 tyX9 tyX9_ok nmX9 0 0 c0 9 sg_0 rfl 9 (by decide) tb_91 (Or.inl rfl) rfl (ty := .int) (by decide +kernel) rfl rfl (Nat.le_of_ble_eq_true rfl) sp_0_9 dX9_let_44 (fun H locs G => ?_)
      refine lv_iload_n hx hb dX9_let_47 rfl (lv_at hl 0 rfl) ?_
      exact q_iret E G (by unfold f_X9_let; simp only [if_pos h1, if_neg h3, pr_eta]) dX9_let_48
    · refine lv_aload_n hx hb dX9_let_24 rfl (lv_at hl 0 rfl) ?_
      refine lv_iconst (v := 1) hx hb dX9_let_25 (by decide) ?_
      refine q_cV (rest := []) E G 0 0 c0 sg_0 (C := RX9) (T := TX9) (N := 10) rfl (k_X9_fail l D cy sz ad n S 1 (by unfold vp_in; decide)) tb_227 tb_229 tp_2 tb_1 tb_230 (nn := 1) (by decide +kernel) ⟨Nat.le_of_ble_eq_true rfl, Nat.le_of_ble_eq_true rfl⟩ rfl hl.1 rfl (Nat.le_of_ble_eq_true rfl) dX9_let_26 ⟨Nat.zero_le _, Nat.zero_le _⟩ (fun H locs G => ?_)
      exact q_iret E G (by unfold f_X9_let; simp only [if_pos h1, if_pos h3, pr_eta]) dX9_let_29
  · refine q_cSp E G [] (k_X9_isWithin_f l D cy sz ad n S x1 4 h1) tb_117 tb_118 tb_1 tb_119 (nn := 2) (by decide +kernel) ⟨Nat.le_of_ble_eq_true rfl, Nat.le_of_ble_eq_true rfl⟩ rfl hl.1 rfl (Nat.le_of_ble_eq_true rfl) dX9_let_2 ⟨Nat.zero_le _, Nat.zero_le _⟩ (fun H locs G => ?_)
    refine lv_if_ne (tgt := 15) hx hb dX9_let_5 (by decide) (fun h => absurd h (by decide)) (fun _ => ?_)
    refine lv_aload_n hx hb dX9_let_8 rfl (lv_at hl 0 rfl) ?_
    refine lv_bipush (v := (-2)) hx hb dX9_let_9 (by decide) ?_
    refine q_cV (rest := []) E G 0 0 c0 sg_0 (C := RX9) (T := TX9) (N := 10) rfl (k_X9_refuse l D cy sz ad n S (-2)) tb_120 tb_122 tp_0 tb_1 tb_123 (nn := 1) (by decide +kernel) ⟨Nat.le_of_ble_eq_true rfl, Nat.le_of_ble_eq_true rfl⟩ rfl hl.1 rfl (Nat.le_of_ble_eq_true rfl) dX9_let_11 ⟨Nat.zero_le _, Nat.zero_le _⟩ (fun H locs G => ?_)
    exact q_iret E G (by unfold f_X9_let; simp only [if_neg h1, pr_eta]) dX9_let_14

def f_X9_why (S : SS) : Int32 × SS := ((S.1 0 0 9), S)
set_option maxHeartbeats 4000000 in
set_option maxRecDepth 100000 in
theorem k_X9_why (l : Launch) (D : va_G) (cy : Nat → ClassId) (sz : Nat) (ad : Nat → Nat → Nat) (n : Nat) (S : SS) (ok : okC n S) : CI l yX9_why cX9_why 1 (some .int) 0 0 [.ref (ad 0 0)] D cy sz ad n S (f_X9_why S ) := by
  refine Met.enter (by decide) (Nat.le_of_ble_eq_true rfl) (fun p e s m args below meth c ls E G hl => ?_)
  have E : En p s m args meth c cX9_why 1 (some .int) RX9 D cy sz := E
  obtain ⟨hx, hb, hrt, hml, hown, hw, hlk, hK, hF, hsz⟩ := id E
  have hl : lv_has ls 1 [(0, .ref (ad 0 0))] := hl
  refine lv_aload_n hx hb dX9_why_0 rfl (lv_at hl 0 rfl) ?_
  refine q_get (index := 51) (ref := "ToolRoom") E G inX9 0 0 c0 sg_0 rfl 9 (by decide) tb_91 (Or.inl rfl) rfl dX9_why_1 ?_
  exact q_iret E G (by rfl) dX9_why_4

def f_X9_count (S : SS) (x1 : Int32) : Int32 × SS := if x1 = 0 then ((S.1 0 0 7), S) else (if x1 = 7 then ((S.1 0 0 8), S) else (if x1 < 1 then ((-3), S) else (if 6 < x1 then ((-3), S) else ((S.1 7 0 x1.toNatClampNeg), S))))
set_option maxHeartbeats 4000000 in
set_option maxRecDepth 100000 in
theorem k_X9_count (l : Launch) (D : va_G) (cy : Nat → ClassId) (sz : Nat) (ad : Nat → Nat → Nat) (n : Nat) (S : SS) (ok : okC n S) (x1 : Int32) : CI l yX9_count cX9_count 2 (some .int) 0 0 [.ref (ad 0 0), .int x1] D cy sz ad n S (f_X9_count S x1) := by
  refine Met.enter (by decide) (Nat.le_of_ble_eq_true rfl) (fun p e s m args below meth c ls E G hl => ?_)
  have E : En p s m args meth c cX9_count 2 (some .int) RX9 D cy sz := E
  obtain ⟨hx, hb, hrt, hml, hown, hw, hlk, hK, hF, hsz⟩ := id E
  have hl : lv_has ls 2 [(0, .ref (ad 0 0)), (1, .int x1)] := hl
  refine lv_iload_n hx hb dX9_count_0 rfl (lv_at hl 1 rfl) ?_
  refine lv_if_ne (tgt := 9) hx hb dX9_count_1 (by decide) (fun h1 => ?_) (fun h1 => ?_)
  · refine lv_iload_n hx hb dX9_count_9 rfl (lv_at hl 1 rfl) ?_
    refine lv_bipush (v := 7) hx hb dX9_count_10 (by decide) ?_
    refine lv_icmp_ne (tgt := 20) hx hb dX9_count_12 (by decide) (fun h2 => ?_) (fun h2 => ?_)
    · refine lv_iload_n hx hb dX9_count_20 rfl (lv_at hl 1 rfl) ?_
      refine lv_iconst (v := 1) hx hb dX9_count_21 (by decide) ?_
      refine lv_icmp_lt (tgt := 40) hx hb dX9_count_22 (by decide) (fun h3 => ?_) (fun h3 => ?_)
      · refine lv_bipush (v := (-3)) hx hb dX9_count_40 (by decide) ?_
        exact q_iret E G (by unfold f_X9_count; simp only [if_neg h1, if_neg h2, if_pos h3, pr_eta]) dX9_count_42
      · refine lv_iload_n hx hb dX9_count_25 rfl (lv_at hl 1 rfl) ?_
        refine lv_bipush (v := 6) hx hb dX9_count_26 (by decide) ?_
        refine lv_icmp_gt (tgt := 40) hx hb dX9_count_28 (by decide) (fun h4 => ?_) (fun h4 => ?_)
        · refine lv_bipush (v := (-3)) hx hb dX9_count_40 (by decide) ?_
          exact q_iret E G (by unfold f_X9_count; simp only [if_neg h1, if_neg h2, if_neg h3, if_pos h4, pr_eta]) dX9_count_42
        · refine lv_aload_n hx hb dX9_count_31 rfl (lv_at hl 0 rfl) ?_
          refine q_get (index := 41) (ref := "ToolRoom") E G inX9 0 0 c0 sg_0 rfl 6 (by decide) tb_88 (Or.inl rfl) rfl dX9_count_32 ?_
          refine lv_iload_n hx hb dX9_count_35 rfl (lv_at hl 1 rfl) ?_
          refine q_iald E G 7 0 c7 sa_7 (cnt_in h3 h4) dX9_count_36 ?_
          refine lv_goto (tgt := 42) hx hb dX9_count_37 (by decide) ?_
          exact q_iret E G (by unfold f_X9_count; simp only [if_neg h1, if_neg h2, if_neg h3, if_neg h4, pr_eta]) dX9_count_42
    · refine lv_aload_n hx hb dX9_count_15 rfl (lv_at hl 0 rfl) ?_
      refine q_get (index := 48) (ref := "ToolRoom") E G inX9 0 0 c0 sg_0 rfl 8 (by decide) tb_90 (Or.inl rfl) rfl dX9_count_16 ?_
      exact q_iret E G (by unfold f_X9_count; simp only [if_neg h1, if_pos h2, pr_eta]) dX9_count_19
  · refine lv_aload_n hx hb dX9_count_4 rfl (lv_at hl 0 rfl) ?_
    refine q_get (index := 44) (ref := "ToolRoom") E G inX9 0 0 c0 sg_0 rfl 7 (by decide) tb_89 (Or.inl rfl) rfl dX9_count_5 ?_
    exact q_iret E G (by unfold f_X9_count; simp only [if_pos h1, pr_eta]) dX9_count_8

def f_X9_shiftOnce (S : SS) (t : Nat) (x1 : Int32) (x2 : Int32) (x4 : Int32) : Int32 × SS := if wi x1 10 = true then (match S.2 1 0 x1.toNatClampNeg with | none => (1, S) | some t3 => if (pA ((f_work (uI S 0 0 8 ((S.1 0 0 8) + 1)) t3 x2).2) 8 t x4) = 0 then ((pA ((f_work (uI S 0 0 8 ((S.1 0 0 8) + 1)) t3 x2).2) 8 t x4), (uI ((f_work (uI S 0 0 8 ((S.1 0 0 8) + 1)) t3 x2).2) 9 t x4.toNatClampNeg (f_work (uI S 0 0 8 ((S.1 0 0 8) + 1)) t3 x2).1)) else ((pA ((f_work (uI S 0 0 8 ((S.1 0 0 8) + 1)) t3 x2).2) 8 t x4), (f_work (uI S 0 0 8 ((S.1 0 0 8) + 1)) t3 x2).2)) else (2, S)
set_option maxHeartbeats 4000000 in
set_option maxRecDepth 100000 in
theorem k_X9_shiftOnce (l : Launch) (D : va_G) (cy : Nat → ClassId) (sz : Nat) (ad : Nat → Nat → Nat) (n : Nat) (S : SS) (ok : okC n S) (t : Nat) (ht : t < 4) (x1 : Int32) (x2 : Int32) (x4 : Int32) : CI l yX9_shiftOnce cX9_shiftOnce 8 (some .int) 2 43 [.ref (ad 0 0), .int x1, .int x2, .ref (ad 8 t), .int x4] D cy sz ad n S (f_X9_shiftOnce S t x1 x2 x4) := by
  refine Met.enter (by decide) (Nat.le_of_ble_eq_true rfl) (fun p e s m args below meth c ls E G hl => ?_)
  have E : En p s m args meth c cX9_shiftOnce 8 (some .int) RX9 D cy sz := E
  obtain ⟨hx, hb, hrt, hml, hown, hw, hlk, hK, hF, hsz⟩ := id E
  have hl : lv_has ls 8 [(0, .ref (ad 0 0)), (1, .int x1), (2, .int x2), (3, .ref (ad 8 t)), (4, .int x4)] := hl
  refine lv_iload_n hx hb dX9_shiftOnce_0 rfl (lv_at hl 1 rfl) ?_
  refine lv_bipush (v := 10) hx hb dX9_shiftOnce_1 (by decide) ?_
  by_cases h1 : wi x1 10 = true
  · have v2 : vp_in x1 10 := wi_in h1 (by decide) (by decide)
    refine q_cSp E G [] (k_X9_isWithin_t l D cy sz ad n S x1 10 h1) tb_117 tb_118 tb_1 tb_119 (nn := 2) (by decide +kernel) ⟨Nat.le_of_ble_eq_true rfl, Nat.le_of_ble_eq_true rfl⟩ rfl hl.1 rfl (Nat.le_of_ble_eq_true rfl) dX9_shiftOnce_3 ⟨Nat.zero_le _, Nat.zero_le _⟩ (fun H locs G => ?_)
    refine lv_if_ne (tgt := 11) hx hb dX9_shiftOnce_6 (by decide) (fun _ => ?_) (fun h => absurd h (by decide))
    refine lv_aload_n hx hb dX9_shiftOnce_11 rfl (lv_at hl 0 rfl) ?_
    refine q_get (index := 11) (ref := "ToolRoom") E G inX9 0 0 c0 sg_0 rfl 0 (by decide) tb_82 (Or.inl rfl) rfl dX9_shiftOnce_12 ?_
    refine lv_iload_n hx hb dX9_shiftOnce_15 rfl (lv_at hl 1 rfl) ?_
    refine q_aaldT E G 1 0 c1 sa_1 v2 dX9_shiftOnce_16 (fun h3 => ?_) (fun t3 h3 => ?_)
    · refine lv_astoreN (lv' := [(5, .null), (0, .ref (ad 0 0)), (1, .int x1), (2, .int x2), (3, .ref (ad 8 t)), (4, .int x4)]) hx hb dX9_shiftOnce_17 hl (by decide) rfl (fun ls hl => ?_)
      refine lv_aloadN hx hb dX9_shiftOnce_19 (lv_at hl 0 rfl) ?_
      refine lv_ifnonnullN hx hb dX9_shiftOnce_21 ?_
      refine lv_iconst (v := 1) hx hb dX9_shiftOnce_24 (by decide) ?_
      exact q_iret E G (by unfold f_X9_shiftOnce; simp only [if_pos h1, h3, pr_eta]) dX9_shiftOnce_25
    · have kt3 : t3 < n := ok.1 _ _ _ _ h3
      refine lv_astore (lv' := [(5, .ref (ad 16 t3)), (0, .ref (ad 0 0)), (1, .int x1), (2, .int x2), (3, .ref (ad 8 t)), (4, .int x4)]) hx hb dX9_shiftOnce_17 hl (by decide) rfl (fun ls hl => ?_)
      refine lv_aload hx hb dX9_shiftOnce_19 (lv_at hl 0 rfl) ?_
      refine lv_ifnonnull (tgt := 26) hx hb dX9_shiftOnce_21 (by decide) ?_
      refine lv_aload_n hx hb dX9_shiftOnce_26 rfl (lv_at hl 1 rfl) ?_
      refine lv_dup hx hb dX9_shiftOnce_27 rfl ?_
      refine q_get (index := 48) (ref := "ToolRoom") E G inX9 0 0 c0 sg_0 rfl 8 (by decide) tb_90 (Or.inl rfl) rfl dX9_shiftOnce_28 ?_
      refine lv_iconst (v := 1) hx hb dX9_shiftOnce_31 (by decide) ?_
      refine lv_iadd hx hb dX9_shiftOnce_32 ?_
      refine q_put (index := 48) (ref := "ToolRoom") E G inX9 tyX9 tyX9_ok nmX9 0 0 c0 8 sg_0 rfl 8 (by decide) tb_90 (Or.inl rfl) rfl (ty := .int) (by decide +kernel) rfl rfl (Nat.le_of_ble_eq_true rfl) sp_0_8 dX9_shiftOnce_33 (fun H locs G => ?_)
      refine lv_aload hx hb dX9_shiftOnce_36 (lv_at hl 0 rfl) ?_
      refine lv_iload_n hx hb dX9_shiftOnce_38 rfl (lv_at hl 3 rfl) ?_
      refine q_t_work E G kt3 [] ⟨Nat.le_of_ble_eq_true rfl, Nat.le_of_ble_eq_true rfl⟩ hl.1 rfl (Nat.le_of_ble_eq_true rfl) dX9_shiftOnce_39 ⟨Nat.zero_le _, Nat.zero_le _⟩ (fun H locs G => ?_)
      refine lv_istore (lv' := [(6, .int (f_work (uI S 0 0 8 ((S.1 0 0 8) + 1)) t3 x2).1), (5, .ref (ad 16 t3)), (0, .ref (ad 0 0)), (1, .int x1), (2, .int x2), (3, .ref (ad 8 t)), (4, .int x4)]) hx hb dX9_shiftOnce_42 hl (by decide) rfl (fun ls hl => ?_)
      refine lv_aload_n hx hb dX9_shiftOnce_44 rfl (lv_at hl 5 rfl) ?_
      refine lv_iload hx hb dX9_shiftOnce_45 (lv_at hl 6 rfl) ?_
      refine q_cSp E G [] (k_X9_failureAt l D cy sz ad n ((f_work (uI S 0 0 8 ((S.1 0 0 8) + 1)) t3 x2).2) 8 t (Or.inl rfl) (c8 ht) x4) tb_302 tb_303 tb_1 tb_304 (nn := 2) (by decide +kernel) ⟨Nat.le_of_ble_eq_true rfl, Nat.le_of_ble_eq_true rfl⟩ rfl hl.1 rfl (Nat.le_of_ble_eq_true rfl) dX9_shiftOnce_47 ⟨Nat.zero_le _, Nat.zero_le _⟩ (fun H locs G => ?_)
      refine lv_istore (lv' := [(7, .int (pA ((f_work (uI S 0 0 8 ((S.1 0 0 8) + 1)) t3 x2).2) 8 t x4)), (6, .int (f_work (uI S 0 0 8 ((S.1 0 0 8) + 1)) t3 x2).1), (5, .ref (ad 16 t3)), (0, .ref (ad 0 0)), (1, .int x1), (2, .int x2), (3, .ref (ad 8 t)), (4, .int x4)]) hx hb dX9_shiftOnce_50 hl (by decide) rfl (fun ls hl => ?_)
      refine lv_iload hx hb dX9_shiftOnce_52 (lv_at hl 0 rfl) ?_
      refine lv_if_ne (tgt := 66) hx hb dX9_shiftOnce_54 (by decide) (fun h4 => ?_) (fun h4 => ?_)
      · refine lv_iload hx hb dX9_shiftOnce_66 (lv_at hl 0 rfl) ?_
        exact q_iret E G (by unfold f_X9_shiftOnce; simp only [if_pos h1, h3, if_neg h4, pr_eta]) dX9_shiftOnce_68
      · have v5 : vp_in x4 20 := wi_le (pA_0 h4) ((by rw [fw_8 _ _ _ _ _ _ (by decide), uI_nf (by decide)]; exact ok.2.1 _ ht)) (by decide)
        refine lv_aload_n hx hb dX9_shiftOnce_57 rfl (lv_at hl 6 rfl) ?_
        refine q_get (index := 120) (ref := "ToolRoom$Row") E G inX7 8 t (c8 ht) sg_8 rfl 1 (by decide) tb_37 (Or.inl rfl) rfl dX9_shiftOnce_58 ?_
        refine lv_iload hx hb dX9_shiftOnce_61 (lv_at hl 7 rfl) ?_
        refine lv_iload hx hb dX9_shiftOnce_63 (lv_at hl 1 rfl) ?_
        refine q_iast E G 9 t (c9 ht) (fun _ => sa_9) v5 dX9_shiftOnce_65 (fun H locs G => ?_)
        refine lv_iload hx hb dX9_shiftOnce_66 (lv_at hl 0 rfl) ?_
        exact q_iret E G (by unfold f_X9_shiftOnce; simp only [if_pos h1, h3, if_pos h4, pr_eta]) dX9_shiftOnce_68
  · refine q_cSp E G [] (k_X9_isWithin_f l D cy sz ad n S x1 10 h1) tb_117 tb_118 tb_1 tb_119 (nn := 2) (by decide +kernel) ⟨Nat.le_of_ble_eq_true rfl, Nat.le_of_ble_eq_true rfl⟩ rfl hl.1 rfl (Nat.le_of_ble_eq_true rfl) dX9_shiftOnce_3 ⟨Nat.zero_le _, Nat.zero_le _⟩ (fun H locs G => ?_)
    refine lv_if_ne (tgt := 11) hx hb dX9_shiftOnce_6 (by decide) (fun h => absurd h (by decide)) (fun _ => ?_)
    refine lv_iconst (v := 2) hx hb dX9_shiftOnce_9 (by decide) ?_
    exact q_iret E G (by unfold f_X9_shiftOnce; simp only [if_neg h1, pr_eta]) dX9_shiftOnce_10
end
section
/-- the addresses with one more tool -/
def adU (ad : Nat → Nat → Nat) (n q : Nat) : Nat → Nat → Nat := fun f i => if f = 16 ∧ i = n then q else ad f i
theorem adU_f {ad : Nat → Nat → Nat} {n q f i : Nat} (h : f ≠ 16) : adU ad n q f i = ad f i := by simp [adU, h]
theorem adU_i {ad : Nat → Nat → Nat} {n q i : Nat} (h : i ≠ n) : adU ad n q 16 i = ad 16 i := by simp [adU, h]
theorem adU_n {ad : Nat → Nat → Nat} {n q : Nat} : adU ad n q 16 n = q := by simp [adU]
theorem tq_adU {ad : Nat → Nat → Nat} {n q : Nat} {r : Nat → Option Nat} (h : ∀ j k, r j = some k → k < n) : tq (adU ad n q) r = tq ad r := by
  funext j
  unfold tq
  cases hr : r j with
  | none => rfl
  | some k =>
    have := h j k hr
    simp only [Option.map_some]
    rw [adU_i (by omega)]
theorem sh_adU {cy : Nat → ClassId} {ad : Nat → Nat → Nat} {n q f i : Nat} {a : Nat → Int32} {r : Nat → Option Nat} (h : ∀ j k, r j = some k → k < n) : sh cy (adU ad n q) f i a r = sh cy ad f i a r := by
  unfold sh
  split <;> first | rfl | (rw [tq_adU h]; done) | (simp only [adU_f (show (1 : Nat) ≠ 16 by decide), adU_f (show (2 : Nat) ≠ 16 by decide), adU_f (show (3 : Nat) ≠ 16 by decide), adU_f (show (4 : Nat) ≠ 16 by decide), adU_f (show (5 : Nat) ≠ 16 by decide), adU_f (show (6 : Nat) ≠ 16 by decide), adU_f (show (7 : Nat) ≠ 16 by decide), adU_f (show (8 : Nat) ≠ 16 by decide), adU_f (show (9 : Nat) ≠ 16 by decide), adU_f (show (10 : Nat) ≠ 16 by decide), adU_f (show (11 : Nat) ≠ 16 by decide), adU_f (show (12 : Nat) ≠ 16 by decide), adU_f (show (13 : Nat) ≠ 16 by decide), adU_f (show (14 : Nat) ≠ 16 by decide), adU_f (show (15 : Nat) ≠ 16 by decide), adU_f (show (18 : Nat) ≠ 16 by decide)]; done)
theorem nmB_ne : ∀ x ∈ nmB, x.1 ≠ 16 := by decide
theorem pool_push {cy : Nat → ClassId} {ad : Nat → Nat → Nat} {n q : Nat} {S : SS} {r : Nat → Int32} (h : ∀ f i j k, S.2 f i j = some k → k < n) : pool cy ad n S ++ [(q, tE r)] = pool cy (adU ad n q) (n + 1) (wI S 16 n r) := by
  unfold pool nms
  rw [List.range_succ, List.map_append, List.map_append, List.map_append, List.map_append, List.append_assoc]
  have key : ∀ x : Nat × Nat, ¬ (x.1 = 16 ∧ x.2 = n) → ce cy ad S x = ce cy (adU ad n q) (wI S 16 n r) x := by
    intro x hx
    unfold ce
    rw [wI_ne S 16 n r hx]
    rw [show (wI S 16 n r).2 = S.2 from rfl, sh_adU (fun j k => h x.1 x.2 j k)]
    rw [show adU ad n q x.1 x.2 = ad x.1 x.2 by simp [adU, hx]]
  congr 1
  · apply List.map_congr_left
    intro x hx
    exact key x (fun z => nmB_ne x hx z.1)
  · congr 1
    · rw [List.map_map, List.map_map]
      apply List.map_congr_left
      intro i hi
      exact key (16, i) (fun z => by have := List.mem_range.mp hi; have := z.2; simp only at this; omega)
    · show [(q, tE r)] = [ce cy (adU ad n q) (wI S 16 n r) (16, n)]
      unfold ce
      rw [show adU ad n q (16, n).1 (16, n).2 = q from adU_n, show (wI S 16 n r).1 (16, n).1 (16, n).2 = r from wI_eq S 16 n r]
      rfl
def r0 (k : Int32) : Nat → Int32 := fun j => if j = 4 then k else 0
section NT
variable {p : Program} {l : Launch} {e : Env} {R : Room} {s : State} {m : MethodId} {args : Array Value} {below : List Frame} {meth : Method} {c : Code} {H : Heap} {locs : List Loc} {cells slots : Nat} {Q : State → Prop}
variable {cc : ByteArray} {mL : Nat} {rt : Option FieldType} {own : String} {pc : Nat} {ls : Array Slot} {st : List Value} {D : va_G} {cy : Nat → ClassId} {sz : Nat} {ad : Nat → Nat → Nat} {n : Nat} {S : SS}
variable {y : MethodName} {b : ByteArray} {k fr lo index nn : Nat} {r : Option FieldType} {As : List Value} {rest : List Value} {F : SS}
theorem q_newT {C : String} {T : u_T} {N ci : Nat} (kd : Int32) (E : En p s m args meth c cc mL rt own D cy sz) (G : Gd D cy sz ad n S s.heap H locs) (hR : ∀ f i j k, S.2 f i j = some k → k < n) (hin : ∀ w ∈ u_ws C T N, w ∈ wl) (ty : Nat → FieldType) (hty : ∀ k, k < N → parseFieldDescriptor (T k).2.2.1 = some (ty k)) (hcl : Cond.classLink own index C ∈ wl) (hinst : Cond.instantiable C N ∈ wl) (hini : Cond.initialized C ∈ wl) (hc : vwCl[ci]? = some (C, T, N)) {fs : List Value} (hfs : ∀ j, j < N → defaultValue (ty j) = vp_V fs j) (hsh : tE (r0 kd) = .inr (ci, fs)) (hcells : cells + 1 ≤ R.cells) (hslots : slots + N ≤ R.slots) (hdg : decode cc pc = .ok (.new index, 3))
    (kk : ∀ (q : Nat) (H1 : Heap), Gd D cy sz (adU ad n q) (n + 1) (wI S 16 n (r0 kd)) s.heap H1 locs → W p l e R s m args below meth c H1 locs (cells + 1) (slots + N) Q (F0 m (pc + 3) ls (.ref q :: rest))) : W p l e R s m args below meth c H locs cells slots Q (F0 m pc ls rest) := by
  obtain ⟨hx, hb, hr, hml, hown, hw, hlk, hK, hF, hsz⟩ := id E
  refine va_new (ci := ci) (fs := fs) hx hb hw hin ty hty hown (hw _ hcl) (hw _ hinst) (hw _ hini) hK G.1 G.2.1 G.2.2 (En.hA E) hc hfs hcells hslots hdg (fun q H1 h1 h2 h3 => ?_)
  have e1 : pool cy ad n S ++ [(q, .inr (ci, fs))] = pool cy (adU ad n q) (n + 1) (wI S 16 n (r0 kd)) := by rw [← hsh]; exact pool_push hR
  rw [e1] at h1 h2
  exact kk q H1 ⟨h1, h2, h3⟩
/-- a private constructor of a nest mate -/
theorem q_cIN (E : En p s m args meth c cc mL rt own D cy sz) (G : Gd D cy sz ad n S s.heap H locs) {o : Nat}
    (hM : CV l y b k fr lo (.ref o :: As) D cy sz ad n S F) (hl : (own, index, y, "ToolRoom") ∈ xNest) (h4 : Cond.initialized y.cls ∈ wl) (h6 : Cond.instanceMethod y ∈ wl) (h5 : Cond.code y b k none ∈ wl) (hy1 : y.name = "<init>")
    (hd : y.cls ≠ "java/lang/invoke/MethodHandle" ∧ y.cls ≠ "java/lang/invoke/VarHandle" ∧ (parseMethodDescriptor y.desc).map (fun d => d.parameters.length) = some nn) (hR : fr + 1 ≤ R.frames ∧ 8 + (k + 11) + lo ≤ R.locals) (hn : As.length = nn) (hls : ls.size = mL) (hst : st = As.reverse ++ .ref o :: rest) (hrest : (rest.map fun v => v.category).sum ≤ 8)
    (hdg : decode cc pc = .ok (.invokespecial index, 3)) (hcs : cells ≤ R.cells ∧ slots ≤ R.slots)
    (kk : ∀ (H1 : Heap) (locs1 : List Loc), Gd D cy sz ad n F s.heap H1 locs1 → W p l e R s m args below meth c H1 locs1 cells slots Q (F0 m (pc + 3) ls rest)) : W p l e R s m args below meth c H locs cells slots Q (F0 m pc ls st) := by
  obtain ⟨hx, hb, hr, hml, hown, hw, hlk, hK, hF, hsz⟩ := id E
  exact q_backv (va_runIN (host := "ToolRoom") (As := As) (rest := rest) ⟨hx, hb, hml, hown, hw⟩ hM ⟨va_cnB nn hw (gB h5) rfl rfl rfl (hF.2.2.2.2 _ hl) (hw _ h4) hd hR, hy1, hw _ h6⟩ ⟨Pre.blind, q_pre E G _⟩ rfl hn hls hst (lv_room hrest) hdg hcs) G kk
end NT

def f_X8_init (S : SS) (t : Nat) : SS := (uI (uI (uI S 16 t 0 0) 16 t 1 0) 16 t 2 0)
set_option maxHeartbeats 4000000 in
set_option maxRecDepth 100000 in
theorem k_X8_init (l : Launch) (D : va_G) (cy : Nat → ClassId) (sz : Nat) (ad : Nat → Nat → Nat) (n : Nat) (S : SS) (t : Nat) (ht : t < n) : CV l yX8_init cX8_init 1 1 12 [.ref (ad 16 t)] D cy sz ad n S (f_X8_init S t) := by
  refine Met.enter (by decide) (Nat.le_of_ble_eq_true rfl) (fun p e s m args below meth c ls E G hl => ?_)
  have E : En p s m args meth c cX8_init 1 none RX8 D cy sz := E
  obtain ⟨hx, hb, hrt, hml, hown, hw, hlk, hK, hF, hsz⟩ := id E
  have hl : lv_has ls 1 [(0, .ref (ad 16 t))] := hl
  refine lv_aload_n hx hb dX8_init_0 rfl (lv_at hl 0 rfl) ?_
  refine W.objInit hx hb hown (hw _ tb_135) (hw _ tb_18) (hw _ tb_19) rfl (by rw [hml]; exact hl.1) rfl dX8_init_1 (Nat.le_of_ble_eq_true rfl) (Nat.le_of_ble_eq_true rfl) ?_
  refine W.eq (g2 := F0 m 4 ls []) rfl ?_
  refine lv_aload_n hx hb dX8_init_4 rfl (lv_at hl 0 rfl) ?_
  refine lv_iconst (v := 0) hx hb dX8_init_5 (by decide) ?_
  refine q_putT E G ht 0 (by decide) rfl rfl rfl rfl tb_136 (Or.inl rfl) (ty := .int) (by decide +kernel) rfl rfl dX8_init_6 (fun H locs G => ?_)
  refine lv_aload_n hx hb dX8_init_9 rfl (lv_at hl 0 rfl) ?_
  refine lv_iconst (v := 0) hx hb dX8_init_10 (by decide) ?_
  refine q_putT E G ht 1 (by decide) rfl rfl rfl rfl tb_144 (Or.inl rfl) (ty := .boolean) (by decide +kernel) rfl rfl dX8_init_11 (fun H locs G => ?_)
  refine lv_aload_n hx hb dX8_init_14 rfl (lv_at hl 0 rfl) ?_
  refine lv_iconst (v := 0) hx hb dX8_init_15 (by decide) ?_
  refine q_putT E G ht 2 (by decide) rfl rfl rfl rfl tb_146 (Or.inl rfl) (ty := .int) (by decide +kernel) rfl rfl dX8_init_16 (fun H locs G => ?_)
  exact q_vret E G (by rfl) dX8_init_19

def f_X4_init (S : SS) (t : Nat) : SS := (f_X8_init S t)
set_option maxHeartbeats 4000000 in
set_option maxRecDepth 100000 in
theorem k_X4_init (l : Launch) (D : va_G) (cy : Nat → ClassId) (sz : Nat) (ad : Nat → Nat → Nat) (n : Nat) (S : SS) (t : Nat) (ht : t < n) : CV l yX4_init cX4_init 1 2 32 [.ref (ad 16 t)] D cy sz ad n S (f_X4_init S t) := by
  refine Met.enter (by decide) (Nat.le_of_ble_eq_true rfl) (fun p e s m args below meth c ls E G hl => ?_)
  have E : En p s m args meth c cX4_init 1 none RX4 D cy sz := E
  obtain ⟨hx, hb, hrt, hml, hown, hw, hlk, hK, hF, hsz⟩ := id E
  have hl : lv_has ls 1 [(0, .ref (ad 16 t))] := hl
  refine lv_aload_n hx hb dX4_init_0 rfl (lv_at hl 0 rfl) ?_
  refine q_cIN (rest := []) E G (k_X8_init l D cy sz ad n S t ht) (by decide +kernel) tb_7 tb_133 tb_134 rfl (nn := 0) (by decide +kernel) ⟨Nat.le_of_ble_eq_true rfl, Nat.le_of_ble_eq_true rfl⟩ rfl hl.1 rfl (Nat.le_of_ble_eq_true rfl) dX4_init_1 ⟨Nat.zero_le _, Nat.zero_le _⟩ (fun H locs G => ?_)
  exact q_vret E G (by rfl) dX4_init_4

def f_X2_init (S : SS) (t : Nat) : SS := (f_X8_init S t)
set_option maxHeartbeats 4000000 in
set_option maxRecDepth 100000 in
theorem k_X2_init (l : Launch) (D : va_G) (cy : Nat → ClassId) (sz : Nat) (ad : Nat → Nat → Nat) (n : Nat) (S : SS) (t : Nat) (ht : t < n) : CV l yX2_init cX2_init 1 2 32 [.ref (ad 16 t)] D cy sz ad n S (f_X2_init S t) := by
  refine Met.enter (by decide) (Nat.le_of_ble_eq_true rfl) (fun p e s m args below meth c ls E G hl => ?_)
  have E : En p s m args meth c cX2_init 1 none RX2 D cy sz := E
  obtain ⟨hx, hb, hrt, hml, hown, hw, hlk, hK, hF, hsz⟩ := id E
  have hl : lv_has ls 1 [(0, .ref (ad 16 t))] := hl
  refine lv_aload_n hx hb dX2_init_0 rfl (lv_at hl 0 rfl) ?_
  refine q_cIN (rest := []) E G (k_X8_init l D cy sz ad n S t ht) (by decide +kernel) tb_7 tb_133 tb_134 rfl (nn := 0) (by decide +kernel) ⟨Nat.le_of_ble_eq_true rfl, Nat.le_of_ble_eq_true rfl⟩ rfl hl.1 rfl (Nat.le_of_ble_eq_true rfl) dX2_init_1 ⟨Nat.zero_le _, Nat.zero_le _⟩ (fun H locs G => ?_)
  exact q_vret E G (by rfl) dX2_init_4

def f_X0_init (S : SS) (t : Nat) : SS := (uI (f_X8_init S t) 16 t 3 100)
set_option maxHeartbeats 4000000 in
set_option maxRecDepth 100000 in
theorem k_X0_init (l : Launch) (D : va_G) (cy : Nat → ClassId) (sz : Nat) (ad : Nat → Nat → Nat) (n : Nat) (S : SS) (t : Nat) (ht : t < n) (hk : S.1 16 t 4 = 1 ∨ S.1 16 t 4 = 2) : CV l yX0_init cX0_init 1 2 32 [.ref (ad 16 t)] D cy sz ad n S (f_X0_init S t) := by
  refine Met.enter (by decide) (Nat.le_of_ble_eq_true rfl) (fun p e s m args below meth c ls E G hl => ?_)
  have E : En p s m args meth c cX0_init 1 none RX0 D cy sz := E
  obtain ⟨hx, hb, hrt, hml, hown, hw, hlk, hK, hF, hsz⟩ := id E
  have hl : lv_has ls 1 [(0, .ref (ad 16 t))] := hl
  refine lv_aload_n hx hb dX0_init_0 rfl (lv_at hl 0 rfl) ?_
  refine q_cIN (rest := []) E G (k_X8_init l D cy sz ad n S t ht) (by decide +kernel) tb_7 tb_133 tb_134 rfl (nn := 0) (by decide +kernel) ⟨Nat.le_of_ble_eq_true rfl, Nat.le_of_ble_eq_true rfl⟩ rfl hl.1 rfl (Nat.le_of_ble_eq_true rfl) dX0_init_1 ⟨Nat.zero_le _, Nat.zero_le _⟩ (fun H locs G => ?_)
  refine lv_aload_n hx hb dX0_init_4 rfl (lv_at hl 0 rfl) ?_
  refine lv_bipush (v := 100) hx hb dX0_init_5 (by decide) ?_
  refine q_putE E G ht (by unfold f_X8_init; simpa [uI_at] using hk) tb_161 (Or.inl rfl) dX0_init_7 (fun H locs G => ?_)
  exact q_vret E G (by rfl) dX0_init_10

def f_X1_init (S : SS) (t : Nat) : SS := (f_X0_init S t)
set_option maxHeartbeats 4000000 in
set_option maxRecDepth 100000 in
theorem k_X1_init (l : Launch) (D : va_G) (cy : Nat → ClassId) (sz : Nat) (ad : Nat → Nat → Nat) (n : Nat) (S : SS) (t : Nat) (ht : t < n) (hk : S.1 16 t 4 = 1 ∨ S.1 16 t 4 = 2) : CV l yX1_init cX1_init 1 3 52 [.ref (ad 16 t)] D cy sz ad n S (f_X1_init S t) := by
  refine Met.enter (by decide) (Nat.le_of_ble_eq_true rfl) (fun p e s m args below meth c ls E G hl => ?_)
  have E : En p s m args meth c cX1_init 1 none RX1 D cy sz := E
  obtain ⟨hx, hb, hrt, hml, hown, hw, hlk, hK, hF, hsz⟩ := id E
  have hl : lv_has ls 1 [(0, .ref (ad 16 t))] := hl
  refine lv_aload_n hx hb dX1_init_0 rfl (lv_at hl 0 rfl) ?_
  refine q_cIN (rest := []) E G (k_X0_init l D cy sz ad n S t ht hk) (by decide +kernel) tb_9 tb_158 tb_159 rfl (nn := 0) (by decide +kernel) ⟨Nat.le_of_ble_eq_true rfl, Nat.le_of_ble_eq_true rfl⟩ rfl hl.1 rfl (Nat.le_of_ble_eq_true rfl) dX1_init_1 ⟨Nat.zero_le _, Nat.zero_le _⟩ (fun H locs G => ?_)
  exact q_vret E G (by rfl) dX1_init_4

/-- a new tool of kind k -/
def rT (k : Int32) : Nat → Int32 := fun j => if j = 4 then k else if j = 3 then (if k = 1 ∨ k = 2 then 100 else 0) else 0
theorem upd_r0 (kd : Int32) {j : Nat} (hj : j ≠ 4) : upd (r0 kd) j 0 = r0 kd := by
  funext q
  by_cases h : q = j
  · subst h; simp [upd, r0, hj]
  · simp [upd, h]
theorem uI_wI (S : SS) (f i : Nat) (a : Nat → Int32) (k : Nat) (v : Int32) : uI (wI S f i a) f i k v = wI S f i (upd a k v) := by
  unfold uI
  rw [wI_eq, wI_wI]
theorem i8_r0 (S : SS) (n : Nat) (kd : Int32) : f_X8_init (wI S 16 n (r0 kd)) n = wI S 16 n (r0 kd) := by
  unfold f_X8_init
  rw [uI_wI, upd_r0 kd (by decide), uI_wI, upd_r0 kd (by decide), uI_wI, upd_r0 kd (by decide)]
theorem r0_T (kd : Int32) (h : ¬ (kd = 1 ∨ kd = 2)) : r0 kd = rT kd := by
  funext j
  unfold r0 rT
  by_cases h4 : j = 4
  · simp [h4]
  · by_cases h3 : j = 3 <;> simp [h4, h3, h]
theorem r0_T2 (kd : Int32) (h : kd = 1 ∨ kd = 2) : upd (r0 kd) 3 100 = rT kd := by
  funext j
  unfold upd r0 rT
  by_cases h3 : j = 3
  · subst h3; simp [h]
  · by_cases h4 : j = 4 <;> simp [h3, h4]
theorem mk_hg (S : SS) (n : Nat) (kd : Int32) (h : ¬ (kd = 1 ∨ kd = 2)) : f_X4_init (wI S 16 n (r0 kd)) n = wI S 16 n (rT kd) := by
  unfold f_X4_init
  rw [i8_r0, r0_T kd h]
theorem mk_gg (S : SS) (n : Nat) (kd : Int32) (h : ¬ (kd = 1 ∨ kd = 2)) : f_X2_init (wI S 16 n (r0 kd)) n = wI S 16 n (rT kd) := by
  unfold f_X2_init
  rw [i8_r0, r0_T kd h]
theorem mk_bg (S : SS) (n : Nat) (kd : Int32) (h : kd = 1 ∨ kd = 2) : f_X0_init (wI S 16 n (r0 kd)) n = wI S 16 n (rT kd) := by
  unfold f_X0_init
  rw [i8_r0, uI_wI, r0_T2 kd h]
theorem mk_fg (S : SS) (n : Nat) (kd : Int32) (h : kd = 1 ∨ kd = 2) : f_X1_init (wI S 16 n (r0 kd)) n = wI S 16 n (rT kd) := by
  unfold f_X1_init
  exact mk_bg S n kd h

/-- a contract of a method that makes one tool, and answers it -/
abbrev CN (l : Launch) (y : MethodName) (b : ByteArray) (mL : Nat) (rt : Option FieldType) (fr lo : Nat) (av : List Value) (D : va_G) (cy : Nat → ClassId) (sz : Nat) (ad : Nat → Nat → Nat) (n : Nat) (S S' : SS) : Prop :=
  Met l y (wsB y b mL rt) (Rm fr lo 1 4) (va_Pc av (Pre D cy sz ad n S)) (va_Qr (fun (_ : Unit) => True) (fun _ q t => Po D cy sz (adU ad n q) (n + 1) S' t) (fun q => sz ≤ q)) 1 4 (fun q => sz ≤ q)
theorem q_nret {p : Program} {l : Launch} {e : Env} {s : State} {m : MethodId} {args : Array Value} {below : List Frame} {meth : Method} {c : Code} {H : Heap} {locs : List Loc} {cc : ByteArray} {mL : Nat} {own : String} {pc : Nat} {ls : Array Slot} {D : va_G} {cy : Nat → ClassId} {sz : Nat} {ad : Nat → Nat → Nat} {n q : Nat} {S : SS} {R : Room} {nm : String} (E : En p s m args meth c cc mL (some (.object nm)) own D cy sz) (G : Gd D cy sz (adU ad n q) (n + 1) S s.heap H locs) (hdg : decode cc pc = .ok (.areturn, 1)) :
    W p l e R s m args below meth c H locs 1 4 (MQ below (va_Qr (fun (_ : Unit) => True) (fun _ q t => Po D cy sz (adU ad n q) (n + 1) S t) (fun q => sz ≤ q)) args s 1 4 (fun q => sz ≤ q)) (F0 m pc ls [.ref q]) := by
  obtain ⟨hx, hb, hr, hml, hown, hw, hlk, hK, hF2, hsz⟩ := E
  exact W.aret hx hb hr (Or.inl ⟨_, rfl⟩) (Or.inr ⟨q, rfl⟩) (fun t ht hW => ⟨⟨(), q, rfl, trivial, by rw [ht]; exact G.1, G.2.1⟩, G.2.2.F ht⟩) G.2.2.2.2 hdg hlk
set_option maxHeartbeats 4000000 in
set_option maxRecDepth 100000 in
theorem k_X9_newTool (l : Launch) (D : va_G) (cy : Nat → ClassId) (sz : Nat) (ad : Nat → Nat → Nat) (n : Nat) (S : SS) (ok : ∀ f i j k, S.2 f i j = some k → k < n) (x1 : Int32) : CN l yX9_newTool cX9_newTool 1 (some (.object "ToolRoom$Tool")) 4 72 [.int x1] D cy sz ad n S (wI S 16 n (rT x1)) := by
  refine Met.enter (by decide) (Nat.le_of_ble_eq_true rfl) (fun p e s m args below meth c ls E G hl => ?_)
  have E : En p s m args meth c cX9_newTool 1 (some (.object "ToolRoom$Tool")) RX9 D cy sz := E
  obtain ⟨hx, hb, hrt, hml, hown, hw, hlk, hK, hF, hsz⟩ := id E
  have hl : lv_has ls 1 [(0, .int x1)] := hl
  refine lv_iload_n hx hb dX9_newTool_0 rfl (lv_at hl 0 rfl) ?_
  refine q_tab3 (t0 := 28) (t1 := 36) (t2 := 44) (t3 := 52) hx hb dX9_newTool_1 (by decide) (by decide) (by decide) (by decide) (fun h1 => ?_) (fun h1 h2 => ?_) (fun h1 h2 h3 => ?_) (fun hn0 hn1 hn2 => ?_)
  · subst h1
    refine q_newT (C := RX4) (T := TX4) (N := 3) (ci := 4) (fs := [.int 0, .int 0, .int 0]) 0 E G ok inX4 tyX4 tyX4_ok tb_127 tb_128 tb_8 rfl (fun j hj => by rcases (show j = 0 ∨ j = 1 ∨ j = 2 by omega) with rfl | rfl | rfl <;> rfl) (by simp [tE, r0]) (by decide) (by decide) dX9_newTool_28 (fun q H G => ?_)
    refine W.widen (k := 1) (n := 4) (by omega) (by omega) ?_
    refine lv_dup hx hb dX9_newTool_31 rfl ?_
    refine q_cIN (rest := [.ref q]) E G (o := adU ad n q 16 n) (k_X4_init l D cy sz (adU ad n q) (n + 1) (wI S 16 n (r0 0)) n (by omega)) (by decide +kernel) tb_8 tb_130 tb_131 rfl (nn := 0) (by decide +kernel) ⟨Nat.le_of_ble_eq_true rfl, Nat.le_of_ble_eq_true rfl⟩ rfl hl.1 (by rw [adU_n]; rfl) (Nat.le_of_ble_eq_true rfl) dX9_newTool_32 ⟨by decide, by decide⟩ (fun H locs G => ?_)
    rw [mk_hg S n _ (by first | decide | (simp; done) | exact hne)] at G
    exact q_nret E G dX9_newTool_35
  · subst h2
    refine q_newT (C := RX0) (T := TX0) (N := 4) (ci := 0) (fs := [.int 0, .int 0, .int 0, .int 0]) 1 E G ok inX0 tyX0 tyX0_ok tb_155 tb_156 tb_9 rfl (fun j hj => by rcases (show j = 0 ∨ j = 1 ∨ j = 2 ∨ j = 3 by omega) with rfl | rfl | rfl | rfl <;> rfl) (by simp [tE, r0]) (by decide) (by decide) dX9_newTool_36 (fun q H G => ?_)
    refine W.widen (k := 1) (n := 4) (by omega) (by omega) ?_
    refine lv_dup hx hb dX9_newTool_39 rfl ?_
    refine q_cIN (rest := [.ref q]) E G (o := adU ad n q 16 n) (k_X0_init l D cy sz (adU ad n q) (n + 1) (wI S 16 n (r0 1)) n (by omega) (by rw [wI_eq]; simp [r0])) (by decide +kernel) tb_9 tb_158 tb_159 rfl (nn := 0) (by decide +kernel) ⟨Nat.le_of_ble_eq_true rfl, Nat.le_of_ble_eq_true rfl⟩ rfl hl.1 (by rw [adU_n]; rfl) (Nat.le_of_ble_eq_true rfl) dX9_newTool_40 ⟨by decide, by decide⟩ (fun H locs G => ?_)
    rw [mk_bg S n _ (by first | decide | (simp; done) | exact hne)] at G
    exact q_nret E G dX9_newTool_43
  · subst h3
    refine q_newT (C := RX1) (T := TX1) (N := 4) (ci := 1) (fs := [.int 0, .int 0, .int 0, .int 0]) 2 E G ok inX1 tyX1 tyX1_ok tb_171 tb_172 tb_10 rfl (fun j hj => by rcases (show j = 0 ∨ j = 1 ∨ j = 2 ∨ j = 3 by omega) with rfl | rfl | rfl | rfl <;> rfl) (by simp [tE, r0]) (by decide) (by decide) dX9_newTool_44 (fun q H G => ?_)
    refine W.widen (k := 1) (n := 4) (by omega) (by omega) ?_
    refine lv_dup hx hb dX9_newTool_47 rfl ?_
    refine q_cIN (rest := [.ref q]) E G (o := adU ad n q 16 n) (k_X1_init l D cy sz (adU ad n q) (n + 1) (wI S 16 n (r0 2)) n (by omega) (by rw [wI_eq]; simp [r0])) (by decide +kernel) tb_10 tb_174 tb_175 rfl (nn := 0) (by decide +kernel) ⟨Nat.le_of_ble_eq_true rfl, Nat.le_of_ble_eq_true rfl⟩ rfl hl.1 (by rw [adU_n]; rfl) (Nat.le_of_ble_eq_true rfl) dX9_newTool_48 ⟨by decide, by decide⟩ (fun H locs G => ?_)
    rw [mk_fg S n _ (by first | decide | (simp; done) | exact hne)] at G
    exact q_nret E G dX9_newTool_51
  · have hne : ¬ (x1 = 1 ∨ x1 = 2) := fun q => q.elim hn1 hn2
    refine q_newT (C := RX2) (T := TX2) (N := 3) (ci := 2) (fs := [.int 0, .int 0, .int 0]) x1 E G ok inX2 tyX2 tyX2_ok tb_182 tb_183 tb_11 rfl (fun j hj => by rcases (show j = 0 ∨ j = 1 ∨ j = 2 by omega) with rfl | rfl | rfl <;> rfl) (by simp [tE, r0, hn0, hn1, hn2]) (by decide) (by decide) dX9_newTool_52 (fun q H G => ?_)
    refine W.widen (k := 1) (n := 4) (by omega) (by omega) ?_
    refine lv_dup hx hb dX9_newTool_55 rfl ?_
    refine q_cIN (rest := [.ref q]) E G (o := adU ad n q 16 n) (k_X2_init l D cy sz (adU ad n q) (n + 1) (wI S 16 n (r0 x1)) n (by omega)) (by decide +kernel) tb_11 tb_185 tb_186 rfl (nn := 0) (by decide +kernel) ⟨Nat.le_of_ble_eq_true rfl, Nat.le_of_ble_eq_true rfl⟩ rfl hl.1 (by rw [adU_n]; rfl) (Nat.le_of_ble_eq_true rfl) dX9_newTool_56 ⟨by decide, by decide⟩ (fun H locs G => ?_)
    rw [mk_gg S n _ (by first | decide | (simp; done) | exact hne)] at G
    exact q_nret E G dX9_newTool_59
end
section
set_option maxHeartbeats 4000000 in
set_option maxRecDepth 100000 in
theorem k_X9_tool_a (l : Launch) (D : va_G) (cy : Nat → ClassId) (sz : Nat) (ad : Nat → Nat → Nat) (n : Nat) (S : SS) (x1 : Int32) (x2 : Int32) (h1 : ¬ wi x1 10 = true) : CI l yX9_tool cX9_tool 4 (some .int) 1 21 [.ref (ad 0 0), .int x1, .int x2] D cy sz ad n S (f_X9_refuse S (-2)) := by
  refine Met.enter (by decide) (Nat.le_of_ble_eq_true rfl) (fun p e s m args below meth c ls E G hl => ?_)
  have E : En p s m args meth c cX9_tool 4 (some .int) RX9 D cy sz := E
  obtain ⟨hx, hb, hrt, hml, hown, hw, hlk, hK, hF, hsz⟩ := id E
  have hl : lv_has ls 4 [(0, .ref (ad 0 0)), (1, .int x1), (2, .int x2)] := hl
  refine lv_iload_n hx hb dX9_tool_0 rfl (lv_at hl 1 rfl) ?_
  refine lv_bipush (v := 10) hx hb dX9_tool_1 (by decide) ?_
  refine q_cSp E G [] (k_X9_isWithin_f l D cy sz ad n S x1 10 h1) tb_117 tb_118 tb_1 tb_119 (nn := 2) (by decide +kernel) ⟨Nat.le_of_ble_eq_true rfl, Nat.le_of_ble_eq_true rfl⟩ rfl hl.1 rfl (Nat.le_of_ble_eq_true rfl) dX9_tool_3 ⟨Nat.zero_le _, Nat.zero_le _⟩ (fun H locs G => ?_)
  refine lv_if_ne (tgt := 16) hx hb dX9_tool_6 (by decide) (fun h => absurd h (by decide)) (fun _ => ?_)
  refine lv_aload_n hx hb dX9_tool_9 rfl (lv_at hl 0 rfl) ?_
  refine lv_bipush (v := (-2)) hx hb dX9_tool_10 (by decide) ?_
  refine q_cV (rest := []) E G 0 0 c0 sg_0 (C := RX9) (T := TX9) (N := 10) rfl (k_X9_refuse l D cy sz ad n S (-2)) tb_120 tb_122 tp_0 tb_1 tb_123 (nn := 1) (by decide +kernel) ⟨Nat.le_of_ble_eq_true rfl, Nat.le_of_ble_eq_true rfl⟩ rfl hl.1 rfl (Nat.le_of_ble_eq_true rfl) dX9_tool_12 ⟨Nat.zero_le _, Nat.zero_le _⟩ (fun H locs G => ?_)
  exact q_iret E G (by rfl) dX9_tool_15

set_option maxHeartbeats 4000000 in
set_option maxRecDepth 100000 in
theorem k_X9_tool_b (l : Launch) (D : va_G) (cy : Nat → ClassId) (sz : Nat) (ad : Nat → Nat → Nat) (n : Nat) (S : SS) (x1 : Int32) (x2 : Int32) (h1 : wi x1 10 = true) (h2 : ¬ wi x2 4 = true) : CI l yX9_tool cX9_tool 4 (some .int) 1 21 [.ref (ad 0 0), .int x1, .int x2] D cy sz ad n S (f_X9_refuse S (-3)) := by
  refine Met.enter (by decide) (Nat.le_of_ble_eq_true rfl) (fun p e s m args below meth c ls E G hl => ?_)
  have E : En p s m args meth c cX9_tool 4 (some .int) RX9 D cy sz := E
  obtain ⟨hx, hb, hrt, hml, hown, hw, hlk, hK, hF, hsz⟩ := id E
  have hl : lv_has ls 4 [(0, .ref (ad 0 0)), (1, .int x1), (2, .int x2)] := hl
  refine lv_iload_n hx hb dX9_tool_0 rfl (lv_at hl 1 rfl) ?_
  refine lv_bipush (v := 10) hx hb dX9_tool_1 (by decide) ?_
  have v1 : vp_in x1 10 := wi_in h1 (by decide) (by decide)
  refine q_cSp E G [] (k_X9_isWithin_t l D cy sz ad n S x1 10 h1) tb_117 tb_118 tb_1 tb_119 (nn := 2) (by decide +kernel) ⟨Nat.le_of_ble_eq_true rfl, Nat.le_of_ble_eq_true rfl⟩ rfl hl.1 rfl (Nat.le_of_ble_eq_true rfl) dX9_tool_3 ⟨Nat.zero_le _, Nat.zero_le _⟩ (fun H locs G => ?_)
  refine lv_if_ne (tgt := 16) hx hb dX9_tool_6 (by decide) (fun _ => ?_) (fun h => absurd h (by decide))
  refine lv_iload_n hx hb dX9_tool_16 rfl (lv_at hl 2 rfl) ?_
  refine lv_iconst (v := 4) hx hb dX9_tool_17 (by decide) ?_
  refine q_cSp E G [] (k_X9_isWithin_f l D cy sz ad n S x2 4 h2) tb_117 tb_118 tb_1 tb_119 (nn := 2) (by decide +kernel) ⟨Nat.le_of_ble_eq_true rfl, Nat.le_of_ble_eq_true rfl⟩ rfl hl.1 rfl (Nat.le_of_ble_eq_true rfl) dX9_tool_18 ⟨Nat.zero_le _, Nat.zero_le _⟩ (fun H locs G => ?_)
  refine lv_if_ne (tgt := 31) hx hb dX9_tool_21 (by decide) (fun h => absurd h (by decide)) (fun _ => ?_)
  refine lv_aload_n hx hb dX9_tool_24 rfl (lv_at hl 0 rfl) ?_
  refine lv_bipush (v := (-3)) hx hb dX9_tool_25 (by decide) ?_
  refine q_cV (rest := []) E G 0 0 c0 sg_0 (C := RX9) (T := TX9) (N := 10) rfl (k_X9_refuse l D cy sz ad n S (-3)) tb_120 tb_122 tp_0 tb_1 tb_123 (nn := 1) (by decide +kernel) ⟨Nat.le_of_ble_eq_true rfl, Nat.le_of_ble_eq_true rfl⟩ rfl hl.1 rfl (Nat.le_of_ble_eq_true rfl) dX9_tool_27 ⟨Nat.zero_le _, Nat.zero_le _⟩ (fun H locs G => ?_)
  exact q_iret E G (by rfl) dX9_tool_30

set_option maxHeartbeats 4000000 in
set_option maxRecDepth 100000 in
theorem tool_tail {p : Program} {l : Launch} {e : Env} {R : Room} {s : State} {m : MethodId} {args : Array Value} {below : List Frame} {meth : Method} {c : Code} {H : Heap} {locs : List Loc} {Q : State → Prop} {D : va_G} {cy : Nat → ClassId} {sz : Nat} {ad : Nat → Nat → Nat} {n : Nat} {S : SS} {ls : Array Slot} {t : Nat} {x1 x2 b : Int32} {F : Int32 × SS} (E : En p s m args meth c cX9_tool 4 (some .int) RX9 D cy sz) (hR : 1 ≤ R.frames ∧ 21 ≤ R.locals) (hcs : 1 ≤ R.cells ∧ 4 ≤ R.slots) (ht : t < n) (hv : vp_in x1 10) (hF : F = if b = 0 then f_X9_done (uR S 1 0 x1.toNatClampNeg (some t)) 0 else f_X9_done (uR S 1 0 x1.toNatClampNeg (some t)) 1) (G : Gd D cy sz ad n S s.heap H locs) (hl : lv_has ls 4 [(3, .int b), (0, .ref (ad 0 0)), (1, .int x1), (2, .int x2)])
    (kk : ∀ (H : Heap) (locs : List Loc) (ls : Array Slot), Gd D cy sz ad n F.2 s.heap H locs → W p l e R s m args below meth c H locs 1 4 Q (F0 m 69 ls [.int F.1])) : W p l e R s m args below meth c H locs 1 4 Q (F0 m 55 ls [.ref (ad 16 t), .int x1, .ref (ad 1 0)]) := by
  obtain ⟨hx, hb, hrt, hml, hown, hw, hlk, hK, hF2, hsz⟩ := id E
  refine q_aast E G 1 0 c1 (fun _ => sa_1) ht hv dX9_tool_55 (fun H locs G => ?_)
  refine lv_aload_n hx hb dX9_tool_56 rfl (lv_at hl 1 rfl) ?_
  refine lv_iload_n hx hb dX9_tool_57 rfl (lv_at hl 0 rfl) ?_
  refine lv_if_eq (tgt := 65) hx hb dX9_tool_58 (by decide) (fun h1 => ?_) (fun h1 => ?_)
  · refine lv_iconst (v := 0) hx hb dX9_tool_65 (by decide) ?_
    refine q_cV (rest := []) E G 0 0 c0 sg_0 (C := RX9) (T := TX9) (N := 10) rfl (k_X9_done l D cy sz ad n (uR S 1 0 x1.toNatClampNeg (some t)) 0) tb_192 tb_194 tp_1 tb_1 tb_195 (nn := 1) (by decide +kernel) ⟨by have := hR.1; show 0 + 1 ≤ _; omega, by have := hR.2; show 8 + (2 + 11) + 0 ≤ _; omega⟩ rfl hl.1 rfl (Nat.le_of_ble_eq_true rfl) dX9_tool_66 hcs (fun H locs G => ?_)
    have e1 : F = f_X9_done (uR S 1 0 x1.toNatClampNeg (some t)) 0 := by rw [hF]; simp only [if_pos h1]
    rw [← e1] at G ⊢
    exact kk H locs ls G
  · refine lv_iconst (v := 1) hx hb dX9_tool_61 (by decide) ?_
    refine lv_goto (tgt := 66) hx hb dX9_tool_62 (by decide) ?_
    refine q_cV (rest := []) E G 0 0 c0 sg_0 (C := RX9) (T := TX9) (N := 10) rfl (k_X9_done l D cy sz ad n (uR S 1 0 x1.toNatClampNeg (some t)) 1) tb_192 tb_194 tp_1 tb_1 tb_195 (nn := 1) (by decide +kernel) ⟨by have := hR.1; show 0 + 1 ≤ _; omega, by have := hR.2; show 8 + (2 + 11) + 0 ≤ _; omega⟩ rfl hl.1 rfl (Nat.le_of_ble_eq_true rfl) dX9_tool_66 hcs (fun H locs G => ?_)
    have e1 : F = f_X9_done (uR S 1 0 x1.toNatClampNeg (some t)) 1 := by rw [hF]; simp only [if_neg h1]
    rw [← e1] at G ⊢
    exact kk H locs ls G

theorem q_cNT {p : Program} {l : Launch} {e : Env} {R : Room} {s : State} {m : MethodId} {args : Array Value} {below : List Frame} {meth : Method} {c : Code} {H : Heap} {locs : List Loc} {Q : State → Prop} {cc : ByteArray} {mL : Nat} {rt : Option FieldType} {pc : Nat} {ls : Array Slot} {st rest : List Value} {D : va_G} {cy : Nat → ClassId} {sz : Nat} {ad : Nat → Nat → Nat} {n : Nat} {S : SS} {x : Int32} (E : En p s m args meth c cc mL rt RX9 D cy sz) (G : Gd D cy sz ad n S s.heap H locs) (ok : ∀ f i j k, S.2 f i j = some k → k < n)
    (hR : 5 ≤ R.frames ∧ 92 ≤ R.locals) (hls : ls.size = mL) (hst : st = .int x :: rest) (hrest : (rest.map fun v => v.category).sum ≤ 8) (hdg : decode cc pc = .ok (.invokestatic 67, 3)) (hcs : 1 ≤ R.cells ∧ 4 ≤ R.slots)
    (kk : ∀ (q : Nat) (H1 : Heap) (locs1 : List Loc), Gd D cy sz (adU ad n q) (n + 1) (wI S 16 n (rT x)) s.heap H1 locs1 → W p l e R s m args below meth c H1 locs1 1 4 Q (F0 m (pc + 3) ls (.ref q :: rest))) : W p l e R s m args below meth c H locs 0 0 Q (F0 m pc ls st) := by
  obtain ⟨hx, hb, hr, hml, hown, hw, hlk, hK, hF, hsz⟩ := id E
  refine va_callr (va_runS (As := [.int x]) (rest := rest) ⟨hx, hb, hml, hown, hw⟩ (k_X9_newTool l D cy sz ad n S ok x) (cwS 1 hw (gX tb_126 (fun w hw => by simp only [List.mem_cons, List.not_mem_nil, or_false] at hw; rcases hw with rfl | rfl | rfl <;> first | exact tb_124 | exact tb_125 | exact tb_1)) rfl rfl rfl (by decide +kernel) ⟨by have := hR.1; show 4 + 1 ≤ _; omega, by have := hR.2; show 8 + (1 + 11) + 72 ≤ _; omega⟩) ⟨Pre.blind, q_pre E G _⟩ rfl rfl hls hst (lv_room hrest) hdg ⟨by simpa using hcs.1, by simpa using hcs.2⟩) G.2.2 (fun q _ h => h) (fun q h => h) (fun u ra t H1 locs1 ht hvm hp hB hz hk hS => ?_)
  exact kk ra H1 locs1 ⟨ht ▸ hB.1, hB.2, hS⟩
theorem q_ref {p : Program} {l : Launch} {e : Env} {R : Room} {s : State} {m : MethodId} {args : Array Value} {below : List Frame} {meth : Method} {c : Code} {H : Heap} {locs : List Loc} {cells slots : Nat} {Q : State → Prop} {pc : Nat} {ls : Array Slot} {st st' : List Value} (h : st = st') (k : W p l e R s m args below meth c H locs cells slots Q (F0 m pc ls st')) : W p l e R s m args below meth c H locs cells slots Q (F0 m pc ls st) := h ▸ k
def f_tool (S : SS) (n : Nat) (x1 x2 : Int32) : Int32 × SS := if (match S.2 1 0 x1.toNatClampNeg with | none => (0 : Int32) | some _ => 1) = 0 then f_X9_done (uR (wI S 16 n (rT x2)) 1 0 x1.toNatClampNeg (some n)) 0 else f_X9_done (uR (wI S 16 n (rT x2)) 1 0 x1.toNatClampNeg (some n)) 1

set_option maxHeartbeats 4000000 in
set_option maxRecDepth 100000 in
theorem k_X9_tool (l : Launch) (D : va_G) (cy : Nat → ClassId) (sz : Nat) (ad : Nat → Nat → Nat) (n : Nat) (S : SS) (ok : okC n S) (x1 x2 : Int32) (h1 : wi x1 10 = true) (h2 : wi x2 4 = true) : Met l yX9_tool (wsB yX9_tool cX9_tool 4 (some .int)) (Rm 5 92 1 4) (va_Pc [.ref (ad 0 0), .int x1, .int x2] (Pre D cy sz ad n S)) (va_Qi (fun r (_ : Nat) => r = (f_tool S n x1 x2).1) (fun q t => Po D cy sz (adU ad n q) (n + 1) (f_tool S n x1 x2).2 t) (fun q => sz ≤ q)) 1 4 (fun q => sz ≤ q) := by
  refine Met.enter (by decide) (Nat.le_of_ble_eq_true rfl) (fun p e s m args below meth c ls E G hl => ?_)
  have E : En p s m args meth c cX9_tool 4 (some .int) RX9 D cy sz := E
  obtain ⟨hx, hb, hrt, hml, hown, hw, hlk, hK, hF, hsz⟩ := id E
  have hl : lv_has ls 4 [(0, .ref (ad 0 0)), (1, .int x1), (2, .int x2)] := hl
  refine lv_iload_n hx hb dX9_tool_0 rfl (lv_at hl 1 rfl) ?_
  refine lv_bipush (v := 10) hx hb dX9_tool_1 (by decide) ?_
  have v1 : vp_in x1 10 := wi_in h1 (by decide) (by decide)
  refine q_cSp E G [] (k_X9_isWithin_t l D cy sz ad n S x1 10 h1) tb_117 tb_118 tb_1 tb_119 (nn := 2) (by decide +kernel) ⟨Nat.le_of_ble_eq_true rfl, Nat.le_of_ble_eq_true rfl⟩ rfl hl.1 rfl (Nat.le_of_ble_eq_true rfl) dX9_tool_3 ⟨Nat.zero_le _, Nat.zero_le _⟩ (fun H locs G => ?_)
  refine lv_if_ne (tgt := 16) hx hb dX9_tool_6 (by decide) (fun _ => ?_) (fun h => absurd h (by decide))
  refine lv_iload_n hx hb dX9_tool_16 rfl (lv_at hl 2 rfl) ?_
  refine lv_iconst (v := 4) hx hb dX9_tool_17 (by decide) ?_
  have v2 : vp_in x2 4 := wi_in h2 (by decide) (by decide)
  refine q_cSp E G [] (k_X9_isWithin_t l D cy sz ad n S x2 4 h2) tb_117 tb_118 tb_1 tb_119 (nn := 2) (by decide +kernel) ⟨Nat.le_of_ble_eq_true rfl, Nat.le_of_ble_eq_true rfl⟩ rfl hl.1 rfl (Nat.le_of_ble_eq_true rfl) dX9_tool_18 ⟨Nat.zero_le _, Nat.zero_le _⟩ (fun H locs G => ?_)
  refine lv_if_ne (tgt := 31) hx hb dX9_tool_21 (by decide) (fun _ => ?_) (fun h => absurd h (by decide))
  refine lv_aload_n hx hb dX9_tool_31 rfl (lv_at hl 0 rfl) ?_
  refine q_get (index := 11) (ref := "ToolRoom") E G inX9 0 0 c0 sg_0 rfl 0 (by decide) tb_82 (Or.inl rfl) rfl dX9_tool_32 ?_
  refine lv_iload_n hx hb dX9_tool_35 rfl (lv_at hl 1 rfl) ?_
  refine q_aaldT E G 1 0 c1 sa_1 v1 dX9_tool_36 (fun h3 => ?_) (fun t3 h3 => ?_)
  · refine lv_ifnullN (tgt := 44) hx hb dX9_tool_37 (by decide) ?_
    refine lv_iconst (v := 0) hx hb dX9_tool_44 (by decide) ?_
    refine lv_istore_n (lv' := [(3, .int 0), (0, .ref (ad 0 0)), (1, .int x1), (2, .int x2)]) hx hb dX9_tool_45 rfl hl (by decide) rfl (fun ls hl => ?_)
    refine lv_aload_n hx hb dX9_tool_46 rfl (lv_at hl 1 rfl) ?_
    refine q_get (index := 11) (ref := "ToolRoom") E G inX9 0 0 c0 sg_0 rfl 0 (by decide) tb_82 (Or.inl rfl) rfl dX9_tool_47 ?_
    refine lv_iload_n hx hb dX9_tool_50 rfl (lv_at hl 2 rfl) ?_
    refine lv_iload_n hx hb dX9_tool_51 rfl (lv_at hl 3 rfl) ?_
    refine q_cNT (rest := [.int x1, .ref (ad 1 0)]) E G ok.1 ⟨Nat.le_of_ble_eq_true rfl, Nat.le_of_ble_eq_true rfl⟩ hl.1 rfl (Nat.le_of_ble_eq_true rfl) dX9_tool_52 ⟨Nat.le_of_ble_eq_true rfl, Nat.le_of_ble_eq_true rfl⟩ (fun q H locs G => ?_)
    have hl : lv_has ls 4 [(3, .int 0), (0, .ref (adU ad n q 0 0)), (1, .int x1), (2, .int x2)] := by rw [adU_f (show (0 : Nat) ≠ 16 by decide)]; exact hl
    refine q_ref (st' := [.ref (adU ad n q 16 n), .int x1, .ref (adU ad n q 1 0)]) (by rw [adU_n, adU_f (show (1 : Nat) ≠ 16 by decide)]) ?_
    refine tool_tail (F := f_tool S n x1 x2) E ⟨Nat.le_of_ble_eq_true rfl, Nat.le_of_ble_eq_true rfl⟩ ⟨Nat.le_of_ble_eq_true rfl, Nat.le_of_ble_eq_true rfl⟩ (by omega) v1 (by unfold f_tool; simp only [h3]) G hl (fun H locs ls G => ?_)
    exact W.iret hx hb hrt (fun t ht hW => ⟨⟨_, q, rfl, rfl, by rw [ht]; exact G.1, G.2.1⟩, G.2.2.F ht⟩) G.2.2.2.2 dX9_tool_69 hlk
  · have kt3 : t3 < n := ok.1 _ _ _ _ h3
    refine lv_ifnull hx hb dX9_tool_37 ?_
    refine lv_iconst (v := 1) hx hb dX9_tool_40 (by decide) ?_
    refine lv_goto (tgt := 45) hx hb dX9_tool_41 (by decide) ?_
    refine lv_istore_n (lv' := [(3, .int 1), (0, .ref (ad 0 0)), (1, .int x1), (2, .int x2)]) hx hb dX9_tool_45 rfl hl (by decide) rfl (fun ls hl => ?_)
    refine lv_aload_n hx hb dX9_tool_46 rfl (lv_at hl 1 rfl) ?_
    refine q_get (index := 11) (ref := "ToolRoom") E G inX9 0 0 c0 sg_0 rfl 0 (by decide) tb_82 (Or.inl rfl) rfl dX9_tool_47 ?_
    refine lv_iload_n hx hb dX9_tool_50 rfl (lv_at hl 2 rfl) ?_
    refine lv_iload_n hx hb dX9_tool_51 rfl (lv_at hl 3 rfl) ?_
    refine q_cNT (rest := [.int x1, .ref (ad 1 0)]) E G ok.1 ⟨Nat.le_of_ble_eq_true rfl, Nat.le_of_ble_eq_true rfl⟩ hl.1 rfl (Nat.le_of_ble_eq_true rfl) dX9_tool_52 ⟨Nat.le_of_ble_eq_true rfl, Nat.le_of_ble_eq_true rfl⟩ (fun q H locs G => ?_)
    have hl : lv_has ls 4 [(3, .int 1), (0, .ref (adU ad n q 0 0)), (1, .int x1), (2, .int x2)] := by rw [adU_f (show (0 : Nat) ≠ 16 by decide)]; exact hl
    refine q_ref (st' := [.ref (adU ad n q 16 n), .int x1, .ref (adU ad n q 1 0)]) (by rw [adU_n, adU_f (show (1 : Nat) ≠ 16 by decide)]) ?_
    refine tool_tail (F := f_tool S n x1 x2) E ⟨Nat.le_of_ble_eq_true rfl, Nat.le_of_ble_eq_true rfl⟩ ⟨Nat.le_of_ble_eq_true rfl, Nat.le_of_ble_eq_true rfl⟩ (by omega) v1 (by unfold f_tool; simp only [h3]) G hl (fun H locs ls G => ?_)
    exact W.iret hx hb hrt (fun t ht hW => ⟨⟨_, q, rfl, rfl, by rw [ht]; exact G.1, G.2.1⟩, G.2.2.F ht⟩) G.2.2.2.2 dX9_tool_69 hlk

theorem okC_uI {n : Nat} {S : SS} (ok : okC n S) {f i k : Nat} {v : Int32} (h : f ≠ 8 ∧ f ≠ 10 ∧ f ≠ 12 ∧ f ≠ 14) : okC n (uI S f i k v) := by
  obtain ⟨a, b, c, d, e⟩ := ok
  refine ⟨a, fun t ht => ?_, fun t ht => ?_, fun t ht => ?_, fun t ht => ?_⟩
  · rw [uI_nf h.1.symm]; exact b t ht
  · rw [uI_nf h.2.1.symm]; exact c t ht
  · rw [uI_nf h.2.2.1.symm]; exact d t ht
  · rw [uI_nf h.2.2.2.symm]; exact e t ht
theorem okC_fw {n : Nat} {S : SS} (ok : okC n S) {t : Nat} {x : Int32} : okC n (f_work S t x).2 := by
  obtain ⟨a, b, c, d, e⟩ := ok
  refine ⟨by rw [fw_R]; exact a, fun t ht => ?_, fun t ht => ?_, fun t ht => ?_, fun t ht => ?_⟩
  · rw [fw_8 _ _ _ _ _ _ (by decide)]; exact b t ht
  · rw [fw_8 _ _ _ _ _ _ (by decide)]; exact c t ht
  · rw [fw_8 _ _ _ _ _ _ (by decide)]; exact d t ht
  · rw [fw_8 _ _ _ _ _ _ (by decide)]; exact e t ht
theorem sO_ok {n : Nat} {S : SS} (ok : okC n S) {t : Nat} {a b c : Int32} : okC n (f_X9_shiftOnce S t a b c).2 := by
  unfold f_X9_shiftOnce
  split
  · split
    · exact ok
    · split
      · exact okC_uI (okC_fw (okC_uI ok (by decide))) (by decide)
      · exact okC_fw (okC_uI ok (by decide))
  · exact ok
theorem sO_in {S : SS} {t : Nat} {a b c : Int32} : vp_in (f_X9_shiftOnce S t a b c).1 7 := by
  unfold f_X9_shiftOnce
  split
  · split
    · show vp_in 1 7; unfold vp_in; decide
    · split
      · exact pA_in
      · exact pA_in
  · show vp_in 2 7; unfold vp_in; decide
def shL (h f : Int32) (t : Nat) (a : Int32) : Nat → Nat → SS → Int32 × SS
  | 0, _, S => f_X9_done S a
  | r + 1, i, S => if (f_X9_shiftOnce S t (h + nI i) f (nI i)).1 = 0 then shL h f t a r (i + 1) (f_X9_shiftOnce S t (h + nI i) f (nI i)).2 else f_X9_fail (f_X9_shiftOnce S t (h + nI i) f (nI i)).2 (f_X9_shiftOnce S t (h + nI i) f (nI i)).1

set_option maxHeartbeats 4000000 in
set_option maxRecDepth 100000 in
theorem lp_X9_shift {p : Program} {l : Launch} {e : Env} {s : State} {m : MethodId} {args : Array Value} {below : List Frame} {meth : Method} {c : Code} {D : va_G} {cy : Nat → ClassId} {sz : Nat} {ad : Nat → Nat → Nat} {n : Nat} {t : Nat} (ht : t < 4) (x1 x3 x4 : Int32) {N : Nat} (hN : N ≤ 9) {F : Int32 × SS} (E : En p s m args meth c cX9_shift 8 (some .int) RX9 D cy sz) : ∀ (k i : Nat), i ≤ N → N + 1 ≤ i + k → ∀ (S : SS) (H : Heap) (locs : List Loc) (ls : Array Slot), okC n S → shL x1 x3 t (nI N) (N - i) i S = F → Gd D cy sz ad n S s.heap H locs → lv_has ls 8 [(6, .int (nI i)), (5, .ref (ad 8 t)), (0, .ref (ad 0 0)), (1, .int x1), (2, .int (nI N)), (3, .int x3), (4, .int x4)] → W p l e (Rm 3 70 0 0) s m args below meth c H locs 0 0 (MQ below (va_Qi (fun r u => (r, u) = F) (Po D cy sz ad n) (fun q => sz ≤ q)) args s 0 0 (fun q => sz ≤ q)) (F0 m 54 ls []) := by
  obtain ⟨hx, hb, hrt, hml, hown, hw, hlk, hK, hF2, hsz⟩ := id E
  intro k
  induction k with
  | zero => intro i g1 g2; exact absurd g2 (by omega)
  | succ k ih =>
    intro i g1 g2 S H locs ls ok hF G hl
    refine lv_iload hx hb dX9_shift_54 (lv_at hl 0 rfl) ?_
    refine lv_iload_n hx hb dX9_shift_56 rfl (lv_at hl 4 rfl) ?_
    refine lv_icmp_ge (tgt := 93) hx hb dX9_shift_57 (by decide) (fun h1 => ?_) (fun h1 => ?_)
    · have e1 : i = N := ge_eq (N := N) (by omega) g1 h1
      refine lv_aload_n hx hb dX9_shift_93 rfl (lv_at hl 2 rfl) ?_
      refine lv_iload_n hx hb dX9_shift_94 rfl (lv_at hl 4 rfl) ?_
      refine q_cV (rest := []) E G 0 0 c0 sg_0 (C := RX9) (T := TX9) (N := 10) rfl (k_X9_done l D cy sz ad n S (nI N)) tb_192 tb_194 tp_1 tb_1 tb_195 (nn := 1) (by decide +kernel) ⟨Nat.le_of_ble_eq_true rfl, Nat.le_of_ble_eq_true rfl⟩ rfl hl.1 rfl (Nat.le_of_ble_eq_true rfl) dX9_shift_95 ⟨Nat.zero_le _, Nat.zero_le _⟩ (fun H locs G => ?_)
      exact q_iret E G (by rw [← hF, show N - i = 0 by omega]; rfl) dX9_shift_98
    · have hlt : i < N := lt_of (N := N) (by omega) g1 h1
      refine lv_aload_n hx hb dX9_shift_60 rfl (lv_at hl 2 rfl) ?_
      refine lv_iload_n hx hb dX9_shift_61 rfl (lv_at hl 3 rfl) ?_
      refine lv_iload hx hb dX9_shift_62 (lv_at hl 0 rfl) ?_
      refine lv_iadd hx hb dX9_shift_64 ?_
      refine lv_iload_n hx hb dX9_shift_65 rfl (lv_at hl 5 rfl) ?_
      refine lv_aload hx hb dX9_shift_66 (lv_at hl 1 rfl) ?_
      refine lv_iload hx hb dX9_shift_68 (lv_at hl 0 rfl) ?_
      refine q_cV (rest := []) E G 0 0 c0 sg_0 (C := RX9) (T := TX9) (N := 10) rfl (k_X9_shiftOnce l D cy sz ad n S ok t ht (x1 + (nI i)) x3 (nI i)) tb_298 tb_300 tp_6 tb_1 tb_301 (nn := 4) (by decide +kernel) ⟨Nat.le_of_ble_eq_true rfl, Nat.le_of_ble_eq_true rfl⟩ rfl hl.1 rfl (Nat.le_of_ble_eq_true rfl) dX9_shift_70 ⟨Nat.zero_le _, Nat.zero_le _⟩ (fun H locs G => ?_)
      refine lv_istore (lv' := [(7, .int (f_X9_shiftOnce S t (x1 + (nI i)) x3 (nI i)).1), (6, .int (nI i)), (5, .ref (ad 8 t)), (0, .ref (ad 0 0)), (1, .int x1), (2, .int (nI N)), (3, .int x3), (4, .int x4)]) hx hb dX9_shift_73 hl (by decide) rfl (fun ls hl => ?_)
      refine lv_iload hx hb dX9_shift_75 (lv_at hl 0 rfl) ?_
      refine lv_if_eq (tgt := 87) hx hb dX9_shift_77 (by decide) (fun h2 => ?_) (fun h2 => ?_)
      · refine lv_iinc (v := (nI (i + 1))) (lv' := [(6, .int (nI (i + 1))), (7, .int (f_X9_shiftOnce S t (x1 + (nI i)) x3 (nI i)).1), (5, .ref (ad 8 t)), (0, .ref (ad 0 0)), (1, .int x1), (2, .int (nI N)), (3, .int x3), (4, .int x4)]) hx hb dX9_shift_87 hl (k := 1) rfl (nI_1 i) (by decide) rfl (fun ls hl => ?_)
        refine lv_goto (tgt := 54) hx hb dX9_shift_90 (by decide) ?_
        exact ih (i + 1) (by omega) (by omega) _ H locs ls (sO_ok ok) (by rw [← hF, show N - i = (N - (i + 1)) + 1 by omega]; conv => rhs; unfold shL; rw [if_pos h2]) G (lv_sub hl [0, 2, 3, 4, 5, 6, 7] rfl)
      · refine lv_aload_n hx hb dX9_shift_80 rfl (lv_at hl 3 rfl) ?_
        refine lv_iload hx hb dX9_shift_81 (lv_at hl 0 rfl) ?_
        refine q_cV (rest := []) E G 0 0 c0 sg_0 (C := RX9) (T := TX9) (N := 10) rfl (k_X9_fail l D cy sz ad n ((f_X9_shiftOnce S t (x1 + (nI i)) x3 (nI i)).2) ((f_X9_shiftOnce S t (x1 + (nI i)) x3 (nI i)).1) sO_in) tb_227 tb_229 tp_2 tb_1 tb_230 (nn := 1) (by decide +kernel) ⟨Nat.le_of_ble_eq_true rfl, Nat.le_of_ble_eq_true rfl⟩ rfl hl.1 rfl (Nat.le_of_ble_eq_true rfl) dX9_shift_83 ⟨Nat.zero_le _, Nat.zero_le _⟩ (fun H locs G => ?_)
        exact q_iret E G (by rw [← hF, show N - i = (N - (i + 1)) + 1 by omega]; unfold shL; rw [if_neg h2]) dX9_shift_86

theorem sh_in {x : Int32} (h1 : ¬ x < 0) (h2 : x ≤ 9) : vp_in x 10 := by
  have a := Int32.le_iff_toInt_le.mp (Int32.not_lt.mp h1)
  have b := Int32.le_iff_toInt_le.mp h2
  have e1 : (0 : Int32).toInt = 0 := by decide
  have e6 : (9 : Int32).toInt = 9 := by decide
  exact vp_in_iff.mpr ⟨by omega, by omega⟩

def f_X9_shift (S : SS) (x1 : Int32) (x2 : Int32) (x3 : Int32) (x4 : Int32) : Int32 × SS := if wi x1 10 = true then (if wi x4 4 = true then (if x2 < 0 then (f_X9_refuse S (-3)) else (if x2 ≤ 9 then shL x1 x3 x4.toNatClampNeg x2 x2.toNatClampNeg 0 S else (f_X9_refuse S (-3)))) else (f_X9_refuse S (-2))) else (f_X9_refuse S (-2))
set_option maxHeartbeats 4000000 in
set_option maxRecDepth 100000 in
theorem k_X9_shift (l : Launch) (D : va_G) (cy : Nat → ClassId) (sz : Nat) (ad : Nat → Nat → Nat) (n : Nat) (S : SS) (ok : okC n S) (x1 : Int32) (x2 : Int32) (x3 : Int32) (x4 : Int32) : CI l yX9_shift cX9_shift 8 (some .int) 3 70 [.ref (ad 0 0), .int x1, .int x2, .int x3, .int x4] D cy sz ad n S (f_X9_shift S x1 x2 x3 x4) := by
  refine Met.enter (by decide) (Nat.le_of_ble_eq_true rfl) (fun p e s m args below meth c ls E G hl => ?_)
  have E : En p s m args meth c cX9_shift 8 (some .int) RX9 D cy sz := E
  obtain ⟨hx, hb, hrt, hml, hown, hw, hlk, hK, hF, hsz⟩ := id E
  have hl : lv_has ls 8 [(0, .ref (ad 0 0)), (1, .int x1), (2, .int x2), (3, .int x3), (4, .int x4)] := hl
  refine lv_iload_n hx hb dX9_shift_0 rfl (lv_at hl 1 rfl) ?_
  refine lv_bipush (v := 10) hx hb dX9_shift_1 (by decide) ?_
  by_cases h1 : wi x1 10 = true
  · have v2 : vp_in x1 10 := wi_in h1 (by decide) (by decide)
    refine q_cSp E G [] (k_X9_isWithin_t l D cy sz ad n S x1 10 h1) tb_117 tb_118 tb_1 tb_119 (nn := 2) (by decide +kernel) ⟨Nat.le_of_ble_eq_true rfl, Nat.le_of_ble_eq_true rfl⟩ rfl hl.1 rfl (Nat.le_of_ble_eq_true rfl) dX9_shift_3 ⟨Nat.zero_le _, Nat.zero_le _⟩ (fun H locs G => ?_)
    refine lv_if_eq (tgt := 18) hx hb dX9_shift_6 (by decide) (fun h => absurd h (by decide)) (fun _ => ?_)
    refine lv_iload hx hb dX9_shift_9 (lv_at hl 4 rfl) ?_
    refine lv_iconst (v := 4) hx hb dX9_shift_11 (by decide) ?_
    by_cases h3 : wi x4 4 = true
    · have v4 : vp_in x4 4 := wi_in h3 (by decide) (by decide)
      refine q_cSp E G [] (k_X9_isWithin_t l D cy sz ad n S x4 4 h3) tb_117 tb_118 tb_1 tb_119 (nn := 2) (by decide +kernel) ⟨Nat.le_of_ble_eq_true rfl, Nat.le_of_ble_eq_true rfl⟩ rfl hl.1 rfl (Nat.le_of_ble_eq_true rfl) dX9_shift_12 ⟨Nat.zero_le _, Nat.zero_le _⟩ (fun H locs G => ?_)
      refine lv_if_ne (tgt := 25) hx hb dX9_shift_15 (by decide) (fun _ => ?_) (fun h => absurd h (by decide))
      refine lv_iload_n hx hb dX9_shift_25 rfl (lv_at hl 2 rfl) ?_
      refine lv_if_lt (tgt := 35) hx hb dX9_shift_26 (by decide) (fun h5 => ?_) (fun h5 => ?_)
      · refine lv_aload_n hx hb dX9_shift_35 rfl (lv_at hl 0 rfl) ?_
        refine lv_bipush (v := (-3)) hx hb dX9_shift_36 (by decide) ?_
        refine q_cV (rest := []) E G 0 0 c0 sg_0 (C := RX9) (T := TX9) (N := 10) rfl (k_X9_refuse l D cy sz ad n S (-3)) tb_120 tb_122 tp_0 tb_1 tb_123 (nn := 1) (by decide +kernel) ⟨Nat.le_of_ble_eq_true rfl, Nat.le_of_ble_eq_true rfl⟩ rfl hl.1 rfl (Nat.le_of_ble_eq_true rfl) dX9_shift_38 ⟨Nat.zero_le _, Nat.zero_le _⟩ (fun H locs G => ?_)
        exact q_iret E G (by unfold f_X9_shift; simp only [if_pos h1, if_pos h3, if_pos h5, pr_eta]) dX9_shift_41
      · refine lv_iload_n hx hb dX9_shift_29 rfl (lv_at hl 2 rfl) ?_
        refine lv_bipush (v := 9) hx hb dX9_shift_30 (by decide) ?_
        refine lv_icmp_le (tgt := 42) hx hb dX9_shift_32 (by decide) (fun h6 => ?_) (fun h6 => ?_)
        · refine lv_aload_n hx hb dX9_shift_42 rfl (lv_at hl 0 rfl) ?_
          refine q_get (index := 17) (ref := "ToolRoom") E G inX9 0 0 c0 sg_0 rfl 1 (by decide) tb_83 (Or.inl rfl) rfl dX9_shift_43 ?_
          refine lv_iload hx hb dX9_shift_46 (lv_at hl 4 rfl) ?_
          refine q_aald (C := "ToolRoom$Row") E G 2 0 c2 sa_2 3 rfl v4 dX9_shift_48 ?_
          refine lv_astore (lv' := [(5, .ref (ad 8 x4.toNatClampNeg)), (0, .ref (ad 0 0)), (1, .int x1), (2, .int x2), (3, .int x3), (4, .int x4)]) hx hb dX9_shift_49 hl (by decide) rfl (fun ls hl => ?_)
          refine lv_iconst (v := 0) hx hb dX9_shift_51 (by decide) ?_
          refine lv_istore (lv' := [(6, .int 0), (5, .ref (ad 8 x4.toNatClampNeg)), (0, .ref (ad 0 0)), (1, .int x1), (2, .int x2), (3, .int x3), (4, .int x4)]) hx hb dX9_shift_52 hl (by decide) rfl (fun ls hl => ?_)
          obtain ⟨N, hN, rfl⟩ := vp_in_of (sh_in h5 h6) (by decide)
          exact lp_X9_shift (vp_lt v4) x1 x3 x4 (by omega) E (N + 1) 0 (by omega) (by omega) S H locs ls ok (by unfold f_X9_shift; simp only [if_pos h1, if_pos h3, if_neg h5, if_pos h6]; rw [nI_clamp (by omega)]; rfl) G (lv_sub hl [0, 1, 2, 3, 4, 5, 6] rfl)
        · refine lv_aload_n hx hb dX9_shift_35 rfl (lv_at hl 0 rfl) ?_
          refine lv_bipush (v := (-3)) hx hb dX9_shift_36 (by decide) ?_
          refine q_cV (rest := []) E G 0 0 c0 sg_0 (C := RX9) (T := TX9) (N := 10) rfl (k_X9_refuse l D cy sz ad n S (-3)) tb_120 tb_122 tp_0 tb_1 tb_123 (nn := 1) (by decide +kernel) ⟨Nat.le_of_ble_eq_true rfl, Nat.le_of_ble_eq_true rfl⟩ rfl hl.1 rfl (Nat.le_of_ble_eq_true rfl) dX9_shift_38 ⟨Nat.zero_le _, Nat.zero_le _⟩ (fun H locs G => ?_)
          exact q_iret E G (by unfold f_X9_shift; simp only [if_pos h1, if_pos h3, if_neg h5, if_neg h6, pr_eta]) dX9_shift_41
    · refine q_cSp E G [] (k_X9_isWithin_f l D cy sz ad n S x4 4 h3) tb_117 tb_118 tb_1 tb_119 (nn := 2) (by decide +kernel) ⟨Nat.le_of_ble_eq_true rfl, Nat.le_of_ble_eq_true rfl⟩ rfl hl.1 rfl (Nat.le_of_ble_eq_true rfl) dX9_shift_12 ⟨Nat.zero_le _, Nat.zero_le _⟩ (fun H locs G => ?_)
      refine lv_if_ne (tgt := 25) hx hb dX9_shift_15 (by decide) (fun h => absurd h (by decide)) (fun _ => ?_)
      refine lv_aload_n hx hb dX9_shift_18 rfl (lv_at hl 0 rfl) ?_
      refine lv_bipush (v := (-2)) hx hb dX9_shift_19 (by decide) ?_
      refine q_cV (rest := []) E G 0 0 c0 sg_0 (C := RX9) (T := TX9) (N := 10) rfl (k_X9_refuse l D cy sz ad n S (-2)) tb_120 tb_122 tp_0 tb_1 tb_123 (nn := 1) (by decide +kernel) ⟨Nat.le_of_ble_eq_true rfl, Nat.le_of_ble_eq_true rfl⟩ rfl hl.1 rfl (Nat.le_of_ble_eq_true rfl) dX9_shift_21 ⟨Nat.zero_le _, Nat.zero_le _⟩ (fun H locs G => ?_)
      exact q_iret E G (by unfold f_X9_shift; simp only [if_pos h1, if_neg h3, pr_eta]) dX9_shift_24
  · refine q_cSp E G [] (k_X9_isWithin_f l D cy sz ad n S x1 10 h1) tb_117 tb_118 tb_1 tb_119 (nn := 2) (by decide +kernel) ⟨Nat.le_of_ble_eq_true rfl, Nat.le_of_ble_eq_true rfl⟩ rfl hl.1 rfl (Nat.le_of_ble_eq_true rfl) dX9_shift_3 ⟨Nat.zero_le _, Nat.zero_le _⟩ (fun H locs G => ?_)
    refine lv_if_eq (tgt := 18) hx hb dX9_shift_6 (by decide) (fun _ => ?_) (fun h => absurd h (by decide))
    refine lv_aload_n hx hb dX9_shift_18 rfl (lv_at hl 0 rfl) ?_
    refine lv_bipush (v := (-2)) hx hb dX9_shift_19 (by decide) ?_
    refine q_cV (rest := []) E G 0 0 c0 sg_0 (C := RX9) (T := TX9) (N := 10) rfl (k_X9_refuse l D cy sz ad n S (-2)) tb_120 tb_122 tp_0 tb_1 tb_123 (nn := 1) (by decide +kernel) ⟨Nat.le_of_ble_eq_true rfl, Nat.le_of_ble_eq_true rfl⟩ rfl hl.1 rfl (Nat.le_of_ble_eq_true rfl) dX9_shift_21 ⟨Nat.zero_le _, Nat.zero_le _⟩ (fun H locs G => ?_)
    exact q_iret E G (by unfold f_X9_shift; simp only [if_neg h1, pr_eta]) dX9_shift_24
end
section
def pB (k : Int32) : Int32 := if k = 1 then 1 else if k = 2 then 1 else 0
def mW (S : SS) (t : Int32) : Int32 := if S.1 18 2 t.toNatClampNeg = 0 then 50 + S.1 18 3 t.toNatClampNeg else if S.1 18 2 t.toNatClampNeg = 1 then 10 else if S.1 18 2 t.toNatClampNeg = 2 then 12 else 5
def pT (what k : Int32) : Int32 := if what = 2 then (if wj k 0 1 = true then 1 else 0) else (if wj k 0 3 = true then 1 else 0)
def pZ (S : SS) (what k : Int32) : Int32 := if what = 0 then S.1 18 7 k.toNatClampNeg else if what = 1 then S.1 18 9 k.toNatClampNeg else S.1 18 12 k.toNatClampNeg
def pL (s i : Int32) : Int32 := if 0 ≤ s then (if wj i 0 (s - 1) = true then 0 else 2) else 1
def pD (S : SS) (g i j : Int32) : Int32 := if pL (S.1 18 12 g.toNatClampNeg) i = 0 then pL (S.1 18 13 ((8 * g) + i).toNatClampNeg) j else pL (S.1 18 12 g.toNatClampNeg) i
def pO (S : SS) (t sort : Int32) : Int32 := if t = -1 then 1 else if sort = 0 then 1 else if sort = 1 then pB (S.1 18 2 t.toNatClampNeg) else if S.1 18 2 t.toNatClampNeg = 3 then 1 else 0
theorem pB_01 (k : Int32) : pB k = 0 ∨ pB k = 1 := by
  unfold pB
  split
  · exact Or.inr rfl
  · split
    · exact Or.inr rfl
    · exact Or.inl rfl
theorem pL_in {s i : Int32} : vp_in (pL s i) 7 := by
  unfold pL
  split
  · split
    · unfold vp_in; decide
    · unfold vp_in; decide
  · unfold vp_in; decide
theorem pD_in {S : SS} {g i j : Int32} : vp_in (pD S g i j) 7 := by
  unfold pD
  split
  · exact pL_in
  · exact pL_in
theorem pL_0 {s i : Int32} {N : Nat} (h : pL s i = 0) (hs : s ≤ nI N) (hN : N < 2 ^ 31) : vp_in i N := by
  unfold pL at h
  split at h
  · split at h
    · rename_i h1 h2
      unfold wj at h2
      simp only [Bool.and_eq_true, decide_eq_true_eq] at h2
      have a := Int32.le_iff_toInt_le.mp h2.1
      have b := Int32.le_iff_toInt_le.mp h2.2
      have c := Int32.le_iff_toInt_le.mp hs
      have d := Int32.le_iff_toInt_le.mp h1
      have e0 : (0 : Int32).toInt = 0 := by decide
      have e1 : (1 : Int32).toInt = 1 := by decide
      have hm : s.toInt < 2 ^ 31 := Int32.toInt_lt s
      rw [nI_toInt hN] at c
      have f : (s - 1).toInt = s.toInt - 1 := by
        rw [Int32.toInt_sub, e1]
        exact Int.bmod_eq_of_le (by omega) (by omega)
      exact vp_in_iff.mpr ⟨by omega, by omega⟩
    · exact absurd h (by decide)
  · exact absurd h (by decide)
theorem pD_a {S : SS} {g i j : Int32} (h : pD S g i j = 0) : pL (S.1 18 12 g.toNatClampNeg) i = 0 := by
  unfold pD at h
  split at h
  · assumption
  · exact h
theorem pD_b {S : SS} {g i j : Int32} (h : pD S g i j = 0) : pL (S.1 18 13 ((8 * g) + i).toNatClampNeg) j = 0 := by
  have h1 := pD_a h
  unfold pD at h
  rw [if_pos h1] at h
  exact h
theorem pT_4 {what k : Int32} (h : ¬ pT what k = 0) : vp_in k 4 := by
  unfold pT at h
  split at h
  · split at h
    · have q := wj_in (N := 1) (by assumption) (by decide) (by decide)
      have := vp_in_iff.mp q
      exact vp_in_iff.mpr ⟨this.1, by omega⟩
    · exact absurd rfl h
  · split at h
    · exact wj_in (N := 3) (by assumption) (by decide) (by decide)
    · exact absurd rfl h
theorem pT_2 {what k : Int32} (h : ¬ pT what k = 0) (h2 : what = 2) : vp_in k 2 := by
  unfold pT at h
  rw [if_pos h2] at h
  split at h
  · exact wj_in (N := 1) (by assumption) (by decide) (by decide)
  · exact absurd rfl h
theorem wh_2 {x : Int32} (h : vp_in x 3) (h0 : ¬ x = 0) (h1 : ¬ x = 1) : x = 2 := by
  obtain ⟨j, hj, rfl⟩ := vp_in_of h (by decide)
  rcases (show j = 0 ∨ j = 1 ∨ j = 2 by omega) with rfl | rfl | rfl
  · exact absurd rfl h0
  · exact absurd rfl h1
  · rfl
theorem ixm {a b : Int32} {A B c : Nat} (ha : vp_in a A) (hb : vp_in b B) (C : Int32) (hC : C = nI c) (hs : c * A + B < 2 ^ 31) (hA : A < 2 ^ 31) (hB : B < 2 ^ 31) : C * a + b = nI (c * a.toNatClampNeg + b.toNatClampNeg) := by
  obtain ⟨i, hi, rfl⟩ := vp_in_of ha hA
  obtain ⟨j, hj, rfl⟩ := vp_in_of hb hB
  subst hC
  rw [pk_mul, nI_add, nI_clamp (by omega), nI_clamp (by omega)]
theorem ix_lt {i A c j B N : Nat} (hi : i < A) (hj : j < B) (h : c * (A - 1) + B ≤ N) : c * i + j < N := by
  have : c * i ≤ c * (A - 1) := Nat.mul_le_mul_left c (by omega)
  omega
theorem ixv {a b : Int32} {A B c N : Nat} (ha : vp_in a A) (hb : vp_in b B) (C : Int32) (hC : C = nI c) (hs : c * A + B < 2 ^ 31) (hA : A < 2 ^ 31) (hB : B < 2 ^ 31) (hN : c * (A - 1) + B ≤ N) (hN2 : N < 2 ^ 31) : vp_in (C * a + b) N := by
  rw [ixm ha hb C hC hs hA hB]
  exact vp_in_nI (ix_lt (vp_lt ha) (vp_lt hb) hN) hN2
theorem ix3 {a b d : Int32} (ha : vp_in a 2) (hb : vp_in b 8) (hd : vp_in d 8) : (((64 * a) + (8 * b)) + d) = nI (64 * a.toNatClampNeg + 8 * b.toNatClampNeg + d.toNatClampNeg) := by
  obtain ⟨i, hi, rfl⟩ := vp_in_of ha (by decide)
  obtain ⟨j, hj, rfl⟩ := vp_in_of hb (by decide)
  obtain ⟨k, hk, rfl⟩ := vp_in_of hd (by decide)
  rw [show (64 : Int32) = nI 64 from rfl, show (8 : Int32) = nI 8 from rfl, pk_mul, pk_mul, nI_add, nI_add, nI_clamp (by omega), nI_clamp (by omega), nI_clamp (by omega)]
theorem ix3v {a b d : Int32} (ha : vp_in a 2) (hb : vp_in b 8) (hd : vp_in d 8) : vp_in (((64 * a) + (8 * b)) + d) 128 := by
  rw [ix3 ha hb hd]
  have := vp_lt ha
  have := vp_lt hb
  have := vp_lt hd
  exact vp_in_nI (by omega) (by decide)
theorem cnt7 {x : Int32} (h : vp_in x 8) (h7 : ¬ x = 7) : vp_in x 7 := by
  obtain ⟨j, hj, rfl⟩ := vp_in_of h (by decide)
  exact vp_in_nI (by rcases (show j < 7 ∨ j = 7 by omega) with q | q; exact q; exact absurd (by rw [q]; rfl) h7) (by decide)

set_option maxHeartbeats 4000000 in
set_option maxRecDepth 100000 in
theorem k_X10_in (l : Launch) (D : va_G) (cy : Nat → ClassId) (sz : Nat) (ad : Nat → Nat → Nat) (n : Nat) (S : SS) (x : Int32) (a : Int32) (b : Int32) : CI l yX10_in cX10_in 3 (some .boolean) 0 0 [.int x, .int a, .int b] D cy sz ad n S (bi (wj x a b), S) := by
  refine Met.enter (by decide) (Nat.le_of_ble_eq_true rfl) (fun p e s m args below meth c ls E G hl => ?_)
  have E : En p s m args meth c cX10_in 3 (some .boolean) RX10 D cy sz := E
  obtain ⟨hx, hb, hrt, hml, hown, hw, hlk, hK, hF, hsz⟩ := id E
  have hl : lv_has ls 3 [(0, .int x), (1, .int a), (2, .int b)] := hl
  refine lv_iload_n hx hb dX10_in_0 rfl (lv_at hl 0 rfl) ?_
  refine lv_iload_n hx hb dX10_in_1 rfl (lv_at hl 1 rfl) ?_
  refine lv_icmp_lt (tgt := 14) hx hb dX10_in_2 (by decide) (fun h1 => ?_) (fun h1 => ?_)
  · refine lv_iconst (v := 0) hx hb dX10_in_14 (by decide) ?_
    exact q_zret E G rfl (Prod.ext (by simp only [bi, wj]; first | (simp [h1]; done) | (have h0 := Int32.not_lt.mp h1; simp [h0, h1]; done) | (have h0 := Int32.not_le.mp h1; simp [h0, h1]; done) | (have h9 := Int32.not_le.mpr h1; simp [h9]; done) | (have h9 := Int32.not_le.mpr h2; simp [h9]; done) | (have h0 := Int32.not_lt.mp h1; have h9 := Int32.not_lt.mp h2; simp [h0, h9]; done) | (have h0 := Int32.not_lt.mp h1; have h9 := Int32.not_le.mpr h2; simp [h0, h9]; done)) rfl) dX10_in_15
  · refine lv_iload_n hx hb dX10_in_5 rfl (lv_at hl 0 rfl) ?_
    refine lv_iload_n hx hb dX10_in_6 rfl (lv_at hl 2 rfl) ?_
    refine lv_icmp_gt (tgt := 14) hx hb dX10_in_7 (by decide) (fun h2 => ?_) (fun h2 => ?_)
    · refine lv_iconst (v := 0) hx hb dX10_in_14 (by decide) ?_
      exact q_zret E G rfl (Prod.ext (by simp only [bi, wj]; first | (simp [h1, h2]; done) | (have h0 := Int32.not_lt.mp h1; simp [h0, h1, h2]; done) | (have h0 := Int32.not_le.mp h1; simp [h0, h1, h2]; done) | (have h9 := Int32.not_le.mpr h1; simp [h9]; done) | (have h9 := Int32.not_le.mpr h2; simp [h9]; done) | (have h0 := Int32.not_lt.mp h1; have h9 := Int32.not_lt.mp h2; simp [h0, h9]; done) | (have h0 := Int32.not_lt.mp h1; have h9 := Int32.not_le.mpr h2; simp [h0, h9]; done)) rfl) dX10_in_15
    · refine lv_iconst (v := 1) hx hb dX10_in_10 (by decide) ?_
      refine lv_goto (tgt := 15) hx hb dX10_in_11 (by decide) ?_
      exact q_zret E G rfl (Prod.ext (by simp only [bi, wj]; first | (simp [h1, h2]; done) | (have h0 := Int32.not_lt.mp h1; simp [h0, h1, h2]; done) | (have h0 := Int32.not_le.mp h1; simp [h0, h1, h2]; done) | (have h9 := Int32.not_le.mpr h1; simp [h9]; done) | (have h9 := Int32.not_le.mpr h2; simp [h9]; done) | (have h0 := Int32.not_lt.mp h1; have h9 := Int32.not_lt.mp h2; simp [h0, h9]; done) | (have h0 := Int32.not_lt.mp h1; have h9 := Int32.not_le.mpr h2; simp [h0, h9]; done)) rfl) dX10_in_15

theorem k_X10_in_t (l : Launch) (D : va_G) (cy : Nat → ClassId) (sz : Nat) (ad : Nat → Nat → Nat) (n : Nat) (S : SS) (x a b : Int32) (h : wj x a b = true) : CI l yX10_in cX10_in 3 (some .boolean) 0 0 [.int x, .int a, .int b] D cy sz ad n S (1, S) := by
  have := k_X10_in l D cy sz ad n S x a b
  rw [h] at this
  exact this

theorem k_X10_in_f (l : Launch) (D : va_G) (cy : Nat → ClassId) (sz : Nat) (ad : Nat → Nat → Nat) (n : Nat) (S : SS) (x a b : Int32) (h : ¬ wj x a b = true) : CI l yX10_in cX10_in 3 (some .boolean) 0 0 [.int x, .int a, .int b] D cy sz ad n S (0, S) := by
  have := k_X10_in l D cy sz ad n S x a b
  rw [Bool.not_eq_true] at h
  rw [h] at this
  exact this

def f_X10_says (S : SS) (v : Int32) : Int32 × SS := (v, (uI S 17 0 17 0))
set_option maxHeartbeats 4000000 in
set_option maxRecDepth 100000 in
theorem k_X10_says (l : Launch) (D : va_G) (cy : Nat → ClassId) (sz : Nat) (ad : Nat → Nat → Nat) (n : Nat) (S : SS) (v : Int32) : CI l yX10_says cX10_says 2 (some .int) 0 0 [.ref (ad 17 0), .int v] D cy sz ad n S (f_X10_says S v) := by
  refine Met.enter (by decide) (Nat.le_of_ble_eq_true rfl) (fun p e s m args below meth c ls E G hl => ?_)
  have E : En p s m args meth c cX10_says 2 (some .int) RX10 D cy sz := E
  obtain ⟨hx, hb, hrt, hml, hown, hw, hlk, hK, hF, hsz⟩ := id E
  have hl : lv_has ls 2 [(0, .ref (ad 17 0)), (1, .int v)] := hl
  refine lv_aload_n hx hb dX10_says_0 rfl (lv_at hl 0 rfl) ?_
  refine lv_iconst (v := 0) hx hb dX10_says_1 (by decide) ?_
  refine q_put (index := 62) (ref := "ToolRoomModel") E G inX10 tyX10 tyX10_ok nmX10 17 0 c17 17 sg_17 rfl 17 (by decide) tb_438 (Or.inl rfl) rfl (ty := .int) (by decide +kernel) rfl rfl (Nat.le_of_ble_eq_true rfl) sp_17_17 dX10_says_2 (fun H locs G => ?_)
  refine lv_iload_n hx hb dX10_says_5 rfl (lv_at hl 1 rfl) ?_
  exact q_iret E G (by rfl) dX10_says_6

def f_X10_refuses (S : SS) (v : Int32) : Int32 × SS := (v, (uI S 17 0 17 v))
set_option maxHeartbeats 4000000 in
set_option maxRecDepth 100000 in
theorem k_X10_refuses (l : Launch) (D : va_G) (cy : Nat → ClassId) (sz : Nat) (ad : Nat → Nat → Nat) (n : Nat) (S : SS) (v : Int32) : CI l yX10_refuses cX10_refuses 2 (some .int) 0 0 [.ref (ad 17 0), .int v] D cy sz ad n S (f_X10_refuses S v) := by
  refine Met.enter (by decide) (Nat.le_of_ble_eq_true rfl) (fun p e s m args below meth c ls E G hl => ?_)
  have E : En p s m args meth c cX10_refuses 2 (some .int) RX10 D cy sz := E
  obtain ⟨hx, hb, hrt, hml, hown, hw, hlk, hK, hF, hsz⟩ := id E
  have hl : lv_has ls 2 [(0, .ref (ad 17 0)), (1, .int v)] := hl
  refine lv_aload_n hx hb dX10_refuses_0 rfl (lv_at hl 0 rfl) ?_
  refine lv_iload_n hx hb dX10_refuses_1 rfl (lv_at hl 1 rfl) ?_
  refine q_put (index := 62) (ref := "ToolRoomModel") E G inX10 tyX10 tyX10_ok nmX10 17 0 c17 17 sg_17 rfl 17 (by decide) tb_438 (Or.inl rfl) rfl (ty := .int) (by decide +kernel) rfl rfl (Nat.le_of_ble_eq_true rfl) sp_17_17 dX10_refuses_2 (fun H locs G => ?_)
  refine lv_iload_n hx hb dX10_refuses_5 rfl (lv_at hl 1 rfl) ?_
  exact q_iret E G (by rfl) dX10_refuses_6

def f_X10_fails (S : SS) (v : Int32) : Int32 × SS := (((-10) - v), (uI (uI (uI S 17 0 18 v) 18 19 v.toNatClampNeg ((S.1 18 19 v.toNatClampNeg) + 1)) 17 0 17 ((-10) - v)))
set_option maxHeartbeats 4000000 in
set_option maxRecDepth 100000 in
theorem k_X10_fails (l : Launch) (D : va_G) (cy : Nat → ClassId) (sz : Nat) (ad : Nat → Nat → Nat) (n : Nat) (S : SS) (v : Int32) (hv : vp_in v 7) : CI l yX10_fails cX10_fails 2 (some .int) 0 0 [.ref (ad 17 0), .int v] D cy sz ad n S (f_X10_fails S v) := by
  refine Met.enter (by decide) (Nat.le_of_ble_eq_true rfl) (fun p e s m args below meth c ls E G hl => ?_)
  have E : En p s m args meth c cX10_fails 2 (some .int) RX10 D cy sz := E
  obtain ⟨hx, hb, hrt, hml, hown, hw, hlk, hK, hF, hsz⟩ := id E
  have hl : lv_has ls 2 [(0, .ref (ad 17 0)), (1, .int v)] := hl
  refine lv_aload_n hx hb dX10_fails_0 rfl (lv_at hl 0 rfl) ?_
  refine lv_iload_n hx hb dX10_fails_1 rfl (lv_at hl 1 rfl) ?_
  refine q_put (index := 66) (ref := "ToolRoomModel") E G inX10 tyX10 tyX10_ok nmX10 17 0 c17 18 sg_17 rfl 18 (by decide) tb_439 (Or.inl rfl) rfl (ty := .int) (by decide +kernel) rfl rfl (Nat.le_of_ble_eq_true rfl) sp_17_18 dX10_fails_2 (fun H locs G => ?_)
  refine lv_aload_n hx hb dX10_fails_5 rfl (lv_at hl 0 rfl) ?_
  refine q_get (index := 59) (ref := "ToolRoomModel") E G inX10 17 0 c17 sg_17 rfl 19 (by decide) tb_440 (Or.inl rfl) rfl dX10_fails_6 ?_
  refine lv_iload_n hx hb dX10_fails_9 rfl (lv_at hl 1 rfl) ?_
  refine lv_dup2_11 hx hb dX10_fails_10 rfl rfl ?_
  refine q_iald E G 18 19 (c18 19 (by decide)) sa_18_19 hv dX10_fails_11 ?_
  rw [uI_nf (by decide)]
  refine lv_iconst (v := 1) hx hb dX10_fails_12 (by decide) ?_
  refine lv_iadd hx hb dX10_fails_13 ?_
  refine q_iast E G 18 19 (c18 19 (by decide)) (fun _ => sa_18_19) hv dX10_fails_14 (fun H locs G => ?_)
  refine lv_aload_n hx hb dX10_fails_15 rfl (lv_at hl 0 rfl) ?_
  refine lv_bipush (v := (-10)) hx hb dX10_fails_16 (by decide) ?_
  refine lv_iload_n hx hb dX10_fails_18 rfl (lv_at hl 1 rfl) ?_
  refine lv_isub hx hb dX10_fails_19 ?_
  refine q_put (index := 62) (ref := "ToolRoomModel") E G inX10 tyX10 tyX10_ok nmX10 17 0 c17 17 sg_17 rfl 17 (by decide) tb_438 (Or.inl rfl) rfl (ty := .int) (by decide +kernel) rfl rfl (Nat.le_of_ble_eq_true rfl) sp_17_17 dX10_fails_20 (fun H locs G => ?_)
  refine lv_aload_n hx hb dX10_fails_23 rfl (lv_at hl 0 rfl) ?_
  refine q_get (index := 62) (ref := "ToolRoomModel") E G inX10 17 0 c17 sg_17 rfl 17 (by decide) tb_438 (Or.inl rfl) rfl dX10_fails_24 ?_
  rw [uI_self]
  exact q_iret E G (by rfl) dX10_fails_27

theorem fails_ne1 (S : SS) : ¬ (f_X10_fails S 1).1 = 0 := by
  show ¬ ((-10 : Int32) - 1 = 0)
  decide

set_option maxHeartbeats 4000000 in
set_option maxRecDepth 100000 in
theorem k_X10_isBlade (l : Launch) (D : va_G) (cy : Nat → ClassId) (sz : Nat) (ad : Nat → Nat → Nat) (n : Nat) (S : SS) (k : Int32) : CI l yX10_isBlade cX10_isBlade 1 (some .boolean) 0 0 [.int k] D cy sz ad n S (pB k, S) := by
  refine Met.enter (by decide) (Nat.le_of_ble_eq_true rfl) (fun p e s m args below meth c ls E G hl => ?_)
  have E : En p s m args meth c cX10_isBlade 1 (some .boolean) RX10 D cy sz := E
  obtain ⟨hx, hb, hrt, hml, hown, hw, hlk, hK, hF, hsz⟩ := id E
  have hl : lv_has ls 1 [(0, .int k)] := hl
  refine lv_iload_n hx hb dX10_isBlade_0 rfl (lv_at hl 0 rfl) ?_
  refine lv_iconst (v := 1) hx hb dX10_isBlade_1 (by decide) ?_
  refine lv_icmp_eq (tgt := 10) hx hb dX10_isBlade_2 (by decide) (fun h1 => ?_) (fun h1 => ?_)
  · refine lv_iconst (v := 1) hx hb dX10_isBlade_10 (by decide) ?_
    refine lv_goto (tgt := 15) hx hb dX10_isBlade_11 (by decide) ?_
    exact q_zret E G rfl (by first | rfl | (unfold pB; simp only [if_pos h1]; done) | (unfold pB; simp only [if_pos h1]; rfl)) dX10_isBlade_15
  · refine lv_iload_n hx hb dX10_isBlade_5 rfl (lv_at hl 0 rfl) ?_
    refine lv_iconst (v := 2) hx hb dX10_isBlade_6 (by decide) ?_
    refine lv_icmp_ne (tgt := 14) hx hb dX10_isBlade_7 (by decide) (fun h2 => ?_) (fun h2 => ?_)
    · refine lv_iconst (v := 0) hx hb dX10_isBlade_14 (by decide) ?_
      exact q_zret E G rfl (by first | rfl | (unfold pB; simp only [if_neg h1, if_neg h2]; done) | (unfold pB; simp only [if_neg h1, if_neg h2]; rfl)) dX10_isBlade_15
    · refine lv_iconst (v := 1) hx hb dX10_isBlade_10 (by decide) ?_
      refine lv_goto (tgt := 15) hx hb dX10_isBlade_11 (by decide) ?_
      exact q_zret E G rfl (by first | rfl | (unfold pB; simp only [if_neg h1, if_pos h2]; done) | (unfold pB; simp only [if_neg h1, if_pos h2]; rfl)) dX10_isBlade_15

set_option maxHeartbeats 4000000 in
set_option maxRecDepth 100000 in
theorem k_X10_weight (l : Launch) (D : va_G) (cy : Nat → ClassId) (sz : Nat) (ad : Nat → Nat → Nat) (n : Nat) (S : SS) (t : Int32) (hv : vp_in t 600) : CI l yX10_weight cX10_weight 2 (some .int) 0 0 [.ref (ad 17 0), .int t] D cy sz ad n S (mW S t, S) := by
  refine Met.enter (by decide) (Nat.le_of_ble_eq_true rfl) (fun p e s m args below meth c ls E G hl => ?_)
  have E : En p s m args meth c cX10_weight 2 (some .int) RX10 D cy sz := E
  obtain ⟨hx, hb, hrt, hml, hown, hw, hlk, hK, hF, hsz⟩ := id E
  have hl : lv_has ls 2 [(0, .ref (ad 17 0)), (1, .int t)] := hl
  refine lv_aload_n hx hb dX10_weight_0 rfl (lv_at hl 0 rfl) ?_
  refine q_get (index := 13) (ref := "ToolRoomModel") E G inX10 17 0 c17 sg_17 rfl 2 (by decide) tb_423 (Or.inl rfl) rfl dX10_weight_1 ?_
  refine lv_iload_n hx hb dX10_weight_4 rfl (lv_at hl 1 rfl) ?_
  refine q_iald E G 18 2 (c18 2 (by decide)) sa_18_2 hv dX10_weight_5 ?_
  refine lv_if_ne (tgt := 21) hx hb dX10_weight_6 (by decide) (fun h1 => ?_) (fun h1 => ?_)
  · refine lv_aload_n hx hb dX10_weight_21 rfl (lv_at hl 0 rfl) ?_
    refine q_get (index := 13) (ref := "ToolRoomModel") E G inX10 17 0 c17 sg_17 rfl 2 (by decide) tb_423 (Or.inl rfl) rfl dX10_weight_22 ?_
    refine lv_iload_n hx hb dX10_weight_25 rfl (lv_at hl 1 rfl) ?_
    refine q_iald E G 18 2 (c18 2 (by decide)) sa_18_2 hv dX10_weight_26 ?_
    refine lv_iconst (v := 1) hx hb dX10_weight_27 (by decide) ?_
    refine lv_icmp_ne (tgt := 36) hx hb dX10_weight_28 (by decide) (fun h2 => ?_) (fun h2 => ?_)
    · refine lv_aload_n hx hb dX10_weight_36 rfl (lv_at hl 0 rfl) ?_
      refine q_get (index := 13) (ref := "ToolRoomModel") E G inX10 17 0 c17 sg_17 rfl 2 (by decide) tb_423 (Or.inl rfl) rfl dX10_weight_37 ?_
      refine lv_iload_n hx hb dX10_weight_40 rfl (lv_at hl 1 rfl) ?_
      refine q_iald E G 18 2 (c18 2 (by decide)) sa_18_2 hv dX10_weight_41 ?_
      refine lv_iconst (v := 2) hx hb dX10_weight_42 (by decide) ?_
      refine lv_icmp_ne (tgt := 51) hx hb dX10_weight_43 (by decide) (fun h3 => ?_) (fun h3 => ?_)
      · refine lv_iconst (v := 5) hx hb dX10_weight_51 (by decide) ?_
        exact q_iret E G (by first | rfl | (unfold mW; simp only [if_neg h1, if_neg h2, if_neg h3]; done) | (unfold mW; simp only [if_neg h1, if_neg h2, if_neg h3]; rfl)) dX10_weight_52
      · refine lv_bipush (v := 12) hx hb dX10_weight_46 (by decide) ?_
        refine lv_goto (tgt := 52) hx hb dX10_weight_48 (by decide) ?_
        exact q_iret E G (by first | rfl | (unfold mW; simp only [if_neg h1, if_neg h2, if_pos h3]; done) | (unfold mW; simp only [if_neg h1, if_neg h2, if_pos h3]; rfl)) dX10_weight_52
    · refine lv_bipush (v := 10) hx hb dX10_weight_31 (by decide) ?_
      refine lv_goto (tgt := 52) hx hb dX10_weight_33 (by decide) ?_
      exact q_iret E G (by first | rfl | (unfold mW; simp only [if_neg h1, if_pos h2]; done) | (unfold mW; simp only [if_neg h1, if_pos h2]; rfl)) dX10_weight_52
  · refine lv_bipush (v := 50) hx hb dX10_weight_9 (by decide) ?_
    refine lv_aload_n hx hb dX10_weight_11 rfl (lv_at hl 0 rfl) ?_
    refine q_get (index := 16) (ref := "ToolRoomModel") E G inX10 17 0 c17 sg_17 rfl 3 (by decide) tb_424 (Or.inl rfl) rfl dX10_weight_12 ?_
    refine lv_iload_n hx hb dX10_weight_15 rfl (lv_at hl 1 rfl) ?_
    refine q_iald E G 18 3 (c18 3 (by decide)) sa_18_3 hv dX10_weight_16 ?_
    refine lv_iadd hx hb dX10_weight_17 ?_
    refine lv_goto (tgt := 52) hx hb dX10_weight_18 (by decide) ?_
    exact q_iret E G (by first | rfl | (unfold mW; simp only [if_pos h1]; done) | (unfold mW; simp only [if_pos h1]; rfl)) dX10_weight_52

def f_X10_used (S : SS) (t : Int32) (x : Int32) : Int32 × SS := if (S.1 18 2 t.toNatClampNeg) = 0 then ((x + x), (uI (uI S 17 0 20 ((S.1 17 0 20) + 1)) 18 3 t.toNatClampNeg ((S.1 18 3 t.toNatClampNeg) + x))) else (if (S.1 18 2 t.toNatClampNeg) = 1 then ((x + (S.1 18 3 t.toNatClampNeg)), (uI (uI S 17 0 20 ((S.1 17 0 20) + 1)) 18 4 t.toNatClampNeg ((S.1 18 4 t.toNatClampNeg) - x))) else (if (S.1 18 2 t.toNatClampNeg) = 2 then (((x + (S.1 18 3 t.toNatClampNeg)) + 1), (uI (uI S 17 0 20 ((S.1 17 0 20) + 1)) 18 4 t.toNatClampNeg (((S.1 18 4 t.toNatClampNeg) - x) + 1))) else ((S.1 18 3 t.toNatClampNeg), (uI (uI S 17 0 20 ((S.1 17 0 20) + 1)) 18 3 t.toNatClampNeg ((S.1 18 3 t.toNatClampNeg) + 1)))))
set_option maxHeartbeats 4000000 in
set_option maxRecDepth 100000 in
theorem k_X10_used (l : Launch) (D : va_G) (cy : Nat → ClassId) (sz : Nat) (ad : Nat → Nat → Nat) (n : Nat) (S : SS) (t : Int32) (x : Int32) (hv : vp_in t 600) : CI l yX10_used cX10_used 4 (some .int) 0 0 [.ref (ad 17 0), .int t, .int x] D cy sz ad n S (f_X10_used S t x) := by
  refine Met.enter (by decide) (Nat.le_of_ble_eq_true rfl) (fun p e s m args below meth c ls E G hl => ?_)
  have E : En p s m args meth c cX10_used 4 (some .int) RX10 D cy sz := E
  obtain ⟨hx, hb, hrt, hml, hown, hw, hlk, hK, hF, hsz⟩ := id E
  have hl : lv_has ls 4 [(0, .ref (ad 17 0)), (1, .int t), (2, .int x)] := hl
  refine lv_aload_n hx hb dX10_used_0 rfl (lv_at hl 0 rfl) ?_
  refine lv_dup hx hb dX10_used_1 rfl ?_
  refine q_get (index := 93) (ref := "ToolRoomModel") E G inX10 17 0 c17 sg_17 rfl 20 (by decide) tb_441 (Or.inl rfl) rfl dX10_used_2 ?_
  refine lv_iconst (v := 1) hx hb dX10_used_5 (by decide) ?_
  refine lv_iadd hx hb dX10_used_6 ?_
  refine q_put (index := 93) (ref := "ToolRoomModel") E G inX10 tyX10 tyX10_ok nmX10 17 0 c17 20 sg_17 rfl 20 (by decide) tb_441 (Or.inl rfl) rfl (ty := .int) (by decide +kernel) rfl rfl (Nat.le_of_ble_eq_true rfl) sp_17_20 dX10_used_7 (fun H locs G => ?_)
  refine lv_aload_n hx hb dX10_used_10 rfl (lv_at hl 0 rfl) ?_
  refine q_get (index := 13) (ref := "ToolRoomModel") E G inX10 17 0 c17 sg_17 rfl 2 (by decide) tb_423 (Or.inl rfl) rfl dX10_used_11 ?_
  refine lv_iload_n hx hb dX10_used_14 rfl (lv_at hl 1 rfl) ?_
  refine q_iald E G 18 2 (c18 2 (by decide)) sa_18_2 hv dX10_used_15 ?_
  rw [uI_nf (by decide)]
  refine q_tab3 (t0 := 44) (t1 := 58) (t2 := 77) (t3 := 104) hx hb dX10_used_16 (by decide) (by decide) (by decide) (by decide) (fun h1 => ?_) (fun h1 h2 => ?_) (fun h1 h2 h3 => ?_) (fun h1 h2 h3 => ?_)
  · refine lv_aload_n hx hb dX10_used_44 rfl (lv_at hl 0 rfl) ?_
    refine q_get (index := 16) (ref := "ToolRoomModel") E G inX10 17 0 c17 sg_17 rfl 3 (by decide) tb_424 (Or.inl rfl) rfl dX10_used_45 ?_
    refine lv_iload_n hx hb dX10_used_48 rfl (lv_at hl 1 rfl) ?_
    refine lv_dup2_11 hx hb dX10_used_49 rfl rfl ?_
    refine q_iald E G 18 3 (c18 3 (by decide)) sa_18_3 hv dX10_used_50 ?_
    rw [uI_nf (by decide)]
    refine lv_iload_n hx hb dX10_used_51 rfl (lv_at hl 2 rfl) ?_
    refine lv_iadd hx hb dX10_used_52 ?_
    refine q_iast E G 18 3 (c18 3 (by decide)) (fun _ => sa_18_3) hv dX10_used_53 (fun H locs G => ?_)
    refine lv_iload_n hx hb dX10_used_54 rfl (lv_at hl 2 rfl) ?_
    refine lv_iload_n hx hb dX10_used_55 rfl (lv_at hl 2 rfl) ?_
    refine lv_iadd hx hb dX10_used_56 ?_
    exact q_iret E G (by unfold f_X10_used; simp only [if_pos h1, pr_eta]) dX10_used_57
  · refine lv_aload_n hx hb dX10_used_58 rfl (lv_at hl 0 rfl) ?_
    refine q_get (index := 19) (ref := "ToolRoomModel") E G inX10 17 0 c17 sg_17 rfl 4 (by decide) tb_425 (Or.inl rfl) rfl dX10_used_59 ?_
    refine lv_iload_n hx hb dX10_used_62 rfl (lv_at hl 1 rfl) ?_
    refine lv_dup2_11 hx hb dX10_used_63 rfl rfl ?_
    refine q_iald E G 18 4 (c18 4 (by decide)) sa_18_4 hv dX10_used_64 ?_
    rw [uI_nf (by decide)]
    refine lv_iload_n hx hb dX10_used_65 rfl (lv_at hl 2 rfl) ?_
    refine lv_isub hx hb dX10_used_66 ?_
    refine q_iast E G 18 4 (c18 4 (by decide)) (fun _ => sa_18_4) hv dX10_used_67 (fun H locs G => ?_)
    refine lv_iload_n hx hb dX10_used_68 rfl (lv_at hl 2 rfl) ?_
    refine lv_aload_n hx hb dX10_used_69 rfl (lv_at hl 0 rfl) ?_
    refine q_get (index := 16) (ref := "ToolRoomModel") E G inX10 17 0 c17 sg_17 rfl 3 (by decide) tb_424 (Or.inl rfl) rfl dX10_used_70 ?_
    refine lv_iload_n hx hb dX10_used_73 rfl (lv_at hl 1 rfl) ?_
    refine q_iald E G 18 3 (c18 3 (by decide)) sa_18_3 hv dX10_used_74 ?_
    rw [uI_ni (by decide), uI_nf (by decide)]
    refine lv_iadd hx hb dX10_used_75 ?_
    exact q_iret E G (by unfold f_X10_used; simp only [if_neg h1, if_pos h2, pr_eta]) dX10_used_76
  · refine lv_aload_n hx hb dX10_used_77 rfl (lv_at hl 0 rfl) ?_
    refine q_get (index := 19) (ref := "ToolRoomModel") E G inX10 17 0 c17 sg_17 rfl 4 (by decide) tb_425 (Or.inl rfl) rfl dX10_used_78 ?_
    refine lv_iload_n hx hb dX10_used_81 rfl (lv_at hl 1 rfl) ?_
    refine lv_aload_n hx hb dX10_used_82 rfl (lv_at hl 0 rfl) ?_
    refine q_get (index := 19) (ref := "ToolRoomModel") E G inX10 17 0 c17 sg_17 rfl 4 (by decide) tb_425 (Or.inl rfl) rfl dX10_used_83 ?_
    refine lv_iload_n hx hb dX10_used_86 rfl (lv_at hl 1 rfl) ?_
    refine q_iald E G 18 4 (c18 4 (by decide)) sa_18_4 hv dX10_used_87 ?_
    rw [uI_nf (by decide)]
    refine lv_iload_n hx hb dX10_used_88 rfl (lv_at hl 2 rfl) ?_
    refine lv_isub hx hb dX10_used_89 ?_
    refine lv_iconst (v := 1) hx hb dX10_used_90 (by decide) ?_
    refine lv_iadd hx hb dX10_used_91 ?_
    refine q_iast E G 18 4 (c18 4 (by decide)) (fun _ => sa_18_4) hv dX10_used_92 (fun H locs G => ?_)
    refine lv_iload_n hx hb dX10_used_93 rfl (lv_at hl 2 rfl) ?_
    refine lv_aload_n hx hb dX10_used_94 rfl (lv_at hl 0 rfl) ?_
    refine q_get (index := 16) (ref := "ToolRoomModel") E G inX10 17 0 c17 sg_17 rfl 3 (by decide) tb_424 (Or.inl rfl) rfl dX10_used_95 ?_
    refine lv_iload_n hx hb dX10_used_98 rfl (lv_at hl 1 rfl) ?_
    refine q_iald E G 18 3 (c18 3 (by decide)) sa_18_3 hv dX10_used_99 ?_
    rw [uI_ni (by decide), uI_nf (by decide)]
    refine lv_iadd hx hb dX10_used_100 ?_
    refine lv_iconst (v := 1) hx hb dX10_used_101 (by decide) ?_
    refine lv_iadd hx hb dX10_used_102 ?_
    exact q_iret E G (by unfold f_X10_used; simp only [if_neg h1, if_neg h2, if_pos h3, pr_eta]) dX10_used_103
  · refine lv_aload_n hx hb dX10_used_104 rfl (lv_at hl 0 rfl) ?_
    refine q_get (index := 16) (ref := "ToolRoomModel") E G inX10 17 0 c17 sg_17 rfl 3 (by decide) tb_424 (Or.inl rfl) rfl dX10_used_105 ?_
    refine lv_iload_n hx hb dX10_used_108 rfl (lv_at hl 1 rfl) ?_
    refine q_iald E G 18 3 (c18 3 (by decide)) sa_18_3 hv dX10_used_109 ?_
    rw [uI_nf (by decide)]
    refine lv_istore_n (lv' := [(3, .int (S.1 18 3 t.toNatClampNeg)), (0, .ref (ad 17 0)), (1, .int t), (2, .int x)]) hx hb dX10_used_110 rfl hl (by decide) rfl (fun ls hl => ?_)
    refine lv_aload_n hx hb dX10_used_111 rfl (lv_at hl 1 rfl) ?_
    refine q_get (index := 16) (ref := "ToolRoomModel") E G inX10 17 0 c17 sg_17 rfl 3 (by decide) tb_424 (Or.inl rfl) rfl dX10_used_112 ?_
    refine lv_iload_n hx hb dX10_used_115 rfl (lv_at hl 2 rfl) ?_
    refine lv_dup2_11 hx hb dX10_used_116 rfl rfl ?_
    refine q_iald E G 18 3 (c18 3 (by decide)) sa_18_3 hv dX10_used_117 ?_
    rw [uI_nf (by decide)]
    refine lv_iconst (v := 1) hx hb dX10_used_118 (by decide) ?_
    refine lv_iadd hx hb dX10_used_119 ?_
    refine q_iast E G 18 3 (c18 3 (by decide)) (fun _ => sa_18_3) hv dX10_used_120 (fun H locs G => ?_)
    refine lv_iload_n hx hb dX10_used_121 rfl (lv_at hl 0 rfl) ?_
    exact q_iret E G (by unfold f_X10_used; simp only [if_neg h1, if_neg h2, if_neg h3, pr_eta]) dX10_used_122

set_option maxHeartbeats 4000000 in
set_option maxRecDepth 100000 in
theorem k_X10_isThing (l : Launch) (D : va_G) (cy : Nat → ClassId) (sz : Nat) (ad : Nat → Nat → Nat) (n : Nat) (S : SS) (what : Int32) (k : Int32) : CI l yX10_isThing cX10_isThing 2 (some .boolean) 1 22 [.int what, .int k] D cy sz ad n S (pT what k, S) := by
  refine Met.enter (by decide) (Nat.le_of_ble_eq_true rfl) (fun p e s m args below meth c ls E G hl => ?_)
  have E : En p s m args meth c cX10_isThing 2 (some .boolean) RX10 D cy sz := E
  obtain ⟨hx, hb, hrt, hml, hown, hw, hlk, hK, hF, hsz⟩ := id E
  have hl : lv_has ls 2 [(0, .int what), (1, .int k)] := hl
  refine lv_iload_n hx hb dX10_isThing_0 rfl (lv_at hl 1 rfl) ?_
  refine lv_iconst (v := 0) hx hb dX10_isThing_1 (by decide) ?_
  refine lv_iload_n hx hb dX10_isThing_2 rfl (lv_at hl 0 rfl) ?_
  refine lv_iconst (v := 2) hx hb dX10_isThing_3 (by decide) ?_
  refine lv_icmp_ne (tgt := 11) hx hb dX10_isThing_4 (by decide) (fun h1 => ?_) (fun h1 => ?_)
  · refine lv_iconst (v := 3) hx hb dX10_isThing_11 (by decide) ?_
    by_cases h2 : wj k 0 3 = true
    · have v3 : vp_in k 4 := wj_in h2 (by decide) (by decide)
      refine q_cSp E G [] (k_X10_in_t l D cy sz ad n S k 0 3 h2) tb_489 tb_490 tb_6 tb_491 (nn := 3) (by decide +kernel) ⟨Nat.le_of_ble_eq_true rfl, Nat.le_of_ble_eq_true rfl⟩ rfl hl.1 rfl (Nat.le_of_ble_eq_true rfl) dX10_isThing_12 ⟨Nat.zero_le _, Nat.zero_le _⟩ (fun H locs G => ?_)
      exact q_zret E G rfl (by first | rfl | (unfold pT; simp only [if_neg h1, if_pos h2]; done) | (unfold pT; simp only [if_neg h1, if_pos h2]; rfl)) dX10_isThing_15
    · refine q_cSp E G [] (k_X10_in_f l D cy sz ad n S k 0 3 h2) tb_489 tb_490 tb_6 tb_491 (nn := 3) (by decide +kernel) ⟨Nat.le_of_ble_eq_true rfl, Nat.le_of_ble_eq_true rfl⟩ rfl hl.1 rfl (Nat.le_of_ble_eq_true rfl) dX10_isThing_12 ⟨Nat.zero_le _, Nat.zero_le _⟩ (fun H locs G => ?_)
      exact q_zret E G rfl (by first | rfl | (unfold pT; simp only [if_neg h1, if_neg h2]; done) | (unfold pT; simp only [if_neg h1, if_neg h2]; rfl)) dX10_isThing_15
  · refine lv_iconst (v := 1) hx hb dX10_isThing_7 (by decide) ?_
    refine lv_goto (tgt := 12) hx hb dX10_isThing_8 (by decide) ?_
    by_cases h4 : wj k 0 1 = true
    · have v5 : vp_in k 2 := wj_in h4 (by decide) (by decide)
      refine q_cSp E G [] (k_X10_in_t l D cy sz ad n S k 0 1 h4) tb_489 tb_490 tb_6 tb_491 (nn := 3) (by decide +kernel) ⟨Nat.le_of_ble_eq_true rfl, Nat.le_of_ble_eq_true rfl⟩ rfl hl.1 rfl (Nat.le_of_ble_eq_true rfl) dX10_isThing_12 ⟨Nat.zero_le _, Nat.zero_le _⟩ (fun H locs G => ?_)
      exact q_zret E G rfl (by first | rfl | (unfold pT; simp only [if_pos h1, if_pos h4]; done) | (unfold pT; simp only [if_pos h1, if_pos h4]; rfl)) dX10_isThing_15
    · refine q_cSp E G [] (k_X10_in_f l D cy sz ad n S k 0 1 h4) tb_489 tb_490 tb_6 tb_491 (nn := 3) (by decide +kernel) ⟨Nat.le_of_ble_eq_true rfl, Nat.le_of_ble_eq_true rfl⟩ rfl hl.1 rfl (Nat.le_of_ble_eq_true rfl) dX10_isThing_12 ⟨Nat.zero_le _, Nat.zero_le _⟩ (fun H locs G => ?_)
      exact q_zret E G rfl (by first | rfl | (unfold pT; simp only [if_pos h1, if_neg h4]; done) | (unfold pT; simp only [if_pos h1, if_neg h4]; rfl)) dX10_isThing_15

set_option maxHeartbeats 4000000 in
set_option maxRecDepth 100000 in
theorem k_X10_sizeOf (l : Launch) (D : va_G) (cy : Nat → ClassId) (sz : Nat) (ad : Nat → Nat → Nat) (n : Nat) (S : SS) (what : Int32) (k : Int32) (hk : vp_in k 4) (hk2 : ¬ what = 0 → ¬ what = 1 → vp_in k 2) : CI l yX10_sizeOf cX10_sizeOf 3 (some .int) 0 0 [.ref (ad 17 0), .int what, .int k] D cy sz ad n S (pZ S what k, S) := by
  refine Met.enter (by decide) (Nat.le_of_ble_eq_true rfl) (fun p e s m args below meth c ls E G hl => ?_)
  have E : En p s m args meth c cX10_sizeOf 3 (some .int) RX10 D cy sz := E
  obtain ⟨hx, hb, hrt, hml, hown, hw, hlk, hK, hF, hsz⟩ := id E
  have hl : lv_has ls 3 [(0, .ref (ad 17 0)), (1, .int what), (2, .int k)] := hl
  refine lv_iload_n hx hb dX10_sizeOf_0 rfl (lv_at hl 1 rfl) ?_
  refine lv_if_ne (tgt := 13) hx hb dX10_sizeOf_1 (by decide) (fun h1 => ?_) (fun h1 => ?_)
  · refine lv_iload_n hx hb dX10_sizeOf_13 rfl (lv_at hl 1 rfl) ?_
    refine lv_iconst (v := 1) hx hb dX10_sizeOf_14 (by decide) ?_
    refine lv_icmp_ne (tgt := 27) hx hb dX10_sizeOf_15 (by decide) (fun h2 => ?_) (fun h2 => ?_)
    · refine lv_aload_n hx hb dX10_sizeOf_27 rfl (lv_at hl 0 rfl) ?_
      refine q_get (index := 44) (ref := "ToolRoomModel") E G inX10 17 0 c17 sg_17 rfl 12 (by decide) tb_433 (Or.inl rfl) rfl dX10_sizeOf_28 ?_
      refine lv_iload_n hx hb dX10_sizeOf_31 rfl (lv_at hl 2 rfl) ?_
      refine q_iald E G 18 12 (c18 12 (by decide)) sa_18_12 (hk2 h1 h2) dX10_sizeOf_32 ?_
      exact q_iret E G (by first | rfl | (unfold pZ; simp only [if_neg h1, if_neg h2]; done) | (unfold pZ; simp only [if_neg h1, if_neg h2]; rfl)) dX10_sizeOf_33
    · refine lv_aload_n hx hb dX10_sizeOf_18 rfl (lv_at hl 0 rfl) ?_
      refine q_get (index := 35) (ref := "ToolRoomModel") E G inX10 17 0 c17 sg_17 rfl 9 (by decide) tb_430 (Or.inl rfl) rfl dX10_sizeOf_19 ?_
      refine lv_iload_n hx hb dX10_sizeOf_22 rfl (lv_at hl 2 rfl) ?_
      refine q_iald E G 18 9 (c18 9 (by decide)) sa_18_9 hk dX10_sizeOf_23 ?_
      refine lv_goto (tgt := 33) hx hb dX10_sizeOf_24 (by decide) ?_
      exact q_iret E G (by first | rfl | (unfold pZ; simp only [if_neg h1, if_pos h2]; done) | (unfold pZ; simp only [if_neg h1, if_pos h2]; rfl)) dX10_sizeOf_33
  · refine lv_aload_n hx hb dX10_sizeOf_4 rfl (lv_at hl 0 rfl) ?_
    refine q_get (index := 29) (ref := "ToolRoomModel") E G inX10 17 0 c17 sg_17 rfl 7 (by decide) tb_428 (Or.inl rfl) rfl dX10_sizeOf_5 ?_
    refine lv_iload_n hx hb dX10_sizeOf_8 rfl (lv_at hl 2 rfl) ?_
    refine q_iald E G 18 7 (c18 7 (by decide)) sa_18_7 hk dX10_sizeOf_9 ?_
    refine lv_goto (tgt := 33) hx hb dX10_sizeOf_10 (by decide) ?_
    exact q_iret E G (by first | rfl | (unfold pZ; simp only [if_pos h1]; done) | (unfold pZ; simp only [if_pos h1]; rfl)) dX10_sizeOf_33

set_option maxHeartbeats 4000000 in
set_option maxRecDepth 100000 in
theorem k_X10_lacks (l : Launch) (D : va_G) (cy : Nat → ClassId) (sz : Nat) (ad : Nat → Nat → Nat) (n : Nat) (S : SS) (s9 : Int32) (i : Int32) : CI l yX10_lacks cX10_lacks 2 (some .int) 1 22 [.int s9, .int i] D cy sz ad n S (pL s9 i, S) := by
  refine Met.enter (by decide) (Nat.le_of_ble_eq_true rfl) (fun p e s m args below meth c ls E G hl => ?_)
  have E : En p s m args meth c cX10_lacks 2 (some .int) RX10 D cy sz := E
  obtain ⟨hx, hb, hrt, hml, hown, hw, hlk, hK, hF, hsz⟩ := id E
  have hl : lv_has ls 2 [(0, .int s9), (1, .int i)] := hl
  refine lv_iload_n hx hb dX10_lacks_0 rfl (lv_at hl 0 rfl) ?_
  refine lv_if_ge (tgt := 8) hx hb dX10_lacks_1 (by decide) (fun h1 => ?_) (fun h1 => ?_)
  · refine lv_iload_n hx hb dX10_lacks_8 rfl (lv_at hl 1 rfl) ?_
    refine lv_iconst (v := 0) hx hb dX10_lacks_9 (by decide) ?_
    refine lv_iload_n hx hb dX10_lacks_10 rfl (lv_at hl 0 rfl) ?_
    refine lv_iconst (v := 1) hx hb dX10_lacks_11 (by decide) ?_
    refine lv_isub hx hb dX10_lacks_12 ?_
    by_cases h2 : wj i 0 (s9 - 1) = true
    · refine q_cSp E G [] (k_X10_in_t l D cy sz ad n S i 0 (s9 - 1) h2) tb_489 tb_490 tb_6 tb_491 (nn := 3) (by decide +kernel) ⟨Nat.le_of_ble_eq_true rfl, Nat.le_of_ble_eq_true rfl⟩ rfl hl.1 rfl (Nat.le_of_ble_eq_true rfl) dX10_lacks_13 ⟨Nat.zero_le _, Nat.zero_le _⟩ (fun H locs G => ?_)
      refine lv_if_eq (tgt := 23) hx hb dX10_lacks_16 (by decide) (fun h => absurd h (by decide)) (fun _ => ?_)
      refine lv_iconst (v := 0) hx hb dX10_lacks_19 (by decide) ?_
      refine lv_goto (tgt := 24) hx hb dX10_lacks_20 (by decide) ?_
      exact q_iret E G (by first | rfl | (unfold pL; simp only [if_pos h1, if_pos h2]; done) | (unfold pL; simp only [if_pos h1, if_pos h2]; rfl)) dX10_lacks_24
    · refine q_cSp E G [] (k_X10_in_f l D cy sz ad n S i 0 (s9 - 1) h2) tb_489 tb_490 tb_6 tb_491 (nn := 3) (by decide +kernel) ⟨Nat.le_of_ble_eq_true rfl, Nat.le_of_ble_eq_true rfl⟩ rfl hl.1 rfl (Nat.le_of_ble_eq_true rfl) dX10_lacks_13 ⟨Nat.zero_le _, Nat.zero_le _⟩ (fun H locs G => ?_)
      refine lv_if_eq (tgt := 23) hx hb dX10_lacks_16 (by decide) (fun _ => ?_) (fun h => absurd h (by decide))
      refine lv_iconst (v := 2) hx hb dX10_lacks_23 (by decide) ?_
      exact q_iret E G (by first | rfl | (unfold pL; simp only [if_pos h1, if_neg h2]; done) | (unfold pL; simp only [if_pos h1, if_neg h2]; rfl)) dX10_lacks_24
  · refine lv_iconst (v := 1) hx hb dX10_lacks_4 (by decide) ?_
    refine lv_goto (tgt := 24) hx hb dX10_lacks_5 (by decide) ?_
    exact q_iret E G (by first | rfl | (unfold pL; simp only [if_neg h1]; done) | (unfold pL; simp only [if_neg h1]; rfl)) dX10_lacks_24

set_option maxHeartbeats 4000000 in
set_option maxRecDepth 100000 in
theorem k_X10_lacksCell (l : Launch) (D : va_G) (cy : Nat → ClassId) (sz : Nat) (ad : Nat → Nat → Nat) (n : Nat) (S : SS) (ok : okM S) (g9 : Int32) (i : Int32) (j : Int32) (hv : vp_in g9 2) : CI l yX10_lacksCell cX10_lacksCell 5 (some .int) 2 43 [.ref (ad 17 0), .int g9, .int i, .int j] D cy sz ad n S (pD S g9 i j, S) := by
  refine Met.enter (by decide) (Nat.le_of_ble_eq_true rfl) (fun p e s m args below meth c ls E G hl => ?_)
  have E : En p s m args meth c cX10_lacksCell 5 (some .int) RX10 D cy sz := E
  obtain ⟨hx, hb, hrt, hml, hown, hw, hlk, hK, hF, hsz⟩ := id E
  have hl : lv_has ls 5 [(0, .ref (ad 17 0)), (1, .int g9), (2, .int i), (3, .int j)] := hl
  refine lv_aload_n hx hb dX10_lacksCell_0 rfl (lv_at hl 0 rfl) ?_
  refine q_get (index := 44) (ref := "ToolRoomModel") E G inX10 17 0 c17 sg_17 rfl 12 (by decide) tb_433 (Or.inl rfl) rfl dX10_lacksCell_1 ?_
  refine lv_iload_n hx hb dX10_lacksCell_4 rfl (lv_at hl 1 rfl) ?_
  refine q_iald E G 18 12 (c18 12 (by decide)) sa_18_12 hv dX10_lacksCell_5 ?_
  refine lv_iload_n hx hb dX10_lacksCell_6 rfl (lv_at hl 2 rfl) ?_
  refine q_cSp E G [] (k_X10_lacks l D cy sz ad n S (S.1 18 12 g9.toNatClampNeg) i) tb_574 tb_575 tb_6 tb_576 (nn := 2) (by decide +kernel) ⟨Nat.le_of_ble_eq_true rfl, Nat.le_of_ble_eq_true rfl⟩ rfl hl.1 rfl (Nat.le_of_ble_eq_true rfl) dX10_lacksCell_7 ⟨Nat.zero_le _, Nat.zero_le _⟩ (fun H locs G => ?_)
  refine lv_istore (lv' := [(4, .int (pL (S.1 18 12 g9.toNatClampNeg) i)), (0, .ref (ad 17 0)), (1, .int g9), (2, .int i), (3, .int j)]) hx hb dX10_lacksCell_10 hl (by decide) rfl (fun ls hl => ?_)
  refine lv_iload hx hb dX10_lacksCell_12 (lv_at hl 0 rfl) ?_
  refine lv_if_eq (tgt := 22) hx hb dX10_lacksCell_14 (by decide) (fun h1 => ?_) (fun h1 => ?_)
  · have vi : vp_in i 8 := pL_0 h1 (ok.2.2.2.2.2.1 _ (vp_lt hv)) (by decide)
    refine lv_aload_n hx hb dX10_lacksCell_22 rfl (lv_at hl 1 rfl) ?_
    refine q_get (index := 47) (ref := "ToolRoomModel") E G inX10 17 0 c17 sg_17 rfl 13 (by decide) tb_434 (Or.inl rfl) rfl dX10_lacksCell_23 ?_
    refine lv_bipush (v := 8) hx hb dX10_lacksCell_26 (by decide) ?_
    refine lv_iload_n hx hb dX10_lacksCell_28 rfl (lv_at hl 2 rfl) ?_
    refine lv_imul hx hb dX10_lacksCell_29 ?_
    refine lv_iload_n hx hb dX10_lacksCell_30 rfl (lv_at hl 3 rfl) ?_
    refine lv_iadd hx hb dX10_lacksCell_31 ?_
    refine q_iald E G 18 13 (c18 13 (by decide)) sa_18_13 (ixv hv vi 8 rfl (by decide) (by decide) (by decide) (by decide) (by decide)) dX10_lacksCell_32 ?_
    refine lv_iload_n hx hb dX10_lacksCell_33 rfl (lv_at hl 4 rfl) ?_
    refine q_cSp E G [] (k_X10_lacks l D cy sz ad n S (S.1 18 13 ((8 * g9) + i).toNatClampNeg) j) tb_574 tb_575 tb_6 tb_576 (nn := 2) (by decide +kernel) ⟨Nat.le_of_ble_eq_true rfl, Nat.le_of_ble_eq_true rfl⟩ rfl hl.1 rfl (Nat.le_of_ble_eq_true rfl) dX10_lacksCell_34 ⟨Nat.zero_le _, Nat.zero_le _⟩ (fun H locs G => ?_)
    exact q_iret E G (by first | rfl | (unfold pD; simp only [if_pos h1]; done) | (unfold pD; simp only [if_pos h1]; rfl)) dX10_lacksCell_37
  · refine lv_iload hx hb dX10_lacksCell_17 (lv_at hl 0 rfl) ?_
    refine lv_goto (tgt := 37) hx hb dX10_lacksCell_19 (by decide) ?_
    exact q_iret E G (by first | rfl | (unfold pD; simp only [if_neg h1]; done) | (unfold pD; simp only [if_neg h1]; rfl)) dX10_lacksCell_37

set_option maxHeartbeats 4000000 in
set_option maxRecDepth 100000 in
theorem k_X10_isOf (l : Launch) (D : va_G) (cy : Nat → ClassId) (sz : Nat) (ad : Nat → Nat → Nat) (n : Nat) (S : SS) (t : Int32) (sort : Int32) (hv : t = -1 ∨ vp_in t 600) : CI l yX10_isOf cX10_isOf 3 (some .boolean) 1 20 [.ref (ad 17 0), .int t, .int sort] D cy sz ad n S (pO S t sort, S) := by
  refine Met.enter (by decide) (Nat.le_of_ble_eq_true rfl) (fun p e s m args below meth c ls E G hl => ?_)
  have E : En p s m args meth c cX10_isOf 3 (some .boolean) RX10 D cy sz := E
  obtain ⟨hx, hb, hrt, hml, hown, hw, hlk, hK, hF, hsz⟩ := id E
  have hl : lv_has ls 3 [(0, .ref (ad 17 0)), (1, .int t), (2, .int sort)] := hl
  refine lv_iload_n hx hb dX10_isOf_0 rfl (lv_at hl 1 rfl) ?_
  refine lv_iconst (v := (-1)) hx hb dX10_isOf_1 (by decide) ?_
  refine lv_icmp_eq (tgt := 39) hx hb dX10_isOf_2 (by decide) (fun h1 => ?_) (fun h1 => ?_)
  · refine lv_iconst (v := 1) hx hb dX10_isOf_39 (by decide) ?_
    refine lv_goto (tgt := 44) hx hb dX10_isOf_40 (by decide) ?_
    exact q_zret E G rfl (by unfold pO; first | (simp [h1]; done) | (simp [h1]; exact ((pB_01 _).resolve_left (by assumption)).symm)) dX10_isOf_44
  · have vt : vp_in t 600 := hv.resolve_left h1
    refine lv_iload_n hx hb dX10_isOf_5 rfl (lv_at hl 2 rfl) ?_
    refine lv_if_eq (tgt := 39) hx hb dX10_isOf_6 (by decide) (fun h2 => ?_) (fun h2 => ?_)
    · refine lv_iconst (v := 1) hx hb dX10_isOf_39 (by decide) ?_
      refine lv_goto (tgt := 44) hx hb dX10_isOf_40 (by decide) ?_
      exact q_zret E G rfl (by unfold pO; first | (simp [h1, h2]; done) | (simp [h1, h2]; exact ((pB_01 _).resolve_left (by assumption)).symm)) dX10_isOf_44
    · refine lv_iload_n hx hb dX10_isOf_9 rfl (lv_at hl 2 rfl) ?_
      refine lv_iconst (v := 1) hx hb dX10_isOf_10 (by decide) ?_
      refine lv_icmp_ne (tgt := 29) hx hb dX10_isOf_11 (by decide) (fun h3 => ?_) (fun h3 => ?_)
      · refine lv_aload_n hx hb dX10_isOf_29 rfl (lv_at hl 0 rfl) ?_
        refine q_get (index := 13) (ref := "ToolRoomModel") E G inX10 17 0 c17 sg_17 rfl 2 (by decide) tb_423 (Or.inl rfl) rfl dX10_isOf_30 ?_
        refine lv_iload_n hx hb dX10_isOf_33 rfl (lv_at hl 1 rfl) ?_
        refine q_iald E G 18 2 (c18 2 (by decide)) sa_18_2 vt dX10_isOf_34 ?_
        refine lv_iconst (v := 3) hx hb dX10_isOf_35 (by decide) ?_
        refine lv_icmp_ne (tgt := 43) hx hb dX10_isOf_36 (by decide) (fun h4 => ?_) (fun h4 => ?_)
        · refine lv_iconst (v := 0) hx hb dX10_isOf_43 (by decide) ?_
          exact q_zret E G rfl (by unfold pO; first | (simp [h1, h2, h3, h4]; done) | (simp [h1, h2, h3, h4]; exact ((pB_01 _).resolve_left (by assumption)).symm)) dX10_isOf_44
        · refine lv_iconst (v := 1) hx hb dX10_isOf_39 (by decide) ?_
          refine lv_goto (tgt := 44) hx hb dX10_isOf_40 (by decide) ?_
          exact q_zret E G rfl (by unfold pO; first | (simp [h1, h2, h3, h4]; done) | (simp [h1, h2, h3, h4]; exact ((pB_01 _).resolve_left (by assumption)).symm)) dX10_isOf_44
      · refine lv_aload_n hx hb dX10_isOf_14 rfl (lv_at hl 0 rfl) ?_
        refine q_get (index := 13) (ref := "ToolRoomModel") E G inX10 17 0 c17 sg_17 rfl 2 (by decide) tb_423 (Or.inl rfl) rfl dX10_isOf_15 ?_
        refine lv_iload_n hx hb dX10_isOf_18 rfl (lv_at hl 1 rfl) ?_
        refine q_iald E G 18 2 (c18 2 (by decide)) sa_18_2 vt dX10_isOf_19 ?_
        refine q_cSp E G [] (k_X10_isBlade l D cy sz ad n S (S.1 18 2 t.toNatClampNeg)) tb_532 tb_533 tb_6 tb_534 (nn := 1) (by decide +kernel) ⟨Nat.le_of_ble_eq_true rfl, Nat.le_of_ble_eq_true rfl⟩ rfl hl.1 rfl (Nat.le_of_ble_eq_true rfl) dX10_isOf_20 ⟨Nat.zero_le _, Nat.zero_le _⟩ (fun H locs G => ?_)
        refine lv_if_eq (tgt := 43) hx hb dX10_isOf_23 (by decide) (fun h5 => ?_) (fun h5 => ?_)
        · refine lv_iconst (v := 0) hx hb dX10_isOf_43 (by decide) ?_
          exact q_zret E G rfl (by unfold pO; first | (simp [h1, h2, h3, h5]; done) | (simp [h1, h2, h3, h5]; exact ((pB_01 _).resolve_left (by assumption)).symm)) dX10_isOf_44
        · refine lv_goto (tgt := 39) hx hb dX10_isOf_26 (by decide) ?_
          refine lv_iconst (v := 1) hx hb dX10_isOf_39 (by decide) ?_
          refine lv_goto (tgt := 44) hx hb dX10_isOf_40 (by decide) ?_
          exact q_zret E G rfl (by unfold pO; first | (simp [h1, h2, h3, h5]; done) | (simp [h1, h2, h3, h5]; exact ((pB_01 _).resolve_left (by assumption)).symm)) dX10_isOf_44
end
section
theorem okM_w {S : SS} (ok : okM S) {v : Int32} : okM (uI S 17 0 17 v) := by
  obtain ⟨a, b, c, d, e, f, g⟩ := ok
  refine ⟨fun j h => ?_, fun j h => ?_, ?_, fun j h => ?_, fun j h => ?_, fun j h => ?_, fun j h => ?_⟩
  · rw [uI_nf (by decide)]; exact a j h
  · rw [uI_nf (by decide)]; exact b j h
  · rw [uI_nk (by decide)]; exact c
  · rw [uI_nf (by decide)]; exact d j h
  · rw [uI_nf (by decide)]; exact e j h
  · rw [uI_nf (by decide)]; exact f j h
  · rw [uI_nf (by decide)]; exact g j h

def f_X10_tool (S : SS) (x1 : Int32) (x2 : Int32) : Int32 × SS := if wj x1 0 9 = true then (if wj x2 0 3 = true then (if (S.1 18 0 x1.toNatClampNeg) = (-1) then (f_X10_says (uI (uI (uI (uI (uI (uI S 18 2 (S.1 17 0 1).toNatClampNeg x2) 18 3 (S.1 17 0 1).toNatClampNeg 0) 18 4 (S.1 17 0 1).toNatClampNeg 100) 18 5 (S.1 17 0 1).toNatClampNeg 0) 18 0 x1.toNatClampNeg (S.1 17 0 1)) 17 0 1 ((S.1 17 0 1) + 1)) 0) else (f_X10_says (uI (uI (uI (uI (uI (uI S 18 2 (S.1 17 0 1).toNatClampNeg x2) 18 3 (S.1 17 0 1).toNatClampNeg 0) 18 4 (S.1 17 0 1).toNatClampNeg 100) 18 5 (S.1 17 0 1).toNatClampNeg 0) 18 0 x1.toNatClampNeg (S.1 17 0 1)) 17 0 1 ((S.1 17 0 1) + 1)) 1)) else (f_X10_refuses S (-3))) else (f_X10_refuses S (-2))
set_option maxHeartbeats 4000000 in
set_option maxRecDepth 100000 in
theorem k_X10_tool (l : Launch) (D : va_G) (cy : Nat → ClassId) (sz : Nat) (ad : Nat → Nat → Nat) (n : Nat) (S : SS) (ok : okM S) (x1 : Int32) (x2 : Int32) : CI l yX10_tool cX10_tool 4 (some .int) 1 22 [.ref (ad 17 0), .int x1, .int x2] D cy sz ad n S (f_X10_tool S x1 x2) := by
  refine Met.enter (by decide) (Nat.le_of_ble_eq_true rfl) (fun p e s m args below meth c ls E G hl => ?_)
  have E : En p s m args meth c cX10_tool 4 (some .int) RX10 D cy sz := E
  obtain ⟨hx, hb, hrt, hml, hown, hw, hlk, hK, hF, hsz⟩ := id E
  have hl : lv_has ls 4 [(0, .ref (ad 17 0)), (1, .int x1), (2, .int x2)] := hl
  refine lv_iload_n hx hb dX10_tool_0 rfl (lv_at hl 1 rfl) ?_
  refine lv_iconst (v := 0) hx hb dX10_tool_1 (by decide) ?_
  refine lv_bipush (v := 9) hx hb dX10_tool_2 (by decide) ?_
  by_cases h1 : wj x1 0 9 = true
  · have v2 : vp_in x1 10 := wj_in h1 (by decide) (by decide)
    refine q_cSp E G [] (k_X10_in_t l D cy sz ad n S x1 0 9 h1) tb_489 tb_490 tb_6 tb_491 (nn := 3) (by decide +kernel) ⟨Nat.le_of_ble_eq_true rfl, Nat.le_of_ble_eq_true rfl⟩ rfl hl.1 rfl (Nat.le_of_ble_eq_true rfl) dX10_tool_4 ⟨Nat.zero_le _, Nat.zero_le _⟩ (fun H locs G => ?_)
    refine lv_if_ne (tgt := 17) hx hb dX10_tool_7 (by decide) (fun _ => ?_) (fun h => absurd h (by decide))
    refine lv_iload_n hx hb dX10_tool_17 rfl (lv_at hl 2 rfl) ?_
    refine lv_iconst (v := 0) hx hb dX10_tool_18 (by decide) ?_
    refine lv_iconst (v := 3) hx hb dX10_tool_19 (by decide) ?_
    by_cases h3 : wj x2 0 3 = true
    · have v4 : vp_in x2 4 := wj_in h3 (by decide) (by decide)
      refine q_cSp E G [] (k_X10_in_t l D cy sz ad n S x2 0 3 h3) tb_489 tb_490 tb_6 tb_491 (nn := 3) (by decide +kernel) ⟨Nat.le_of_ble_eq_true rfl, Nat.le_of_ble_eq_true rfl⟩ rfl hl.1 rfl (Nat.le_of_ble_eq_true rfl) dX10_tool_20 ⟨Nat.zero_le _, Nat.zero_le _⟩ (fun H locs G => ?_)
      refine lv_if_ne (tgt := 33) hx hb dX10_tool_23 (by decide) (fun _ => ?_) (fun h => absurd h (by decide))
      refine lv_aload_n hx hb dX10_tool_33 rfl (lv_at hl 0 rfl) ?_
      refine q_get (index := 7) (ref := "ToolRoomModel") E G inX10 17 0 c17 sg_17 rfl 0 (by decide) tb_421 (Or.inl rfl) rfl dX10_tool_34 ?_
      refine lv_iload_n hx hb dX10_tool_37 rfl (lv_at hl 1 rfl) ?_
      refine q_iald E G 18 0 (c18 0 (by decide)) sa_18_0 v2 dX10_tool_38 ?_
      refine lv_iconst (v := (-1)) hx hb dX10_tool_39 (by decide) ?_
      refine lv_icmp_ne (tgt := 47) hx hb dX10_tool_40 (by decide) (fun h5 => ?_) (fun h5 => ?_)
      · have v6 : vp_in (S.1 18 0 x1.toNatClampNeg) 600 := (ok.1 _ (vp_lt v2)).resolve_left h5
        refine lv_iconst (v := 1) hx hb dX10_tool_47 (by decide) ?_
        refine lv_istore_n (lv' := [(3, .int 1), (0, .ref (ad 17 0)), (1, .int x1), (2, .int x2)]) hx hb dX10_tool_48 rfl hl (by decide) rfl (fun ls hl => ?_)
        refine lv_aload_n hx hb dX10_tool_49 rfl (lv_at hl 1 rfl) ?_
        refine q_get (index := 13) (ref := "ToolRoomModel") E G inX10 17 0 c17 sg_17 rfl 2 (by decide) tb_423 (Or.inl rfl) rfl dX10_tool_50 ?_
        refine lv_aload_n hx hb dX10_tool_53 rfl (lv_at hl 1 rfl) ?_
        refine q_get (index := 77) (ref := "ToolRoomModel") E G inX10 17 0 c17 sg_17 rfl 1 (by decide) tb_422 (Or.inl rfl) rfl dX10_tool_54 ?_
        refine lv_iload_n hx hb dX10_tool_57 rfl (lv_at hl 3 rfl) ?_
        refine q_iast E G 18 2 (c18 2 (by decide)) (fun _ => sa_18_2) ok.2.2.1 dX10_tool_58 (fun H locs G => ?_)
        refine lv_aload_n hx hb dX10_tool_59 rfl (lv_at hl 1 rfl) ?_
        refine q_get (index := 16) (ref := "ToolRoomModel") E G inX10 17 0 c17 sg_17 rfl 3 (by decide) tb_424 (Or.inl rfl) rfl dX10_tool_60 ?_
        refine lv_aload_n hx hb dX10_tool_63 rfl (lv_at hl 1 rfl) ?_
        refine q_get (index := 77) (ref := "ToolRoomModel") E G inX10 17 0 c17 sg_17 rfl 1 (by decide) tb_422 (Or.inl rfl) rfl dX10_tool_64 ?_
        rw [uI_nf (by decide)]
        refine lv_iconst (v := 0) hx hb dX10_tool_67 (by decide) ?_
        refine q_iast E G 18 3 (c18 3 (by decide)) (fun _ => sa_18_3) ok.2.2.1 dX10_tool_68 (fun H locs G => ?_)
        refine lv_aload_n hx hb dX10_tool_69 rfl (lv_at hl 1 rfl) ?_
        refine q_get (index := 19) (ref := "ToolRoomModel") E G inX10 17 0 c17 sg_17 rfl 4 (by decide) tb_425 (Or.inl rfl) rfl dX10_tool_70 ?_
        refine lv_aload_n hx hb dX10_tool_73 rfl (lv_at hl 1 rfl) ?_
        refine q_get (index := 77) (ref := "ToolRoomModel") E G inX10 17 0 c17 sg_17 rfl 1 (by decide) tb_422 (Or.inl rfl) rfl dX10_tool_74 ?_
        rw [uI_nf (by decide), uI_nf (by decide)]
        refine lv_bipush (v := 100) hx hb dX10_tool_77 (by decide) ?_
        refine q_iast E G 18 4 (c18 4 (by decide)) (fun _ => sa_18_4) ok.2.2.1 dX10_tool_79 (fun H locs G => ?_)
        refine lv_aload_n hx hb dX10_tool_80 rfl (lv_at hl 1 rfl) ?_
        refine q_get (index := 22) (ref := "ToolRoomModel") E G inX10 17 0 c17 sg_17 rfl 5 (by decide) tb_426 (Or.inl rfl) rfl dX10_tool_81 ?_
        refine lv_aload_n hx hb dX10_tool_84 rfl (lv_at hl 1 rfl) ?_
        refine q_get (index := 77) (ref := "ToolRoomModel") E G inX10 17 0 c17 sg_17 rfl 1 (by decide) tb_422 (Or.inl rfl) rfl dX10_tool_85 ?_
        rw [uI_nf (by decide), uI_nf (by decide), uI_nf (by decide)]
        refine lv_iconst (v := 0) hx hb dX10_tool_88 (by decide) ?_
        refine q_zast E G 18 5 (c18 5 (by decide)) (fun _ => sa_18_5) ok.2.2.1 (by decide) dX10_tool_89 (fun H locs G => ?_)
        refine lv_aload_n hx hb dX10_tool_90 rfl (lv_at hl 1 rfl) ?_
        refine q_get (index := 7) (ref := "ToolRoomModel") E G inX10 17 0 c17 sg_17 rfl 0 (by decide) tb_421 (Or.inl rfl) rfl dX10_tool_91 ?_
        refine lv_iload_n hx hb dX10_tool_94 rfl (lv_at hl 2 rfl) ?_
        refine lv_aload_n hx hb dX10_tool_95 rfl (lv_at hl 1 rfl) ?_
        refine q_get (index := 77) (ref := "ToolRoomModel") E G inX10 17 0 c17 sg_17 rfl 1 (by decide) tb_422 (Or.inl rfl) rfl dX10_tool_96 ?_
        rw [uI_nf (by decide), uI_nf (by decide), uI_nf (by decide), uI_nf (by decide)]
        refine q_iast E G 18 0 (c18 0 (by decide)) (fun _ => sa_18_0) v2 dX10_tool_99 (fun H locs G => ?_)
        refine lv_aload_n hx hb dX10_tool_100 rfl (lv_at hl 1 rfl) ?_
        refine lv_dup hx hb dX10_tool_101 rfl ?_
        refine q_get (index := 77) (ref := "ToolRoomModel") E G inX10 17 0 c17 sg_17 rfl 1 (by decide) tb_422 (Or.inl rfl) rfl dX10_tool_102 ?_
        rw [uI_nf (by decide), uI_nf (by decide), uI_nf (by decide), uI_nf (by decide), uI_nf (by decide)]
        refine lv_iconst (v := 1) hx hb dX10_tool_105 (by decide) ?_
        refine lv_iadd hx hb dX10_tool_106 ?_
        refine q_put (index := 77) (ref := "ToolRoomModel") E G inX10 tyX10 tyX10_ok nmX10 17 0 c17 1 sg_17 rfl 1 (by decide) tb_422 (Or.inl rfl) rfl (ty := .int) (by decide +kernel) rfl rfl (Nat.le_of_ble_eq_true rfl) sp_17_1 dX10_tool_107 (fun H locs G => ?_)
        refine lv_aload_n hx hb dX10_tool_110 rfl (lv_at hl 1 rfl) ?_
        refine lv_iload_n hx hb dX10_tool_111 rfl (lv_at hl 0 rfl) ?_
        refine q_cV (rest := []) E G 17 0 c17 sg_17 (C := RX10) (T := TX10) (N := 21) rfl (k_X10_says l D cy sz ad n (uI (uI (uI (uI (uI (uI S 18 2 (S.1 17 0 1).toNatClampNeg x2) 18 3 (S.1 17 0 1).toNatClampNeg 0) 18 4 (S.1 17 0 1).toNatClampNeg 100) 18 5 (S.1 17 0 1).toNatClampNeg 0) 18 0 x1.toNatClampNeg (S.1 17 0 1)) 17 0 1 ((S.1 17 0 1) + 1)) 1) tb_496 tb_498 tp_9 tb_6 tb_499 (nn := 1) (by decide +kernel) ⟨Nat.le_of_ble_eq_true rfl, Nat.le_of_ble_eq_true rfl⟩ rfl hl.1 rfl (Nat.le_of_ble_eq_true rfl) dX10_tool_112 ⟨Nat.zero_le _, Nat.zero_le _⟩ (fun H locs G => ?_)
        exact q_iret E G (by unfold f_X10_tool; simp only [if_pos h1, if_pos h3, if_neg h5, pr_eta]) dX10_tool_115
      · refine lv_iconst (v := 0) hx hb dX10_tool_43 (by decide) ?_
        refine lv_goto (tgt := 48) hx hb dX10_tool_44 (by decide) ?_
        refine lv_istore_n (lv' := [(3, .int 0), (0, .ref (ad 17 0)), (1, .int x1), (2, .int x2)]) hx hb dX10_tool_48 rfl hl (by decide) rfl (fun ls hl => ?_)
        refine lv_aload_n hx hb dX10_tool_49 rfl (lv_at hl 1 rfl) ?_
        refine q_get (index := 13) (ref := "ToolRoomModel") E G inX10 17 0 c17 sg_17 rfl 2 (by decide) tb_423 (Or.inl rfl) rfl dX10_tool_50 ?_
        refine lv_aload_n hx hb dX10_tool_53 rfl (lv_at hl 1 rfl) ?_
        refine q_get (index := 77) (ref := "ToolRoomModel") E G inX10 17 0 c17 sg_17 rfl 1 (by decide) tb_422 (Or.inl rfl) rfl dX10_tool_54 ?_
        refine lv_iload_n hx hb dX10_tool_57 rfl (lv_at hl 3 rfl) ?_
        refine q_iast E G 18 2 (c18 2 (by decide)) (fun _ => sa_18_2) ok.2.2.1 dX10_tool_58 (fun H locs G => ?_)
        refine lv_aload_n hx hb dX10_tool_59 rfl (lv_at hl 1 rfl) ?_
        refine q_get (index := 16) (ref := "ToolRoomModel") E G inX10 17 0 c17 sg_17 rfl 3 (by decide) tb_424 (Or.inl rfl) rfl dX10_tool_60 ?_
        refine lv_aload_n hx hb dX10_tool_63 rfl (lv_at hl 1 rfl) ?_
        refine q_get (index := 77) (ref := "ToolRoomModel") E G inX10 17 0 c17 sg_17 rfl 1 (by decide) tb_422 (Or.inl rfl) rfl dX10_tool_64 ?_
        rw [uI_nf (by decide)]
        refine lv_iconst (v := 0) hx hb dX10_tool_67 (by decide) ?_
        refine q_iast E G 18 3 (c18 3 (by decide)) (fun _ => sa_18_3) ok.2.2.1 dX10_tool_68 (fun H locs G => ?_)
        refine lv_aload_n hx hb dX10_tool_69 rfl (lv_at hl 1 rfl) ?_
        refine q_get (index := 19) (ref := "ToolRoomModel") E G inX10 17 0 c17 sg_17 rfl 4 (by decide) tb_425 (Or.inl rfl) rfl dX10_tool_70 ?_
        refine lv_aload_n hx hb dX10_tool_73 rfl (lv_at hl 1 rfl) ?_
        refine q_get (index := 77) (ref := "ToolRoomModel") E G inX10 17 0 c17 sg_17 rfl 1 (by decide) tb_422 (Or.inl rfl) rfl dX10_tool_74 ?_
        rw [uI_nf (by decide), uI_nf (by decide)]
        refine lv_bipush (v := 100) hx hb dX10_tool_77 (by decide) ?_
        refine q_iast E G 18 4 (c18 4 (by decide)) (fun _ => sa_18_4) ok.2.2.1 dX10_tool_79 (fun H locs G => ?_)
        refine lv_aload_n hx hb dX10_tool_80 rfl (lv_at hl 1 rfl) ?_
        refine q_get (index := 22) (ref := "ToolRoomModel") E G inX10 17 0 c17 sg_17 rfl 5 (by decide) tb_426 (Or.inl rfl) rfl dX10_tool_81 ?_
        refine lv_aload_n hx hb dX10_tool_84 rfl (lv_at hl 1 rfl) ?_
        refine q_get (index := 77) (ref := "ToolRoomModel") E G inX10 17 0 c17 sg_17 rfl 1 (by decide) tb_422 (Or.inl rfl) rfl dX10_tool_85 ?_
        rw [uI_nf (by decide), uI_nf (by decide), uI_nf (by decide)]
        refine lv_iconst (v := 0) hx hb dX10_tool_88 (by decide) ?_
        refine q_zast E G 18 5 (c18 5 (by decide)) (fun _ => sa_18_5) ok.2.2.1 (by decide) dX10_tool_89 (fun H locs G => ?_)
        refine lv_aload_n hx hb dX10_tool_90 rfl (lv_at hl 1 rfl) ?_
        refine q_get (index := 7) (ref := "ToolRoomModel") E G inX10 17 0 c17 sg_17 rfl 0 (by decide) tb_421 (Or.inl rfl) rfl dX10_tool_91 ?_
        refine lv_iload_n hx hb dX10_tool_94 rfl (lv_at hl 2 rfl) ?_
        refine lv_aload_n hx hb dX10_tool_95 rfl (lv_at hl 1 rfl) ?_
        refine q_get (index := 77) (ref := "ToolRoomModel") E G inX10 17 0 c17 sg_17 rfl 1 (by decide) tb_422 (Or.inl rfl) rfl dX10_tool_96 ?_
        rw [uI_nf (by decide), uI_nf (by decide), uI_nf (by decide), uI_nf (by decide)]
        refine q_iast E G 18 0 (c18 0 (by decide)) (fun _ => sa_18_0) v2 dX10_tool_99 (fun H locs G => ?_)
        refine lv_aload_n hx hb dX10_tool_100 rfl (lv_at hl 1 rfl) ?_
        refine lv_dup hx hb dX10_tool_101 rfl ?_
        refine q_get (index := 77) (ref := "ToolRoomModel") E G inX10 17 0 c17 sg_17 rfl 1 (by decide) tb_422 (Or.inl rfl) rfl dX10_tool_102 ?_
        rw [uI_nf (by decide), uI_nf (by decide), uI_nf (by decide), uI_nf (by decide), uI_nf (by decide)]
        refine lv_iconst (v := 1) hx hb dX10_tool_105 (by decide) ?_
        refine lv_iadd hx hb dX10_tool_106 ?_
        refine q_put (index := 77) (ref := "ToolRoomModel") E G inX10 tyX10 tyX10_ok nmX10 17 0 c17 1 sg_17 rfl 1 (by decide) tb_422 (Or.inl rfl) rfl (ty := .int) (by decide +kernel) rfl rfl (Nat.le_of_ble_eq_true rfl) sp_17_1 dX10_tool_107 (fun H locs G => ?_)
        refine lv_aload_n hx hb dX10_tool_110 rfl (lv_at hl 1 rfl) ?_
        refine lv_iload_n hx hb dX10_tool_111 rfl (lv_at hl 0 rfl) ?_
        refine q_cV (rest := []) E G 17 0 c17 sg_17 (C := RX10) (T := TX10) (N := 21) rfl (k_X10_says l D cy sz ad n (uI (uI (uI (uI (uI (uI S 18 2 (S.1 17 0 1).toNatClampNeg x2) 18 3 (S.1 17 0 1).toNatClampNeg 0) 18 4 (S.1 17 0 1).toNatClampNeg 100) 18 5 (S.1 17 0 1).toNatClampNeg 0) 18 0 x1.toNatClampNeg (S.1 17 0 1)) 17 0 1 ((S.1 17 0 1) + 1)) 0) tb_496 tb_498 tp_9 tb_6 tb_499 (nn := 1) (by decide +kernel) ⟨Nat.le_of_ble_eq_true rfl, Nat.le_of_ble_eq_true rfl⟩ rfl hl.1 rfl (Nat.le_of_ble_eq_true rfl) dX10_tool_112 ⟨Nat.zero_le _, Nat.zero_le _⟩ (fun H locs G => ?_)
        exact q_iret E G (by unfold f_X10_tool; simp only [if_pos h1, if_pos h3, if_pos h5, pr_eta]) dX10_tool_115
    · refine q_cSp E G [] (k_X10_in_f l D cy sz ad n S x2 0 3 h3) tb_489 tb_490 tb_6 tb_491 (nn := 3) (by decide +kernel) ⟨Nat.le_of_ble_eq_true rfl, Nat.le_of_ble_eq_true rfl⟩ rfl hl.1 rfl (Nat.le_of_ble_eq_true rfl) dX10_tool_20 ⟨Nat.zero_le _, Nat.zero_le _⟩ (fun H locs G => ?_)
      refine lv_if_ne (tgt := 33) hx hb dX10_tool_23 (by decide) (fun h => absurd h (by decide)) (fun _ => ?_)
      refine lv_aload_n hx hb dX10_tool_26 rfl (lv_at hl 0 rfl) ?_
      refine lv_bipush (v := (-3)) hx hb dX10_tool_27 (by decide) ?_
      refine q_cV (rest := []) E G 17 0 c17 sg_17 (C := RX10) (T := TX10) (N := 21) rfl (k_X10_refuses l D cy sz ad n S (-3)) tb_492 tb_494 tp_8 tb_6 tb_495 (nn := 1) (by decide +kernel) ⟨Nat.le_of_ble_eq_true rfl, Nat.le_of_ble_eq_true rfl⟩ rfl hl.1 rfl (Nat.le_of_ble_eq_true rfl) dX10_tool_29 ⟨Nat.zero_le _, Nat.zero_le _⟩ (fun H locs G => ?_)
      exact q_iret E G (by unfold f_X10_tool; simp only [if_pos h1, if_neg h3, pr_eta]) dX10_tool_32
  · refine q_cSp E G [] (k_X10_in_f l D cy sz ad n S x1 0 9 h1) tb_489 tb_490 tb_6 tb_491 (nn := 3) (by decide +kernel) ⟨Nat.le_of_ble_eq_true rfl, Nat.le_of_ble_eq_true rfl⟩ rfl hl.1 rfl (Nat.le_of_ble_eq_true rfl) dX10_tool_4 ⟨Nat.zero_le _, Nat.zero_le _⟩ (fun H locs G => ?_)
    refine lv_if_ne (tgt := 17) hx hb dX10_tool_7 (by decide) (fun h => absurd h (by decide)) (fun _ => ?_)
    refine lv_aload_n hx hb dX10_tool_10 rfl (lv_at hl 0 rfl) ?_
    refine lv_bipush (v := (-2)) hx hb dX10_tool_11 (by decide) ?_
    refine q_cV (rest := []) E G 17 0 c17 sg_17 (C := RX10) (T := TX10) (N := 21) rfl (k_X10_refuses l D cy sz ad n S (-2)) tb_492 tb_494 tp_8 tb_6 tb_495 (nn := 1) (by decide +kernel) ⟨Nat.le_of_ble_eq_true rfl, Nat.le_of_ble_eq_true rfl⟩ rfl hl.1 rfl (Nat.le_of_ble_eq_true rfl) dX10_tool_13 ⟨Nat.zero_le _, Nat.zero_le _⟩ (fun H locs G => ?_)
    exact q_iret E G (by unfold f_X10_tool; simp only [if_neg h1, pr_eta]) dX10_tool_16

def f_X10_hang (S : SS) (x1 : Int32) (x2 : Int32) : Int32 × SS := if wj x1 0 9 = true then (if wj x2 0 9 = true then (if (S.1 18 0 x2.toNatClampNeg) = (-1) then (f_X10_says (uI S 18 0 x1.toNatClampNeg (S.1 18 0 x2.toNatClampNeg)) 0) else (f_X10_says (uI S 18 0 x1.toNatClampNeg (S.1 18 0 x2.toNatClampNeg)) 1)) else (f_X10_refuses S (-2))) else (f_X10_refuses S (-2))
set_option maxHeartbeats 4000000 in
set_option maxRecDepth 100000 in
theorem k_X10_hang (l : Launch) (D : va_G) (cy : Nat → ClassId) (sz : Nat) (ad : Nat → Nat → Nat) (n : Nat) (S : SS) (ok : okM S) (x1 : Int32) (x2 : Int32) : CI l yX10_hang cX10_hang 3 (some .int) 1 22 [.ref (ad 17 0), .int x1, .int x2] D cy sz ad n S (f_X10_hang S x1 x2) := by
  refine Met.enter (by decide) (Nat.le_of_ble_eq_true rfl) (fun p e s m args below meth c ls E G hl => ?_)
  have E : En p s m args meth c cX10_hang 3 (some .int) RX10 D cy sz := E
  obtain ⟨hx, hb, hrt, hml, hown, hw, hlk, hK, hF, hsz⟩ := id E
  have hl : lv_has ls 3 [(0, .ref (ad 17 0)), (1, .int x1), (2, .int x2)] := hl
  refine lv_iload_n hx hb dX10_hang_0 rfl (lv_at hl 1 rfl) ?_
  refine lv_iconst (v := 0) hx hb dX10_hang_1 (by decide) ?_
  refine lv_bipush (v := 9) hx hb dX10_hang_2 (by decide) ?_
  by_cases h1 : wj x1 0 9 = true
  · have v2 : vp_in x1 10 := wj_in h1 (by decide) (by decide)
    refine q_cSp E G [] (k_X10_in_t l D cy sz ad n S x1 0 9 h1) tb_489 tb_490 tb_6 tb_491 (nn := 3) (by decide +kernel) ⟨Nat.le_of_ble_eq_true rfl, Nat.le_of_ble_eq_true rfl⟩ rfl hl.1 rfl (Nat.le_of_ble_eq_true rfl) dX10_hang_4 ⟨Nat.zero_le _, Nat.zero_le _⟩ (fun H locs G => ?_)
    refine lv_if_eq (tgt := 20) hx hb dX10_hang_7 (by decide) (fun h => absurd h (by decide)) (fun _ => ?_)
    refine lv_iload_n hx hb dX10_hang_10 rfl (lv_at hl 2 rfl) ?_
    refine lv_iconst (v := 0) hx hb dX10_hang_11 (by decide) ?_
    refine lv_bipush (v := 9) hx hb dX10_hang_12 (by decide) ?_
    by_cases h3 : wj x2 0 9 = true
    · have v4 : vp_in x2 10 := wj_in h3 (by decide) (by decide)
      refine q_cSp E G [] (k_X10_in_t l D cy sz ad n S x2 0 9 h3) tb_489 tb_490 tb_6 tb_491 (nn := 3) (by decide +kernel) ⟨Nat.le_of_ble_eq_true rfl, Nat.le_of_ble_eq_true rfl⟩ rfl hl.1 rfl (Nat.le_of_ble_eq_true rfl) dX10_hang_14 ⟨Nat.zero_le _, Nat.zero_le _⟩ (fun H locs G => ?_)
      refine lv_if_ne (tgt := 27) hx hb dX10_hang_17 (by decide) (fun _ => ?_) (fun h => absurd h (by decide))
      refine lv_aload_n hx hb dX10_hang_27 rfl (lv_at hl 0 rfl) ?_
      refine q_get (index := 7) (ref := "ToolRoomModel") E G inX10 17 0 c17 sg_17 rfl 0 (by decide) tb_421 (Or.inl rfl) rfl dX10_hang_28 ?_
      refine lv_iload_n hx hb dX10_hang_31 rfl (lv_at hl 1 rfl) ?_
      refine lv_aload_n hx hb dX10_hang_32 rfl (lv_at hl 0 rfl) ?_
      refine q_get (index := 7) (ref := "ToolRoomModel") E G inX10 17 0 c17 sg_17 rfl 0 (by decide) tb_421 (Or.inl rfl) rfl dX10_hang_33 ?_
      refine lv_iload_n hx hb dX10_hang_36 rfl (lv_at hl 2 rfl) ?_
      refine q_iald E G 18 0 (c18 0 (by decide)) sa_18_0 v4 dX10_hang_37 ?_
      refine q_iast E G 18 0 (c18 0 (by decide)) (fun _ => sa_18_0) v2 dX10_hang_38 (fun H locs G => ?_)
      refine lv_aload_n hx hb dX10_hang_39 rfl (lv_at hl 0 rfl) ?_
      refine lv_aload_n hx hb dX10_hang_40 rfl (lv_at hl 0 rfl) ?_
      refine q_get (index := 7) (ref := "ToolRoomModel") E G inX10 17 0 c17 sg_17 rfl 0 (by decide) tb_421 (Or.inl rfl) rfl dX10_hang_41 ?_
      refine lv_iload_n hx hb dX10_hang_44 rfl (lv_at hl 1 rfl) ?_
      refine q_iald E G 18 0 (c18 0 (by decide)) sa_18_0 v2 dX10_hang_45 ?_
      rw [uI_self]
      refine lv_iconst (v := (-1)) hx hb dX10_hang_46 (by decide) ?_
      refine lv_icmp_ne (tgt := 54) hx hb dX10_hang_47 (by decide) (fun h5 => ?_) (fun h5 => ?_)
      · have v6 : vp_in (S.1 18 0 x2.toNatClampNeg) 600 := (ok.1 _ (vp_lt v4)).resolve_left h5
        refine lv_iconst (v := 1) hx hb dX10_hang_54 (by decide) ?_
        refine q_cV (rest := []) E G 17 0 c17 sg_17 (C := RX10) (T := TX10) (N := 21) rfl (k_X10_says l D cy sz ad n (uI S 18 0 x1.toNatClampNeg (S.1 18 0 x2.toNatClampNeg)) 1) tb_496 tb_498 tp_9 tb_6 tb_499 (nn := 1) (by decide +kernel) ⟨Nat.le_of_ble_eq_true rfl, Nat.le_of_ble_eq_true rfl⟩ rfl hl.1 rfl (Nat.le_of_ble_eq_true rfl) dX10_hang_55 ⟨Nat.zero_le _, Nat.zero_le _⟩ (fun H locs G => ?_)
        exact q_iret E G (by unfold f_X10_hang; simp only [if_pos h1, if_pos h3, if_neg h5, pr_eta]) dX10_hang_58
      · refine lv_iconst (v := 0) hx hb dX10_hang_50 (by decide) ?_
        refine lv_goto (tgt := 55) hx hb dX10_hang_51 (by decide) ?_
        refine q_cV (rest := []) E G 17 0 c17 sg_17 (C := RX10) (T := TX10) (N := 21) rfl (k_X10_says l D cy sz ad n (uI S 18 0 x1.toNatClampNeg (S.1 18 0 x2.toNatClampNeg)) 0) tb_496 tb_498 tp_9 tb_6 tb_499 (nn := 1) (by decide +kernel) ⟨Nat.le_of_ble_eq_true rfl, Nat.le_of_ble_eq_true rfl⟩ rfl hl.1 rfl (Nat.le_of_ble_eq_true rfl) dX10_hang_55 ⟨Nat.zero_le _, Nat.zero_le _⟩ (fun H locs G => ?_)
        exact q_iret E G (by unfold f_X10_hang; simp only [if_pos h1, if_pos h3, if_pos h5, pr_eta]) dX10_hang_58
    · refine q_cSp E G [] (k_X10_in_f l D cy sz ad n S x2 0 9 h3) tb_489 tb_490 tb_6 tb_491 (nn := 3) (by decide +kernel) ⟨Nat.le_of_ble_eq_true rfl, Nat.le_of_ble_eq_true rfl⟩ rfl hl.1 rfl (Nat.le_of_ble_eq_true rfl) dX10_hang_14 ⟨Nat.zero_le _, Nat.zero_le _⟩ (fun H locs G => ?_)
      refine lv_if_ne (tgt := 27) hx hb dX10_hang_17 (by decide) (fun h => absurd h (by decide)) (fun _ => ?_)
      refine lv_aload_n hx hb dX10_hang_20 rfl (lv_at hl 0 rfl) ?_
      refine lv_bipush (v := (-2)) hx hb dX10_hang_21 (by decide) ?_
      refine q_cV (rest := []) E G 17 0 c17 sg_17 (C := RX10) (T := TX10) (N := 21) rfl (k_X10_refuses l D cy sz ad n S (-2)) tb_492 tb_494 tp_8 tb_6 tb_495 (nn := 1) (by decide +kernel) ⟨Nat.le_of_ble_eq_true rfl, Nat.le_of_ble_eq_true rfl⟩ rfl hl.1 rfl (Nat.le_of_ble_eq_true rfl) dX10_hang_23 ⟨Nat.zero_le _, Nat.zero_le _⟩ (fun H locs G => ?_)
      exact q_iret E G (by unfold f_X10_hang; simp only [if_pos h1, if_neg h3, pr_eta]) dX10_hang_26
  · refine q_cSp E G [] (k_X10_in_f l D cy sz ad n S x1 0 9 h1) tb_489 tb_490 tb_6 tb_491 (nn := 3) (by decide +kernel) ⟨Nat.le_of_ble_eq_true rfl, Nat.le_of_ble_eq_true rfl⟩ rfl hl.1 rfl (Nat.le_of_ble_eq_true rfl) dX10_hang_4 ⟨Nat.zero_le _, Nat.zero_le _⟩ (fun H locs G => ?_)
    refine lv_if_eq (tgt := 20) hx hb dX10_hang_7 (by decide) (fun _ => ?_) (fun h => absurd h (by decide))
    refine lv_aload_n hx hb dX10_hang_20 rfl (lv_at hl 0 rfl) ?_
    refine lv_bipush (v := (-2)) hx hb dX10_hang_21 (by decide) ?_
    refine q_cV (rest := []) E G 17 0 c17 sg_17 (C := RX10) (T := TX10) (N := 21) rfl (k_X10_refuses l D cy sz ad n S (-2)) tb_492 tb_494 tp_8 tb_6 tb_495 (nn := 1) (by decide +kernel) ⟨Nat.le_of_ble_eq_true rfl, Nat.le_of_ble_eq_true rfl⟩ rfl hl.1 rfl (Nat.le_of_ble_eq_true rfl) dX10_hang_23 ⟨Nat.zero_le _, Nat.zero_le _⟩ (fun H locs G => ?_)
    exact q_iret E G (by unfold f_X10_hang; simp only [if_neg h1, pr_eta]) dX10_hang_26

def f_X10_unhang (S : SS) (x1 : Int32) : Int32 × SS := if wj x1 0 9 = true then (if (S.1 18 0 x1.toNatClampNeg) = (-1) then (f_X10_says (uI S 18 0 x1.toNatClampNeg (-1)) 0) else (f_X10_says (uI S 18 0 x1.toNatClampNeg (-1)) 1)) else (f_X10_refuses S (-2))
set_option maxHeartbeats 4000000 in
set_option maxRecDepth 100000 in
theorem k_X10_unhang (l : Launch) (D : va_G) (cy : Nat → ClassId) (sz : Nat) (ad : Nat → Nat → Nat) (n : Nat) (S : SS) (ok : okM S) (x1 : Int32) : CI l yX10_unhang cX10_unhang 3 (some .int) 1 22 [.ref (ad 17 0), .int x1] D cy sz ad n S (f_X10_unhang S x1) := by
  refine Met.enter (by decide) (Nat.le_of_ble_eq_true rfl) (fun p e s m args below meth c ls E G hl => ?_)
  have E : En p s m args meth c cX10_unhang 3 (some .int) RX10 D cy sz := E
  obtain ⟨hx, hb, hrt, hml, hown, hw, hlk, hK, hF, hsz⟩ := id E
  have hl : lv_has ls 3 [(0, .ref (ad 17 0)), (1, .int x1)] := hl
  refine lv_iload_n hx hb dX10_unhang_0 rfl (lv_at hl 1 rfl) ?_
  refine lv_iconst (v := 0) hx hb dX10_unhang_1 (by decide) ?_
  refine lv_bipush (v := 9) hx hb dX10_unhang_2 (by decide) ?_
  by_cases h1 : wj x1 0 9 = true
  · have v2 : vp_in x1 10 := wj_in h1 (by decide) (by decide)
    refine q_cSp E G [] (k_X10_in_t l D cy sz ad n S x1 0 9 h1) tb_489 tb_490 tb_6 tb_491 (nn := 3) (by decide +kernel) ⟨Nat.le_of_ble_eq_true rfl, Nat.le_of_ble_eq_true rfl⟩ rfl hl.1 rfl (Nat.le_of_ble_eq_true rfl) dX10_unhang_4 ⟨Nat.zero_le _, Nat.zero_le _⟩ (fun H locs G => ?_)
    refine lv_if_ne (tgt := 17) hx hb dX10_unhang_7 (by decide) (fun _ => ?_) (fun h => absurd h (by decide))
    refine lv_aload_n hx hb dX10_unhang_17 rfl (lv_at hl 0 rfl) ?_
    refine q_get (index := 7) (ref := "ToolRoomModel") E G inX10 17 0 c17 sg_17 rfl 0 (by decide) tb_421 (Or.inl rfl) rfl dX10_unhang_18 ?_
    refine lv_iload_n hx hb dX10_unhang_21 rfl (lv_at hl 1 rfl) ?_
    refine q_iald E G 18 0 (c18 0 (by decide)) sa_18_0 v2 dX10_unhang_22 ?_
    refine lv_iconst (v := (-1)) hx hb dX10_unhang_23 (by decide) ?_
    refine lv_icmp_ne (tgt := 31) hx hb dX10_unhang_24 (by decide) (fun h3 => ?_) (fun h3 => ?_)
    · have v4 : vp_in (S.1 18 0 x1.toNatClampNeg) 600 := (ok.1 _ (vp_lt v2)).resolve_left h3
      refine lv_iconst (v := 1) hx hb dX10_unhang_31 (by decide) ?_
      refine lv_istore_n (lv' := [(2, .int 1), (0, .ref (ad 17 0)), (1, .int x1)]) hx hb dX10_unhang_32 rfl hl (by decide) rfl (fun ls hl => ?_)
      refine lv_aload_n hx hb dX10_unhang_33 rfl (lv_at hl 1 rfl) ?_
      refine q_get (index := 7) (ref := "ToolRoomModel") E G inX10 17 0 c17 sg_17 rfl 0 (by decide) tb_421 (Or.inl rfl) rfl dX10_unhang_34 ?_
      refine lv_iload_n hx hb dX10_unhang_37 rfl (lv_at hl 2 rfl) ?_
      refine lv_iconst (v := (-1)) hx hb dX10_unhang_38 (by decide) ?_
      refine q_iast E G 18 0 (c18 0 (by decide)) (fun _ => sa_18_0) v2 dX10_unhang_39 (fun H locs G => ?_)
      refine lv_aload_n hx hb dX10_unhang_40 rfl (lv_at hl 1 rfl) ?_
      refine lv_iload_n hx hb dX10_unhang_41 rfl (lv_at hl 0 rfl) ?_
      refine q_cV (rest := []) E G 17 0 c17 sg_17 (C := RX10) (T := TX10) (N := 21) rfl (k_X10_says l D cy sz ad n (uI S 18 0 x1.toNatClampNeg (-1)) 1) tb_496 tb_498 tp_9 tb_6 tb_499 (nn := 1) (by decide +kernel) ⟨Nat.le_of_ble_eq_true rfl, Nat.le_of_ble_eq_true rfl⟩ rfl hl.1 rfl (Nat.le_of_ble_eq_true rfl) dX10_unhang_42 ⟨Nat.zero_le _, Nat.zero_le _⟩ (fun H locs G => ?_)
      exact q_iret E G (by unfold f_X10_unhang; simp only [if_pos h1, if_neg h3, pr_eta]) dX10_unhang_45
    · refine lv_iconst (v := 0) hx hb dX10_unhang_27 (by decide) ?_
      refine lv_goto (tgt := 32) hx hb dX10_unhang_28 (by decide) ?_
      refine lv_istore_n (lv' := [(2, .int 0), (0, .ref (ad 17 0)), (1, .int x1)]) hx hb dX10_unhang_32 rfl hl (by decide) rfl (fun ls hl => ?_)
      refine lv_aload_n hx hb dX10_unhang_33 rfl (lv_at hl 1 rfl) ?_
      refine q_get (index := 7) (ref := "ToolRoomModel") E G inX10 17 0 c17 sg_17 rfl 0 (by decide) tb_421 (Or.inl rfl) rfl dX10_unhang_34 ?_
      refine lv_iload_n hx hb dX10_unhang_37 rfl (lv_at hl 2 rfl) ?_
      refine lv_iconst (v := (-1)) hx hb dX10_unhang_38 (by decide) ?_
      refine q_iast E G 18 0 (c18 0 (by decide)) (fun _ => sa_18_0) v2 dX10_unhang_39 (fun H locs G => ?_)
      refine lv_aload_n hx hb dX10_unhang_40 rfl (lv_at hl 1 rfl) ?_
      refine lv_iload_n hx hb dX10_unhang_41 rfl (lv_at hl 0 rfl) ?_
      refine q_cV (rest := []) E G 17 0 c17 sg_17 (C := RX10) (T := TX10) (N := 21) rfl (k_X10_says l D cy sz ad n (uI S 18 0 x1.toNatClampNeg (-1)) 0) tb_496 tb_498 tp_9 tb_6 tb_499 (nn := 1) (by decide +kernel) ⟨Nat.le_of_ble_eq_true rfl, Nat.le_of_ble_eq_true rfl⟩ rfl hl.1 rfl (Nat.le_of_ble_eq_true rfl) dX10_unhang_42 ⟨Nat.zero_le _, Nat.zero_le _⟩ (fun H locs G => ?_)
      exact q_iret E G (by unfold f_X10_unhang; simp only [if_pos h1, if_pos h3, pr_eta]) dX10_unhang_45
  · refine q_cSp E G [] (k_X10_in_f l D cy sz ad n S x1 0 9 h1) tb_489 tb_490 tb_6 tb_491 (nn := 3) (by decide +kernel) ⟨Nat.le_of_ble_eq_true rfl, Nat.le_of_ble_eq_true rfl⟩ rfl hl.1 rfl (Nat.le_of_ble_eq_true rfl) dX10_unhang_4 ⟨Nat.zero_le _, Nat.zero_le _⟩ (fun H locs G => ?_)
    refine lv_if_ne (tgt := 17) hx hb dX10_unhang_7 (by decide) (fun h => absurd h (by decide)) (fun _ => ?_)
    refine lv_aload_n hx hb dX10_unhang_10 rfl (lv_at hl 0 rfl) ?_
    refine lv_bipush (v := (-2)) hx hb dX10_unhang_11 (by decide) ?_
    refine q_cV (rest := []) E G 17 0 c17 sg_17 (C := RX10) (T := TX10) (N := 21) rfl (k_X10_refuses l D cy sz ad n S (-2)) tb_492 tb_494 tp_8 tb_6 tb_495 (nn := 1) (by decide +kernel) ⟨Nat.le_of_ble_eq_true rfl, Nat.le_of_ble_eq_true rfl⟩ rfl hl.1 rfl (Nat.le_of_ble_eq_true rfl) dX10_unhang_13 ⟨Nat.zero_le _, Nat.zero_le _⟩ (fun H locs G => ?_)
    exact q_iret E G (by unfold f_X10_unhang; simp only [if_neg h1, pr_eta]) dX10_unhang_16

def f_X10_kind (S : SS) (x1 : Int32) : Int32 × SS := if wj x1 0 9 = true then (if (S.1 18 0 x1.toNatClampNeg) = (-1) then (f_X10_says S (-1)) else (f_X10_says S (S.1 18 2 (S.1 18 0 x1.toNatClampNeg).toNatClampNeg))) else (f_X10_refuses S (-2))
set_option maxHeartbeats 4000000 in
set_option maxRecDepth 100000 in
theorem k_X10_kind (l : Launch) (D : va_G) (cy : Nat → ClassId) (sz : Nat) (ad : Nat → Nat → Nat) (n : Nat) (S : SS) (ok : okM S) (x1 : Int32) : CI l yX10_kind cX10_kind 2 (some .int) 1 22 [.ref (ad 17 0), .int x1] D cy sz ad n S (f_X10_kind S x1) := by
  refine Met.enter (by decide) (Nat.le_of_ble_eq_true rfl) (fun p e s m args below meth c ls E G hl => ?_)
  have E : En p s m args meth c cX10_kind 2 (some .int) RX10 D cy sz := E
  obtain ⟨hx, hb, hrt, hml, hown, hw, hlk, hK, hF, hsz⟩ := id E
  have hl : lv_has ls 2 [(0, .ref (ad 17 0)), (1, .int x1)] := hl
  refine lv_iload_n hx hb dX10_kind_0 rfl (lv_at hl 1 rfl) ?_
  refine lv_iconst (v := 0) hx hb dX10_kind_1 (by decide) ?_
  refine lv_bipush (v := 9) hx hb dX10_kind_2 (by decide) ?_
  by_cases h1 : wj x1 0 9 = true
  · have v2 : vp_in x1 10 := wj_in h1 (by decide) (by decide)
    refine q_cSp E G [] (k_X10_in_t l D cy sz ad n S x1 0 9 h1) tb_489 tb_490 tb_6 tb_491 (nn := 3) (by decide +kernel) ⟨Nat.le_of_ble_eq_true rfl, Nat.le_of_ble_eq_true rfl⟩ rfl hl.1 rfl (Nat.le_of_ble_eq_true rfl) dX10_kind_4 ⟨Nat.zero_le _, Nat.zero_le _⟩ (fun H locs G => ?_)
    refine lv_if_ne (tgt := 17) hx hb dX10_kind_7 (by decide) (fun _ => ?_) (fun h => absurd h (by decide))
    refine lv_aload_n hx hb dX10_kind_17 rfl (lv_at hl 0 rfl) ?_
    refine lv_aload_n hx hb dX10_kind_18 rfl (lv_at hl 0 rfl) ?_
    refine q_get (index := 7) (ref := "ToolRoomModel") E G inX10 17 0 c17 sg_17 rfl 0 (by decide) tb_421 (Or.inl rfl) rfl dX10_kind_19 ?_
    refine lv_iload_n hx hb dX10_kind_22 rfl (lv_at hl 1 rfl) ?_
    refine q_iald E G 18 0 (c18 0 (by decide)) sa_18_0 v2 dX10_kind_23 ?_
    refine lv_iconst (v := (-1)) hx hb dX10_kind_24 (by decide) ?_
    refine lv_icmp_ne (tgt := 32) hx hb dX10_kind_25 (by decide) (fun h3 => ?_) (fun h3 => ?_)
    · have v4 : vp_in (S.1 18 0 x1.toNatClampNeg) 600 := (ok.1 _ (vp_lt v2)).resolve_left h3
      refine lv_aload_n hx hb dX10_kind_32 rfl (lv_at hl 0 rfl) ?_
      refine q_get (index := 13) (ref := "ToolRoomModel") E G inX10 17 0 c17 sg_17 rfl 2 (by decide) tb_423 (Or.inl rfl) rfl dX10_kind_33 ?_
      refine lv_aload_n hx hb dX10_kind_36 rfl (lv_at hl 0 rfl) ?_
      refine q_get (index := 7) (ref := "ToolRoomModel") E G inX10 17 0 c17 sg_17 rfl 0 (by decide) tb_421 (Or.inl rfl) rfl dX10_kind_37 ?_
      refine lv_iload_n hx hb dX10_kind_40 rfl (lv_at hl 1 rfl) ?_
      refine q_iald E G 18 0 (c18 0 (by decide)) sa_18_0 v2 dX10_kind_41 ?_
      refine q_iald E G 18 2 (c18 2 (by decide)) sa_18_2 v4 dX10_kind_42 ?_
      refine q_cV (rest := []) E G 17 0 c17 sg_17 (C := RX10) (T := TX10) (N := 21) rfl (k_X10_says l D cy sz ad n S (S.1 18 2 (S.1 18 0 x1.toNatClampNeg).toNatClampNeg)) tb_496 tb_498 tp_9 tb_6 tb_499 (nn := 1) (by decide +kernel) ⟨Nat.le_of_ble_eq_true rfl, Nat.le_of_ble_eq_true rfl⟩ rfl hl.1 rfl (Nat.le_of_ble_eq_true rfl) dX10_kind_43 ⟨Nat.zero_le _, Nat.zero_le _⟩ (fun H locs G => ?_)
      exact q_iret E G (by unfold f_X10_kind; simp only [if_pos h1, if_neg h3, pr_eta]) dX10_kind_46
    · refine lv_iconst (v := (-1)) hx hb dX10_kind_28 (by decide) ?_
      refine lv_goto (tgt := 43) hx hb dX10_kind_29 (by decide) ?_
      refine q_cV (rest := []) E G 17 0 c17 sg_17 (C := RX10) (T := TX10) (N := 21) rfl (k_X10_says l D cy sz ad n S (-1)) tb_496 tb_498 tp_9 tb_6 tb_499 (nn := 1) (by decide +kernel) ⟨Nat.le_of_ble_eq_true rfl, Nat.le_of_ble_eq_true rfl⟩ rfl hl.1 rfl (Nat.le_of_ble_eq_true rfl) dX10_kind_43 ⟨Nat.zero_le _, Nat.zero_le _⟩ (fun H locs G => ?_)
      exact q_iret E G (by unfold f_X10_kind; simp only [if_pos h1, if_pos h3, pr_eta]) dX10_kind_46
  · refine q_cSp E G [] (k_X10_in_f l D cy sz ad n S x1 0 9 h1) tb_489 tb_490 tb_6 tb_491 (nn := 3) (by decide +kernel) ⟨Nat.le_of_ble_eq_true rfl, Nat.le_of_ble_eq_true rfl⟩ rfl hl.1 rfl (Nat.le_of_ble_eq_true rfl) dX10_kind_4 ⟨Nat.zero_le _, Nat.zero_le _⟩ (fun H locs G => ?_)
    refine lv_if_ne (tgt := 17) hx hb dX10_kind_7 (by decide) (fun h => absurd h (by decide)) (fun _ => ?_)
    refine lv_aload_n hx hb dX10_kind_10 rfl (lv_at hl 0 rfl) ?_
    refine lv_bipush (v := (-2)) hx hb dX10_kind_11 (by decide) ?_
    refine q_cV (rest := []) E G 17 0 c17 sg_17 (C := RX10) (T := TX10) (N := 21) rfl (k_X10_refuses l D cy sz ad n S (-2)) tb_492 tb_494 tp_8 tb_6 tb_495 (nn := 1) (by decide +kernel) ⟨Nat.le_of_ble_eq_true rfl, Nat.le_of_ble_eq_true rfl⟩ rfl hl.1 rfl (Nat.le_of_ble_eq_true rfl) dX10_kind_13 ⟨Nat.zero_le _, Nat.zero_le _⟩ (fun H locs G => ?_)
    exact q_iret E G (by unfold f_X10_kind; simp only [if_neg h1, pr_eta]) dX10_kind_16

def f_X10_card (S : SS) (x1 : Int32) (x2 : Int32) : Int32 × SS := if wj x1 0 9 = true then (if (S.1 18 0 x1.toNatClampNeg) = (-1) then (f_X10_fails S 1) else (f_X10_says (uI (uI S 18 5 (S.1 18 0 x1.toNatClampNeg).toNatClampNeg 1) 18 6 (S.1 18 0 x1.toNatClampNeg).toNatClampNeg x2) 1)) else (f_X10_refuses S (-2))
set_option maxHeartbeats 4000000 in
set_option maxRecDepth 100000 in
theorem k_X10_card (l : Launch) (D : va_G) (cy : Nat → ClassId) (sz : Nat) (ad : Nat → Nat → Nat) (n : Nat) (S : SS) (ok : okM S) (x1 : Int32) (x2 : Int32) : CI l yX10_card cX10_card 3 (some .int) 1 22 [.ref (ad 17 0), .int x1, .int x2] D cy sz ad n S (f_X10_card S x1 x2) := by
  refine Met.enter (by decide) (Nat.le_of_ble_eq_true rfl) (fun p e s m args below meth c ls E G hl => ?_)
  have E : En p s m args meth c cX10_card 3 (some .int) RX10 D cy sz := E
  obtain ⟨hx, hb, hrt, hml, hown, hw, hlk, hK, hF, hsz⟩ := id E
  have hl : lv_has ls 3 [(0, .ref (ad 17 0)), (1, .int x1), (2, .int x2)] := hl
  refine lv_iload_n hx hb dX10_card_0 rfl (lv_at hl 1 rfl) ?_
  refine lv_iconst (v := 0) hx hb dX10_card_1 (by decide) ?_
  refine lv_bipush (v := 9) hx hb dX10_card_2 (by decide) ?_
  by_cases h1 : wj x1 0 9 = true
  · have v2 : vp_in x1 10 := wj_in h1 (by decide) (by decide)
    refine q_cSp E G [] (k_X10_in_t l D cy sz ad n S x1 0 9 h1) tb_489 tb_490 tb_6 tb_491 (nn := 3) (by decide +kernel) ⟨Nat.le_of_ble_eq_true rfl, Nat.le_of_ble_eq_true rfl⟩ rfl hl.1 rfl (Nat.le_of_ble_eq_true rfl) dX10_card_4 ⟨Nat.zero_le _, Nat.zero_le _⟩ (fun H locs G => ?_)
    refine lv_if_ne (tgt := 17) hx hb dX10_card_7 (by decide) (fun _ => ?_) (fun h => absurd h (by decide))
    refine lv_aload_n hx hb dX10_card_17 rfl (lv_at hl 0 rfl) ?_
    refine q_get (index := 7) (ref := "ToolRoomModel") E G inX10 17 0 c17 sg_17 rfl 0 (by decide) tb_421 (Or.inl rfl) rfl dX10_card_18 ?_
    refine lv_iload_n hx hb dX10_card_21 rfl (lv_at hl 1 rfl) ?_
    refine q_iald E G 18 0 (c18 0 (by decide)) sa_18_0 v2 dX10_card_22 ?_
    refine lv_iconst (v := (-1)) hx hb dX10_card_23 (by decide) ?_
    refine lv_icmp_ne (tgt := 33) hx hb dX10_card_24 (by decide) (fun h3 => ?_) (fun h3 => ?_)
    · have v4 : vp_in (S.1 18 0 x1.toNatClampNeg) 600 := (ok.1 _ (vp_lt v2)).resolve_left h3
      refine lv_aload_n hx hb dX10_card_33 rfl (lv_at hl 0 rfl) ?_
      refine q_get (index := 22) (ref := "ToolRoomModel") E G inX10 17 0 c17 sg_17 rfl 5 (by decide) tb_426 (Or.inl rfl) rfl dX10_card_34 ?_
      refine lv_aload_n hx hb dX10_card_37 rfl (lv_at hl 0 rfl) ?_
      refine q_get (index := 7) (ref := "ToolRoomModel") E G inX10 17 0 c17 sg_17 rfl 0 (by decide) tb_421 (Or.inl rfl) rfl dX10_card_38 ?_
      refine lv_iload_n hx hb dX10_card_41 rfl (lv_at hl 1 rfl) ?_
      refine q_iald E G 18 0 (c18 0 (by decide)) sa_18_0 v2 dX10_card_42 ?_
      refine lv_iconst (v := 1) hx hb dX10_card_43 (by decide) ?_
      refine q_zast E G 18 5 (c18 5 (by decide)) (fun _ => sa_18_5) v4 (by decide) dX10_card_44 (fun H locs G => ?_)
      refine lv_aload_n hx hb dX10_card_45 rfl (lv_at hl 0 rfl) ?_
      refine q_get (index := 26) (ref := "ToolRoomModel") E G inX10 17 0 c17 sg_17 rfl 6 (by decide) tb_427 (Or.inl rfl) rfl dX10_card_46 ?_
      refine lv_aload_n hx hb dX10_card_49 rfl (lv_at hl 0 rfl) ?_
      refine q_get (index := 7) (ref := "ToolRoomModel") E G inX10 17 0 c17 sg_17 rfl 0 (by decide) tb_421 (Or.inl rfl) rfl dX10_card_50 ?_
      refine lv_iload_n hx hb dX10_card_53 rfl (lv_at hl 1 rfl) ?_
      refine q_iald E G 18 0 (c18 0 (by decide)) sa_18_0 v2 dX10_card_54 ?_
      rw [uI_ni (by decide)]
      refine lv_iload_n hx hb dX10_card_55 rfl (lv_at hl 2 rfl) ?_
      refine q_iast E G 18 6 (c18 6 (by decide)) (fun _ => sa_18_6) v4 dX10_card_56 (fun H locs G => ?_)
      refine lv_aload_n hx hb dX10_card_57 rfl (lv_at hl 0 rfl) ?_
      refine lv_iconst (v := 1) hx hb dX10_card_58 (by decide) ?_
      refine q_cV (rest := []) E G 17 0 c17 sg_17 (C := RX10) (T := TX10) (N := 21) rfl (k_X10_says l D cy sz ad n (uI (uI S 18 5 (S.1 18 0 x1.toNatClampNeg).toNatClampNeg 1) 18 6 (S.1 18 0 x1.toNatClampNeg).toNatClampNeg x2) 1) tb_496 tb_498 tp_9 tb_6 tb_499 (nn := 1) (by decide +kernel) ⟨Nat.le_of_ble_eq_true rfl, Nat.le_of_ble_eq_true rfl⟩ rfl hl.1 rfl (Nat.le_of_ble_eq_true rfl) dX10_card_59 ⟨Nat.zero_le _, Nat.zero_le _⟩ (fun H locs G => ?_)
      exact q_iret E G (by unfold f_X10_card; simp only [if_pos h1, if_neg h3, pr_eta]) dX10_card_62
    · refine lv_aload_n hx hb dX10_card_27 rfl (lv_at hl 0 rfl) ?_
      refine lv_iconst (v := 1) hx hb dX10_card_28 (by decide) ?_
      refine q_cV (rest := []) E G 17 0 c17 sg_17 (C := RX10) (T := TX10) (N := 21) rfl (k_X10_fails l D cy sz ad n S 1 (by unfold vp_in; decide)) tb_516 tb_518 tp_10 tb_6 tb_519 (nn := 1) (by decide +kernel) ⟨Nat.le_of_ble_eq_true rfl, Nat.le_of_ble_eq_true rfl⟩ rfl hl.1 rfl (Nat.le_of_ble_eq_true rfl) dX10_card_29 ⟨Nat.zero_le _, Nat.zero_le _⟩ (fun H locs G => ?_)
      exact q_iret E G (by unfold f_X10_card; simp only [if_pos h1, if_pos h3, pr_eta]) dX10_card_32
  · refine q_cSp E G [] (k_X10_in_f l D cy sz ad n S x1 0 9 h1) tb_489 tb_490 tb_6 tb_491 (nn := 3) (by decide +kernel) ⟨Nat.le_of_ble_eq_true rfl, Nat.le_of_ble_eq_true rfl⟩ rfl hl.1 rfl (Nat.le_of_ble_eq_true rfl) dX10_card_4 ⟨Nat.zero_le _, Nat.zero_le _⟩ (fun H locs G => ?_)
    refine lv_if_ne (tgt := 17) hx hb dX10_card_7 (by decide) (fun h => absurd h (by decide)) (fun _ => ?_)
    refine lv_aload_n hx hb dX10_card_10 rfl (lv_at hl 0 rfl) ?_
    refine lv_bipush (v := (-2)) hx hb dX10_card_11 (by decide) ?_
    refine q_cV (rest := []) E G 17 0 c17 sg_17 (C := RX10) (T := TX10) (N := 21) rfl (k_X10_refuses l D cy sz ad n S (-2)) tb_492 tb_494 tp_8 tb_6 tb_495 (nn := 1) (by decide +kernel) ⟨Nat.le_of_ble_eq_true rfl, Nat.le_of_ble_eq_true rfl⟩ rfl hl.1 rfl (Nat.le_of_ble_eq_true rfl) dX10_card_13 ⟨Nat.zero_le _, Nat.zero_le _⟩ (fun H locs G => ?_)
    exact q_iret E G (by unfold f_X10_card; simp only [if_neg h1, pr_eta]) dX10_card_16

def f_X10_uncard (S : SS) (x1 : Int32) : Int32 × SS := if wj x1 0 9 = true then (if (S.1 18 0 x1.toNatClampNeg) = (-1) then (f_X10_fails S 1) else (f_X10_says (uI S 18 5 (S.1 18 0 x1.toNatClampNeg).toNatClampNeg 0) 1)) else (f_X10_refuses S (-2))
set_option maxHeartbeats 4000000 in
set_option maxRecDepth 100000 in
theorem k_X10_uncard (l : Launch) (D : va_G) (cy : Nat → ClassId) (sz : Nat) (ad : Nat → Nat → Nat) (n : Nat) (S : SS) (ok : okM S) (x1 : Int32) : CI l yX10_uncard cX10_uncard 2 (some .int) 1 22 [.ref (ad 17 0), .int x1] D cy sz ad n S (f_X10_uncard S x1) := by
  refine Met.enter (by decide) (Nat.le_of_ble_eq_true rfl) (fun p e s m args below meth c ls E G hl => ?_)
  have E : En p s m args meth c cX10_uncard 2 (some .int) RX10 D cy sz := E
  obtain ⟨hx, hb, hrt, hml, hown, hw, hlk, hK, hF, hsz⟩ := id E
  have hl : lv_has ls 2 [(0, .ref (ad 17 0)), (1, .int x1)] := hl
  refine lv_iload_n hx hb dX10_uncard_0 rfl (lv_at hl 1 rfl) ?_
  refine lv_iconst (v := 0) hx hb dX10_uncard_1 (by decide) ?_
  refine lv_bipush (v := 9) hx hb dX10_uncard_2 (by decide) ?_
  by_cases h1 : wj x1 0 9 = true
  · have v2 : vp_in x1 10 := wj_in h1 (by decide) (by decide)
    refine q_cSp E G [] (k_X10_in_t l D cy sz ad n S x1 0 9 h1) tb_489 tb_490 tb_6 tb_491 (nn := 3) (by decide +kernel) ⟨Nat.le_of_ble_eq_true rfl, Nat.le_of_ble_eq_true rfl⟩ rfl hl.1 rfl (Nat.le_of_ble_eq_true rfl) dX10_uncard_4 ⟨Nat.zero_le _, Nat.zero_le _⟩ (fun H locs G => ?_)
    refine lv_if_ne (tgt := 17) hx hb dX10_uncard_7 (by decide) (fun _ => ?_) (fun h => absurd h (by decide))
    refine lv_aload_n hx hb dX10_uncard_17 rfl (lv_at hl 0 rfl) ?_
    refine q_get (index := 7) (ref := "ToolRoomModel") E G inX10 17 0 c17 sg_17 rfl 0 (by decide) tb_421 (Or.inl rfl) rfl dX10_uncard_18 ?_
    refine lv_iload_n hx hb dX10_uncard_21 rfl (lv_at hl 1 rfl) ?_
    refine q_iald E G 18 0 (c18 0 (by decide)) sa_18_0 v2 dX10_uncard_22 ?_
    refine lv_iconst (v := (-1)) hx hb dX10_uncard_23 (by decide) ?_
    refine lv_icmp_ne (tgt := 33) hx hb dX10_uncard_24 (by decide) (fun h3 => ?_) (fun h3 => ?_)
    · have v4 : vp_in (S.1 18 0 x1.toNatClampNeg) 600 := (ok.1 _ (vp_lt v2)).resolve_left h3
      refine lv_aload_n hx hb dX10_uncard_33 rfl (lv_at hl 0 rfl) ?_
      refine q_get (index := 22) (ref := "ToolRoomModel") E G inX10 17 0 c17 sg_17 rfl 5 (by decide) tb_426 (Or.inl rfl) rfl dX10_uncard_34 ?_
      refine lv_aload_n hx hb dX10_uncard_37 rfl (lv_at hl 0 rfl) ?_
      refine q_get (index := 7) (ref := "ToolRoomModel") E G inX10 17 0 c17 sg_17 rfl 0 (by decide) tb_421 (Or.inl rfl) rfl dX10_uncard_38 ?_
      refine lv_iload_n hx hb dX10_uncard_41 rfl (lv_at hl 1 rfl) ?_
      refine q_iald E G 18 0 (c18 0 (by decide)) sa_18_0 v2 dX10_uncard_42 ?_
      refine lv_iconst (v := 0) hx hb dX10_uncard_43 (by decide) ?_
      refine q_zast E G 18 5 (c18 5 (by decide)) (fun _ => sa_18_5) v4 (by decide) dX10_uncard_44 (fun H locs G => ?_)
      refine lv_aload_n hx hb dX10_uncard_45 rfl (lv_at hl 0 rfl) ?_
      refine lv_iconst (v := 1) hx hb dX10_uncard_46 (by decide) ?_
      refine q_cV (rest := []) E G 17 0 c17 sg_17 (C := RX10) (T := TX10) (N := 21) rfl (k_X10_says l D cy sz ad n (uI S 18 5 (S.1 18 0 x1.toNatClampNeg).toNatClampNeg 0) 1) tb_496 tb_498 tp_9 tb_6 tb_499 (nn := 1) (by decide +kernel) ⟨Nat.le_of_ble_eq_true rfl, Nat.le_of_ble_eq_true rfl⟩ rfl hl.1 rfl (Nat.le_of_ble_eq_true rfl) dX10_uncard_47 ⟨Nat.zero_le _, Nat.zero_le _⟩ (fun H locs G => ?_)
      exact q_iret E G (by unfold f_X10_uncard; simp only [if_pos h1, if_neg h3, pr_eta]) dX10_uncard_50
    · refine lv_aload_n hx hb dX10_uncard_27 rfl (lv_at hl 0 rfl) ?_
      refine lv_iconst (v := 1) hx hb dX10_uncard_28 (by decide) ?_
      refine q_cV (rest := []) E G 17 0 c17 sg_17 (C := RX10) (T := TX10) (N := 21) rfl (k_X10_fails l D cy sz ad n S 1 (by unfold vp_in; decide)) tb_516 tb_518 tp_10 tb_6 tb_519 (nn := 1) (by decide +kernel) ⟨Nat.le_of_ble_eq_true rfl, Nat.le_of_ble_eq_true rfl⟩ rfl hl.1 rfl (Nat.le_of_ble_eq_true rfl) dX10_uncard_29 ⟨Nat.zero_le _, Nat.zero_le _⟩ (fun H locs G => ?_)
      exact q_iret E G (by unfold f_X10_uncard; simp only [if_pos h1, if_pos h3, pr_eta]) dX10_uncard_32
  · refine q_cSp E G [] (k_X10_in_f l D cy sz ad n S x1 0 9 h1) tb_489 tb_490 tb_6 tb_491 (nn := 3) (by decide +kernel) ⟨Nat.le_of_ble_eq_true rfl, Nat.le_of_ble_eq_true rfl⟩ rfl hl.1 rfl (Nat.le_of_ble_eq_true rfl) dX10_uncard_4 ⟨Nat.zero_le _, Nat.zero_le _⟩ (fun H locs G => ?_)
    refine lv_if_ne (tgt := 17) hx hb dX10_uncard_7 (by decide) (fun h => absurd h (by decide)) (fun _ => ?_)
    refine lv_aload_n hx hb dX10_uncard_10 rfl (lv_at hl 0 rfl) ?_
    refine lv_bipush (v := (-2)) hx hb dX10_uncard_11 (by decide) ?_
    refine q_cV (rest := []) E G 17 0 c17 sg_17 (C := RX10) (T := TX10) (N := 21) rfl (k_X10_refuses l D cy sz ad n S (-2)) tb_492 tb_494 tp_8 tb_6 tb_495 (nn := 1) (by decide +kernel) ⟨Nat.le_of_ble_eq_true rfl, Nat.le_of_ble_eq_true rfl⟩ rfl hl.1 rfl (Nat.le_of_ble_eq_true rfl) dX10_uncard_13 ⟨Nat.zero_le _, Nat.zero_le _⟩ (fun H locs G => ?_)
    exact q_iret E G (by unfold f_X10_uncard; simp only [if_neg h1, pr_eta]) dX10_uncard_16

def f_X10_rename (S : SS) (x1 : Int32) (x2 : Int32) : Int32 × SS := if wj x1 0 9 = true then (if (S.1 18 0 x1.toNatClampNeg) = (-1) then (f_X10_fails S 1) else (if (S.1 18 5 (S.1 18 0 x1.toNatClampNeg).toNatClampNeg) = 0 then (f_X10_fails S 1) else (f_X10_says (uI S 18 6 (S.1 18 0 x1.toNatClampNeg).toNatClampNeg x2) 1))) else (f_X10_refuses S (-2))
set_option maxHeartbeats 4000000 in
set_option maxRecDepth 100000 in
theorem k_X10_rename (l : Launch) (D : va_G) (cy : Nat → ClassId) (sz : Nat) (ad : Nat → Nat → Nat) (n : Nat) (S : SS) (ok : okM S) (x1 : Int32) (x2 : Int32) : CI l yX10_rename cX10_rename 3 (some .int) 1 22 [.ref (ad 17 0), .int x1, .int x2] D cy sz ad n S (f_X10_rename S x1 x2) := by
  refine Met.enter (by decide) (Nat.le_of_ble_eq_true rfl) (fun p e s m args below meth c ls E G hl => ?_)
  have E : En p s m args meth c cX10_rename 3 (some .int) RX10 D cy sz := E
  obtain ⟨hx, hb, hrt, hml, hown, hw, hlk, hK, hF, hsz⟩ := id E
  have hl : lv_has ls 3 [(0, .ref (ad 17 0)), (1, .int x1), (2, .int x2)] := hl
  refine lv_iload_n hx hb dX10_rename_0 rfl (lv_at hl 1 rfl) ?_
  refine lv_iconst (v := 0) hx hb dX10_rename_1 (by decide) ?_
  refine lv_bipush (v := 9) hx hb dX10_rename_2 (by decide) ?_
  by_cases h1 : wj x1 0 9 = true
  · have v2 : vp_in x1 10 := wj_in h1 (by decide) (by decide)
    refine q_cSp E G [] (k_X10_in_t l D cy sz ad n S x1 0 9 h1) tb_489 tb_490 tb_6 tb_491 (nn := 3) (by decide +kernel) ⟨Nat.le_of_ble_eq_true rfl, Nat.le_of_ble_eq_true rfl⟩ rfl hl.1 rfl (Nat.le_of_ble_eq_true rfl) dX10_rename_4 ⟨Nat.zero_le _, Nat.zero_le _⟩ (fun H locs G => ?_)
    refine lv_if_ne (tgt := 17) hx hb dX10_rename_7 (by decide) (fun _ => ?_) (fun h => absurd h (by decide))
    refine lv_aload_n hx hb dX10_rename_17 rfl (lv_at hl 0 rfl) ?_
    refine q_get (index := 7) (ref := "ToolRoomModel") E G inX10 17 0 c17 sg_17 rfl 0 (by decide) tb_421 (Or.inl rfl) rfl dX10_rename_18 ?_
    refine lv_iload_n hx hb dX10_rename_21 rfl (lv_at hl 1 rfl) ?_
    refine q_iald E G 18 0 (c18 0 (by decide)) sa_18_0 v2 dX10_rename_22 ?_
    refine lv_iconst (v := (-1)) hx hb dX10_rename_23 (by decide) ?_
    refine lv_icmp_eq (tgt := 41) hx hb dX10_rename_24 (by decide) (fun h3 => ?_) (fun h3 => ?_)
    · refine lv_aload_n hx hb dX10_rename_41 rfl (lv_at hl 0 rfl) ?_
      refine lv_iconst (v := 1) hx hb dX10_rename_42 (by decide) ?_
      refine q_cV (rest := []) E G 17 0 c17 sg_17 (C := RX10) (T := TX10) (N := 21) rfl (k_X10_fails l D cy sz ad n S 1 (by unfold vp_in; decide)) tb_516 tb_518 tp_10 tb_6 tb_519 (nn := 1) (by decide +kernel) ⟨Nat.le_of_ble_eq_true rfl, Nat.le_of_ble_eq_true rfl⟩ rfl hl.1 rfl (Nat.le_of_ble_eq_true rfl) dX10_rename_43 ⟨Nat.zero_le _, Nat.zero_le _⟩ (fun H locs G => ?_)
      exact q_iret E G (by unfold f_X10_rename; simp only [if_pos h1, if_pos h3, pr_eta]) dX10_rename_46
    · have v4 : vp_in (S.1 18 0 x1.toNatClampNeg) 600 := (ok.1 _ (vp_lt v2)).resolve_left h3
      refine lv_aload_n hx hb dX10_rename_27 rfl (lv_at hl 0 rfl) ?_
      refine q_get (index := 22) (ref := "ToolRoomModel") E G inX10 17 0 c17 sg_17 rfl 5 (by decide) tb_426 (Or.inl rfl) rfl dX10_rename_28 ?_
      refine lv_aload_n hx hb dX10_rename_31 rfl (lv_at hl 0 rfl) ?_
      refine q_get (index := 7) (ref := "ToolRoomModel") E G inX10 17 0 c17 sg_17 rfl 0 (by decide) tb_421 (Or.inl rfl) rfl dX10_rename_32 ?_
      refine lv_iload_n hx hb dX10_rename_35 rfl (lv_at hl 1 rfl) ?_
      refine q_iald E G 18 0 (c18 0 (by decide)) sa_18_0 v2 dX10_rename_36 ?_
      refine q_zald E G 18 5 (c18 5 (by decide)) sa_18_5 v4 dX10_rename_37 ?_
      refine lv_if_ne (tgt := 47) hx hb dX10_rename_38 (by decide) (fun h5 => ?_) (fun h5 => ?_)
      · refine lv_aload_n hx hb dX10_rename_47 rfl (lv_at hl 0 rfl) ?_
        refine q_get (index := 26) (ref := "ToolRoomModel") E G inX10 17 0 c17 sg_17 rfl 6 (by decide) tb_427 (Or.inl rfl) rfl dX10_rename_48 ?_
        refine lv_aload_n hx hb dX10_rename_51 rfl (lv_at hl 0 rfl) ?_
        refine q_get (index := 7) (ref := "ToolRoomModel") E G inX10 17 0 c17 sg_17 rfl 0 (by decide) tb_421 (Or.inl rfl) rfl dX10_rename_52 ?_
        refine lv_iload_n hx hb dX10_rename_55 rfl (lv_at hl 1 rfl) ?_
        refine q_iald E G 18 0 (c18 0 (by decide)) sa_18_0 v2 dX10_rename_56 ?_
        refine lv_iload_n hx hb dX10_rename_57 rfl (lv_at hl 2 rfl) ?_
        refine q_iast E G 18 6 (c18 6 (by decide)) (fun _ => sa_18_6) v4 dX10_rename_58 (fun H locs G => ?_)
        refine lv_aload_n hx hb dX10_rename_59 rfl (lv_at hl 0 rfl) ?_
        refine lv_iconst (v := 1) hx hb dX10_rename_60 (by decide) ?_
        refine q_cV (rest := []) E G 17 0 c17 sg_17 (C := RX10) (T := TX10) (N := 21) rfl (k_X10_says l D cy sz ad n (uI S 18 6 (S.1 18 0 x1.toNatClampNeg).toNatClampNeg x2) 1) tb_496 tb_498 tp_9 tb_6 tb_499 (nn := 1) (by decide +kernel) ⟨Nat.le_of_ble_eq_true rfl, Nat.le_of_ble_eq_true rfl⟩ rfl hl.1 rfl (Nat.le_of_ble_eq_true rfl) dX10_rename_61 ⟨Nat.zero_le _, Nat.zero_le _⟩ (fun H locs G => ?_)
        exact q_iret E G (by unfold f_X10_rename; simp only [if_pos h1, if_neg h3, if_neg h5, pr_eta]) dX10_rename_64
      · refine lv_aload_n hx hb dX10_rename_41 rfl (lv_at hl 0 rfl) ?_
        refine lv_iconst (v := 1) hx hb dX10_rename_42 (by decide) ?_
        refine q_cV (rest := []) E G 17 0 c17 sg_17 (C := RX10) (T := TX10) (N := 21) rfl (k_X10_fails l D cy sz ad n S 1 (by unfold vp_in; decide)) tb_516 tb_518 tp_10 tb_6 tb_519 (nn := 1) (by decide +kernel) ⟨Nat.le_of_ble_eq_true rfl, Nat.le_of_ble_eq_true rfl⟩ rfl hl.1 rfl (Nat.le_of_ble_eq_true rfl) dX10_rename_43 ⟨Nat.zero_le _, Nat.zero_le _⟩ (fun H locs G => ?_)
        exact q_iret E G (by unfold f_X10_rename; simp only [if_pos h1, if_neg h3, if_pos h5, pr_eta]) dX10_rename_46
  · refine q_cSp E G [] (k_X10_in_f l D cy sz ad n S x1 0 9 h1) tb_489 tb_490 tb_6 tb_491 (nn := 3) (by decide +kernel) ⟨Nat.le_of_ble_eq_true rfl, Nat.le_of_ble_eq_true rfl⟩ rfl hl.1 rfl (Nat.le_of_ble_eq_true rfl) dX10_rename_4 ⟨Nat.zero_le _, Nat.zero_le _⟩ (fun H locs G => ?_)
    refine lv_if_ne (tgt := 17) hx hb dX10_rename_7 (by decide) (fun h => absurd h (by decide)) (fun _ => ?_)
    refine lv_aload_n hx hb dX10_rename_10 rfl (lv_at hl 0 rfl) ?_
    refine lv_bipush (v := (-2)) hx hb dX10_rename_11 (by decide) ?_
    refine q_cV (rest := []) E G 17 0 c17 sg_17 (C := RX10) (T := TX10) (N := 21) rfl (k_X10_refuses l D cy sz ad n S (-2)) tb_492 tb_494 tp_8 tb_6 tb_495 (nn := 1) (by decide +kernel) ⟨Nat.le_of_ble_eq_true rfl, Nat.le_of_ble_eq_true rfl⟩ rfl hl.1 rfl (Nat.le_of_ble_eq_true rfl) dX10_rename_13 ⟨Nat.zero_le _, Nat.zero_le _⟩ (fun H locs G => ?_)
    exact q_iret E G (by unfold f_X10_rename; simp only [if_neg h1, pr_eta]) dX10_rename_16

def f_X10_of (S : SS) (x1 : Int32) (x2 : Int32) : Int32 × SS := if wj x1 0 9 = true then (if wj x2 0 3 = true then (if (S.1 18 0 x1.toNatClampNeg) = (-1) then (0, (f_X10_fails (uI S 17 0 17 0) 1).2) else (if x2 = 0 then (if (S.1 18 5 (S.1 18 0 x1.toNatClampNeg).toNatClampNeg) = 0 then (0, (f_X10_fails (uI S 17 0 17 0) 1).2) else (if x2 = 3 then (if (pB (S.1 18 2 (S.1 18 0 x1.toNatClampNeg).toNatClampNeg)) = 0 then (0, (f_X10_fails (uI S 17 0 17 0) 4).2) else ((S.1 18 6 (S.1 18 0 x1.toNatClampNeg).toNatClampNeg), (uI S 17 0 17 0))) else ((S.1 18 6 (S.1 18 0 x1.toNatClampNeg).toNatClampNeg), (uI S 17 0 17 0)))) else (if x2 = 3 then (if (pB (S.1 18 2 (S.1 18 0 x1.toNatClampNeg).toNatClampNeg)) = 0 then (0, (f_X10_fails (uI S 17 0 17 0) 4).2) else (if x2 = 1 then ((S.1 18 3 (S.1 18 0 x1.toNatClampNeg).toNatClampNeg), (uI S 17 0 17 0)) else (if x2 = 2 then ((mW (uI S 17 0 17 0) (S.1 18 0 x1.toNatClampNeg)), (uI S 17 0 17 0)) else ((S.1 18 4 (S.1 18 0 x1.toNatClampNeg).toNatClampNeg), (uI S 17 0 17 0))))) else (if x2 = 1 then ((S.1 18 3 (S.1 18 0 x1.toNatClampNeg).toNatClampNeg), (uI S 17 0 17 0)) else (if x2 = 2 then ((mW (uI S 17 0 17 0) (S.1 18 0 x1.toNatClampNeg)), (uI S 17 0 17 0)) else ((S.1 18 4 (S.1 18 0 x1.toNatClampNeg).toNatClampNeg), (uI S 17 0 17 0))))))) else (0, (uI S 17 0 17 (-3)))) else (0, (uI S 17 0 17 (-2)))
set_option maxHeartbeats 4000000 in
set_option maxRecDepth 100000 in
theorem k_X10_of (l : Launch) (D : va_G) (cy : Nat → ClassId) (sz : Nat) (ad : Nat → Nat → Nat) (n : Nat) (S : SS) (ok : okM S) (x1 : Int32) (x2 : Int32) : CI l yX10_of cX10_of 5 (some .int) 1 22 [.ref (ad 17 0), .int x1, .int x2] D cy sz ad n S (f_X10_of S x1 x2) := by
  refine Met.enter (by decide) (Nat.le_of_ble_eq_true rfl) (fun p e s m args below meth c ls E G hl => ?_)
  have E : En p s m args meth c cX10_of 5 (some .int) RX10 D cy sz := E
  obtain ⟨hx, hb, hrt, hml, hown, hw, hlk, hK, hF, hsz⟩ := id E
  have hl : lv_has ls 5 [(0, .ref (ad 17 0)), (1, .int x1), (2, .int x2)] := hl
  refine lv_aload_n hx hb dX10_of_0 rfl (lv_at hl 0 rfl) ?_
  refine lv_iload_n hx hb dX10_of_1 rfl (lv_at hl 1 rfl) ?_
  refine lv_iconst (v := 0) hx hb dX10_of_2 (by decide) ?_
  refine lv_bipush (v := 9) hx hb dX10_of_3 (by decide) ?_
  by_cases h1 : wj x1 0 9 = true
  · have v2 : vp_in x1 10 := wj_in h1 (by decide) (by decide)
    refine q_cSp E G [.ref (ad 17 0)] (k_X10_in_t l D cy sz ad n S x1 0 9 h1) tb_489 tb_490 tb_6 tb_491 (nn := 3) (by decide +kernel) ⟨Nat.le_of_ble_eq_true rfl, Nat.le_of_ble_eq_true rfl⟩ rfl hl.1 rfl (Nat.le_of_ble_eq_true rfl) dX10_of_5 ⟨Nat.zero_le _, Nat.zero_le _⟩ (fun H locs G => ?_)
    refine lv_if_ne (tgt := 16) hx hb dX10_of_8 (by decide) (fun _ => ?_) (fun h => absurd h (by decide))
    refine lv_iload_n hx hb dX10_of_16 rfl (lv_at hl 2 rfl) ?_
    refine lv_iconst (v := 0) hx hb dX10_of_17 (by decide) ?_
    refine lv_iconst (v := 3) hx hb dX10_of_18 (by decide) ?_
    by_cases h3 : wj x2 0 3 = true
    · have v4 : vp_in x2 4 := wj_in h3 (by decide) (by decide)
      refine q_cSp E G [.ref (ad 17 0)] (k_X10_in_t l D cy sz ad n S x2 0 3 h3) tb_489 tb_490 tb_6 tb_491 (nn := 3) (by decide +kernel) ⟨Nat.le_of_ble_eq_true rfl, Nat.le_of_ble_eq_true rfl⟩ rfl hl.1 rfl (Nat.le_of_ble_eq_true rfl) dX10_of_19 ⟨Nat.zero_le _, Nat.zero_le _⟩ (fun H locs G => ?_)
      refine lv_if_ne (tgt := 30) hx hb dX10_of_22 (by decide) (fun _ => ?_) (fun h => absurd h (by decide))
      refine lv_iconst (v := 0) hx hb dX10_of_30 (by decide) ?_
      refine q_put (index := 62) (ref := "ToolRoomModel") E G inX10 tyX10 tyX10_ok nmX10 17 0 c17 17 sg_17 rfl 17 (by decide) tb_438 (Or.inl rfl) rfl (ty := .int) (by decide +kernel) rfl rfl (Nat.le_of_ble_eq_true rfl) sp_17_17 dX10_of_31 (fun H locs G => ?_)
      refine lv_aload_n hx hb dX10_of_34 rfl (lv_at hl 0 rfl) ?_
      refine q_get (index := 62) (ref := "ToolRoomModel") E G inX10 17 0 c17 sg_17 rfl 17 (by decide) tb_438 (Or.inl rfl) rfl dX10_of_35 ?_
      rw [uI_self]
      refine lv_if_eq (tgt := 43) hx hb dX10_of_38 (by decide) (fun _ => ?_) (fun h => absurd h (by decide))
      refine lv_aload_n hx hb dX10_of_43 rfl (lv_at hl 0 rfl) ?_
      refine q_get (index := 7) (ref := "ToolRoomModel") E G inX10 17 0 c17 sg_17 rfl 0 (by decide) tb_421 (Or.inl rfl) rfl dX10_of_44 ?_
      refine lv_iload_n hx hb dX10_of_47 rfl (lv_at hl 1 rfl) ?_
      refine q_iald E G 18 0 (c18 0 (by decide)) sa_18_0 v2 dX10_of_48 ?_
      rw [uI_nf (by decide)]
      refine lv_istore_n (lv' := [(3, .int (S.1 18 0 x1.toNatClampNeg)), (0, .ref (ad 17 0)), (1, .int x1), (2, .int x2)]) hx hb dX10_of_49 rfl hl (by decide) rfl (fun ls hl => ?_)
      refine lv_iload_n hx hb dX10_of_50 rfl (lv_at hl 0 rfl) ?_
      refine lv_iconst (v := (-1)) hx hb dX10_of_51 (by decide) ?_
      refine lv_icmp_eq (tgt := 68) hx hb dX10_of_52 (by decide) (fun h5 => ?_) (fun h5 => ?_)
      · refine lv_iconst (v := 1) hx hb dX10_of_68 (by decide) ?_
        refine lv_goto (tgt := 94) hx hb dX10_of_69 (by decide) ?_
        refine lv_istore (lv' := [(4, .int 1), (3, .int (S.1 18 0 x1.toNatClampNeg)), (0, .ref (ad 17 0)), (1, .int x1), (2, .int x2)]) hx hb dX10_of_94 hl (by decide) rfl (fun ls hl => ?_)
        refine lv_iload hx hb dX10_of_96 (lv_at hl 0 rfl) ?_
        refine lv_if_eq (tgt := 111) hx hb dX10_of_98 (by decide) (fun h => absurd h (by decide)) (fun _ => ?_)
        refine lv_aload_n hx hb dX10_of_101 rfl (lv_at hl 2 rfl) ?_
        refine lv_iload hx hb dX10_of_102 (lv_at hl 0 rfl) ?_
        refine q_cV (rest := []) E G 17 0 c17 sg_17 (C := RX10) (T := TX10) (N := 21) rfl (k_X10_fails l D cy sz ad n (uI S 17 0 17 0) 1 (by unfold vp_in; decide)) tb_516 tb_518 tp_10 tb_6 tb_519 (nn := 1) (by decide +kernel) ⟨Nat.le_of_ble_eq_true rfl, Nat.le_of_ble_eq_true rfl⟩ rfl hl.1 rfl (Nat.le_of_ble_eq_true rfl) dX10_of_104 ⟨Nat.zero_le _, Nat.zero_le _⟩ (fun H locs G => ?_)
        refine lv_istore (lv' := [(4, .int (f_X10_fails (uI S 17 0 17 0) 1).1), (3, .int (S.1 18 0 x1.toNatClampNeg)), (0, .ref (ad 17 0)), (1, .int x1), (2, .int x2)]) hx hb dX10_of_107 hl (by decide) rfl (fun ls hl => ?_)
        refine lv_iconst (v := 0) hx hb dX10_of_109 (by decide) ?_
        exact q_iret E G (by unfold f_X10_of; simp only [if_pos h1, if_pos h3, if_pos h5, pr_eta]) dX10_of_110
      · have v6 : vp_in (S.1 18 0 x1.toNatClampNeg) 600 := (ok.1 _ (vp_lt v2)).resolve_left h5
        refine lv_iload_n hx hb dX10_of_55 rfl (lv_at hl 3 rfl) ?_
        refine lv_if_ne (tgt := 72) hx hb dX10_of_56 (by decide) (fun h7 => ?_) (fun h7 => ?_)
        · refine lv_iload_n hx hb dX10_of_72 rfl (lv_at hl 3 rfl) ?_
          refine lv_iconst (v := 3) hx hb dX10_of_73 (by decide) ?_
          refine lv_icmp_ne (tgt := 93) hx hb dX10_of_74 (by decide) (fun h8 => ?_) (fun h8 => ?_)
          · refine lv_iconst (v := 0) hx hb dX10_of_93 (by decide) ?_
            refine lv_istore (lv' := [(4, .int 0), (3, .int (S.1 18 0 x1.toNatClampNeg)), (0, .ref (ad 17 0)), (1, .int x1), (2, .int x2)]) hx hb dX10_of_94 hl (by decide) rfl (fun ls hl => ?_)
            refine lv_iload hx hb dX10_of_96 (lv_at hl 0 rfl) ?_
            refine lv_if_eq (tgt := 111) hx hb dX10_of_98 (by decide) (fun _ => ?_) (fun h => absurd h (by decide))
            refine lv_iload_n hx hb dX10_of_111 rfl (lv_at hl 4 rfl) ?_
            refine lv_if_ne (tgt := 124) hx hb dX10_of_112 (by decide) (fun _ => ?_) (fun h => absurd h h7)
            refine lv_iload_n hx hb dX10_of_124 rfl (lv_at hl 4 rfl) ?_
            refine lv_iconst (v := 1) hx hb dX10_of_125 (by decide) ?_
            refine lv_icmp_ne (tgt := 138) hx hb dX10_of_126 (by decide) (fun h9 => ?_) (fun h9 => ?_)
            · refine lv_iload_n hx hb dX10_of_138 rfl (lv_at hl 4 rfl) ?_
              refine lv_iconst (v := 2) hx hb dX10_of_139 (by decide) ?_
              refine lv_icmp_ne (tgt := 151) hx hb dX10_of_140 (by decide) (fun h10 => ?_) (fun h10 => ?_)
              · refine lv_aload_n hx hb dX10_of_151 rfl (lv_at hl 2 rfl) ?_
                refine q_get (index := 19) (ref := "ToolRoomModel") E G inX10 17 0 c17 sg_17 rfl 4 (by decide) tb_425 (Or.inl rfl) rfl dX10_of_152 ?_
                refine lv_iload_n hx hb dX10_of_155 rfl (lv_at hl 1 rfl) ?_
                refine q_iald E G 18 4 (c18 4 (by decide)) sa_18_4 v6 dX10_of_156 ?_
                rw [uI_nf (by decide)]
                exact q_iret E G (by unfold f_X10_of; simp only [if_pos h1, if_pos h3, if_neg h5, if_neg h7, if_neg h8, if_neg h9, if_neg h10, pr_eta]) dX10_of_157
              · refine lv_aload_n hx hb dX10_of_143 rfl (lv_at hl 2 rfl) ?_
                refine lv_iload_n hx hb dX10_of_144 rfl (lv_at hl 1 rfl) ?_
                refine q_cVp E G 17 0 c17 sg_17 (C := RX10) (T := TX10) (N := 21) rfl [] (k_X10_weight l D cy sz ad n (uI S 17 0 17 0) (S.1 18 0 x1.toNatClampNeg) v6) tb_535 tb_537 tp_11 tb_6 tb_538 (nn := 1) (by decide +kernel) ⟨Nat.le_of_ble_eq_true rfl, Nat.le_of_ble_eq_true rfl⟩ rfl hl.1 rfl (Nat.le_of_ble_eq_true rfl) dX10_of_145 ⟨Nat.zero_le _, Nat.zero_le _⟩ (fun H locs G => ?_)
                refine lv_goto (tgt := 157) hx hb dX10_of_148 (by decide) ?_
                exact q_iret E G (by unfold f_X10_of; simp only [if_pos h1, if_pos h3, if_neg h5, if_neg h7, if_neg h8, if_neg h9, if_pos h10, pr_eta]) dX10_of_157
            · refine lv_aload_n hx hb dX10_of_129 rfl (lv_at hl 2 rfl) ?_
              refine q_get (index := 16) (ref := "ToolRoomModel") E G inX10 17 0 c17 sg_17 rfl 3 (by decide) tb_424 (Or.inl rfl) rfl dX10_of_130 ?_
              refine lv_iload_n hx hb dX10_of_133 rfl (lv_at hl 1 rfl) ?_
              refine q_iald E G 18 3 (c18 3 (by decide)) sa_18_3 v6 dX10_of_134 ?_
              rw [uI_nf (by decide)]
              refine lv_goto (tgt := 157) hx hb dX10_of_135 (by decide) ?_
              exact q_iret E G (by unfold f_X10_of; simp only [if_pos h1, if_pos h3, if_neg h5, if_neg h7, if_neg h8, if_pos h9, pr_eta]) dX10_of_157
          · refine lv_aload_n hx hb dX10_of_77 rfl (lv_at hl 1 rfl) ?_
            refine q_get (index := 13) (ref := "ToolRoomModel") E G inX10 17 0 c17 sg_17 rfl 2 (by decide) tb_423 (Or.inl rfl) rfl dX10_of_78 ?_
            refine lv_iload_n hx hb dX10_of_81 rfl (lv_at hl 0 rfl) ?_
            refine q_iald E G 18 2 (c18 2 (by decide)) sa_18_2 v6 dX10_of_82 ?_
            rw [uI_nf (by decide)]
            refine q_cSp E G [] (k_X10_isBlade l D cy sz ad n (uI S 17 0 17 0) (S.1 18 2 (S.1 18 0 x1.toNatClampNeg).toNatClampNeg)) tb_532 tb_533 tb_6 tb_534 (nn := 1) (by decide +kernel) ⟨Nat.le_of_ble_eq_true rfl, Nat.le_of_ble_eq_true rfl⟩ rfl hl.1 rfl (Nat.le_of_ble_eq_true rfl) dX10_of_83 ⟨Nat.zero_le _, Nat.zero_le _⟩ (fun H locs G => ?_)
            refine lv_if_ne (tgt := 93) hx hb dX10_of_86 (by decide) (fun h11 => ?_) (fun h11 => ?_)
            · refine lv_iconst (v := 0) hx hb dX10_of_93 (by decide) ?_
              refine lv_istore (lv' := [(4, .int 0), (3, .int (S.1 18 0 x1.toNatClampNeg)), (0, .ref (ad 17 0)), (1, .int x1), (2, .int x2)]) hx hb dX10_of_94 hl (by decide) rfl (fun ls hl => ?_)
              refine lv_iload hx hb dX10_of_96 (lv_at hl 0 rfl) ?_
              refine lv_if_eq (tgt := 111) hx hb dX10_of_98 (by decide) (fun _ => ?_) (fun h => absurd h (by decide))
              refine lv_iload_n hx hb dX10_of_111 rfl (lv_at hl 4 rfl) ?_
              refine lv_if_ne (tgt := 124) hx hb dX10_of_112 (by decide) (fun _ => ?_) (fun h => absurd h h7)
              refine lv_iload_n hx hb dX10_of_124 rfl (lv_at hl 4 rfl) ?_
              refine lv_iconst (v := 1) hx hb dX10_of_125 (by decide) ?_
              refine lv_icmp_ne (tgt := 138) hx hb dX10_of_126 (by decide) (fun h12 => ?_) (fun h12 => ?_)
              · refine lv_iload_n hx hb dX10_of_138 rfl (lv_at hl 4 rfl) ?_
                refine lv_iconst (v := 2) hx hb dX10_of_139 (by decide) ?_
                refine lv_icmp_ne (tgt := 151) hx hb dX10_of_140 (by decide) (fun h13 => ?_) (fun h13 => ?_)
                · refine lv_aload_n hx hb dX10_of_151 rfl (lv_at hl 2 rfl) ?_
                  refine q_get (index := 19) (ref := "ToolRoomModel") E G inX10 17 0 c17 sg_17 rfl 4 (by decide) tb_425 (Or.inl rfl) rfl dX10_of_152 ?_
                  refine lv_iload_n hx hb dX10_of_155 rfl (lv_at hl 1 rfl) ?_
                  refine q_iald E G 18 4 (c18 4 (by decide)) sa_18_4 v6 dX10_of_156 ?_
                  rw [uI_nf (by decide)]
                  exact q_iret E G (by unfold f_X10_of; simp only [if_pos h1, if_pos h3, if_neg h5, if_neg h7, if_pos h8, if_neg h11, if_neg h12, if_neg h13, pr_eta]) dX10_of_157
                · refine lv_aload_n hx hb dX10_of_143 rfl (lv_at hl 2 rfl) ?_
                  refine lv_iload_n hx hb dX10_of_144 rfl (lv_at hl 1 rfl) ?_
                  refine q_cVp E G 17 0 c17 sg_17 (C := RX10) (T := TX10) (N := 21) rfl [] (k_X10_weight l D cy sz ad n (uI S 17 0 17 0) (S.1 18 0 x1.toNatClampNeg) v6) tb_535 tb_537 tp_11 tb_6 tb_538 (nn := 1) (by decide +kernel) ⟨Nat.le_of_ble_eq_true rfl, Nat.le_of_ble_eq_true rfl⟩ rfl hl.1 rfl (Nat.le_of_ble_eq_true rfl) dX10_of_145 ⟨Nat.zero_le _, Nat.zero_le _⟩ (fun H locs G => ?_)
                  refine lv_goto (tgt := 157) hx hb dX10_of_148 (by decide) ?_
                  exact q_iret E G (by unfold f_X10_of; simp only [if_pos h1, if_pos h3, if_neg h5, if_neg h7, if_pos h8, if_neg h11, if_neg h12, if_pos h13, pr_eta]) dX10_of_157
              · refine lv_aload_n hx hb dX10_of_129 rfl (lv_at hl 2 rfl) ?_
                refine q_get (index := 16) (ref := "ToolRoomModel") E G inX10 17 0 c17 sg_17 rfl 3 (by decide) tb_424 (Or.inl rfl) rfl dX10_of_130 ?_
                refine lv_iload_n hx hb dX10_of_133 rfl (lv_at hl 1 rfl) ?_
                refine q_iald E G 18 3 (c18 3 (by decide)) sa_18_3 v6 dX10_of_134 ?_
                rw [uI_nf (by decide)]
                refine lv_goto (tgt := 157) hx hb dX10_of_135 (by decide) ?_
                exact q_iret E G (by unfold f_X10_of; simp only [if_pos h1, if_pos h3, if_neg h5, if_neg h7, if_pos h8, if_neg h11, if_pos h12, pr_eta]) dX10_of_157
            · refine lv_iconst (v := 4) hx hb dX10_of_89 (by decide) ?_
              refine lv_goto (tgt := 94) hx hb dX10_of_90 (by decide) ?_
              refine lv_istore (lv' := [(4, .int 4), (3, .int (S.1 18 0 x1.toNatClampNeg)), (0, .ref (ad 17 0)), (1, .int x1), (2, .int x2)]) hx hb dX10_of_94 hl (by decide) rfl (fun ls hl => ?_)
              refine lv_iload hx hb dX10_of_96 (lv_at hl 0 rfl) ?_
              refine lv_if_eq (tgt := 111) hx hb dX10_of_98 (by decide) (fun h => absurd h (by decide)) (fun _ => ?_)
              refine lv_aload_n hx hb dX10_of_101 rfl (lv_at hl 2 rfl) ?_
              refine lv_iload hx hb dX10_of_102 (lv_at hl 0 rfl) ?_
              refine q_cV (rest := []) E G 17 0 c17 sg_17 (C := RX10) (T := TX10) (N := 21) rfl (k_X10_fails l D cy sz ad n (uI S 17 0 17 0) 4 (by unfold vp_in; decide)) tb_516 tb_518 tp_10 tb_6 tb_519 (nn := 1) (by decide +kernel) ⟨Nat.le_of_ble_eq_true rfl, Nat.le_of_ble_eq_true rfl⟩ rfl hl.1 rfl (Nat.le_of_ble_eq_true rfl) dX10_of_104 ⟨Nat.zero_le _, Nat.zero_le _⟩ (fun H locs G => ?_)
              refine lv_istore (lv' := [(4, .int (f_X10_fails (uI S 17 0 17 0) 4).1), (3, .int (S.1 18 0 x1.toNatClampNeg)), (0, .ref (ad 17 0)), (1, .int x1), (2, .int x2)]) hx hb dX10_of_107 hl (by decide) rfl (fun ls hl => ?_)
              refine lv_iconst (v := 0) hx hb dX10_of_109 (by decide) ?_
              exact q_iret E G (by unfold f_X10_of; simp only [if_pos h1, if_pos h3, if_neg h5, if_neg h7, if_pos h8, if_pos h11, pr_eta]) dX10_of_110
        · refine lv_aload_n hx hb dX10_of_59 rfl (lv_at hl 1 rfl) ?_
          refine q_get (index := 22) (ref := "ToolRoomModel") E G inX10 17 0 c17 sg_17 rfl 5 (by decide) tb_426 (Or.inl rfl) rfl dX10_of_60 ?_
          refine lv_iload_n hx hb dX10_of_63 rfl (lv_at hl 0 rfl) ?_
          refine q_zald E G 18 5 (c18 5 (by decide)) sa_18_5 v6 dX10_of_64 ?_
          rw [uI_nf (by decide)]
          refine lv_if_ne (tgt := 72) hx hb dX10_of_65 (by decide) (fun h14 => ?_) (fun h14 => ?_)
          · refine lv_iload_n hx hb dX10_of_72 rfl (lv_at hl 3 rfl) ?_
            refine lv_iconst (v := 3) hx hb dX10_of_73 (by decide) ?_
            refine lv_icmp_ne (tgt := 93) hx hb dX10_of_74 (by decide) (fun h15 => ?_) (fun h15 => ?_)
            · refine lv_iconst (v := 0) hx hb dX10_of_93 (by decide) ?_
              refine lv_istore (lv' := [(4, .int 0), (3, .int (S.1 18 0 x1.toNatClampNeg)), (0, .ref (ad 17 0)), (1, .int x1), (2, .int x2)]) hx hb dX10_of_94 hl (by decide) rfl (fun ls hl => ?_)
              refine lv_iload hx hb dX10_of_96 (lv_at hl 0 rfl) ?_
              refine lv_if_eq (tgt := 111) hx hb dX10_of_98 (by decide) (fun _ => ?_) (fun h => absurd h (by decide))
              refine lv_iload_n hx hb dX10_of_111 rfl (lv_at hl 4 rfl) ?_
              refine lv_if_ne (tgt := 124) hx hb dX10_of_112 (by decide) (fun h => absurd h7 h) (fun _ => ?_)
              refine lv_aload_n hx hb dX10_of_115 rfl (lv_at hl 2 rfl) ?_
              refine q_get (index := 26) (ref := "ToolRoomModel") E G inX10 17 0 c17 sg_17 rfl 6 (by decide) tb_427 (Or.inl rfl) rfl dX10_of_116 ?_
              refine lv_iload_n hx hb dX10_of_119 rfl (lv_at hl 1 rfl) ?_
              refine q_iald E G 18 6 (c18 6 (by decide)) sa_18_6 v6 dX10_of_120 ?_
              rw [uI_nf (by decide)]
              refine lv_goto (tgt := 157) hx hb dX10_of_121 (by decide) ?_
              exact q_iret E G (by unfold f_X10_of; simp only [if_pos h1, if_pos h3, if_neg h5, if_pos h7, if_neg h14, if_neg h15, pr_eta]) dX10_of_157
            · refine lv_aload_n hx hb dX10_of_77 rfl (lv_at hl 1 rfl) ?_
              refine q_get (index := 13) (ref := "ToolRoomModel") E G inX10 17 0 c17 sg_17 rfl 2 (by decide) tb_423 (Or.inl rfl) rfl dX10_of_78 ?_
              refine lv_iload_n hx hb dX10_of_81 rfl (lv_at hl 0 rfl) ?_
              refine q_iald E G 18 2 (c18 2 (by decide)) sa_18_2 v6 dX10_of_82 ?_
              rw [uI_nf (by decide)]
              refine q_cSp E G [] (k_X10_isBlade l D cy sz ad n (uI S 17 0 17 0) (S.1 18 2 (S.1 18 0 x1.toNatClampNeg).toNatClampNeg)) tb_532 tb_533 tb_6 tb_534 (nn := 1) (by decide +kernel) ⟨Nat.le_of_ble_eq_true rfl, Nat.le_of_ble_eq_true rfl⟩ rfl hl.1 rfl (Nat.le_of_ble_eq_true rfl) dX10_of_83 ⟨Nat.zero_le _, Nat.zero_le _⟩ (fun H locs G => ?_)
              refine lv_if_ne (tgt := 93) hx hb dX10_of_86 (by decide) (fun h16 => ?_) (fun h16 => ?_)
              · refine lv_iconst (v := 0) hx hb dX10_of_93 (by decide) ?_
                refine lv_istore (lv' := [(4, .int 0), (3, .int (S.1 18 0 x1.toNatClampNeg)), (0, .ref (ad 17 0)), (1, .int x1), (2, .int x2)]) hx hb dX10_of_94 hl (by decide) rfl (fun ls hl => ?_)
                refine lv_iload hx hb dX10_of_96 (lv_at hl 0 rfl) ?_
                refine lv_if_eq (tgt := 111) hx hb dX10_of_98 (by decide) (fun _ => ?_) (fun h => absurd h (by decide))
                refine lv_iload_n hx hb dX10_of_111 rfl (lv_at hl 4 rfl) ?_
                refine lv_if_ne (tgt := 124) hx hb dX10_of_112 (by decide) (fun h => absurd h7 h) (fun _ => ?_)
                refine lv_aload_n hx hb dX10_of_115 rfl (lv_at hl 2 rfl) ?_
                refine q_get (index := 26) (ref := "ToolRoomModel") E G inX10 17 0 c17 sg_17 rfl 6 (by decide) tb_427 (Or.inl rfl) rfl dX10_of_116 ?_
                refine lv_iload_n hx hb dX10_of_119 rfl (lv_at hl 1 rfl) ?_
                refine q_iald E G 18 6 (c18 6 (by decide)) sa_18_6 v6 dX10_of_120 ?_
                rw [uI_nf (by decide)]
                refine lv_goto (tgt := 157) hx hb dX10_of_121 (by decide) ?_
                exact q_iret E G (by unfold f_X10_of; simp only [if_pos h1, if_pos h3, if_neg h5, if_pos h7, if_neg h14, if_pos h15, if_neg h16, pr_eta]) dX10_of_157
              · refine lv_iconst (v := 4) hx hb dX10_of_89 (by decide) ?_
                refine lv_goto (tgt := 94) hx hb dX10_of_90 (by decide) ?_
                refine lv_istore (lv' := [(4, .int 4), (3, .int (S.1 18 0 x1.toNatClampNeg)), (0, .ref (ad 17 0)), (1, .int x1), (2, .int x2)]) hx hb dX10_of_94 hl (by decide) rfl (fun ls hl => ?_)
                refine lv_iload hx hb dX10_of_96 (lv_at hl 0 rfl) ?_
                refine lv_if_eq (tgt := 111) hx hb dX10_of_98 (by decide) (fun h => absurd h (by decide)) (fun _ => ?_)
                refine lv_aload_n hx hb dX10_of_101 rfl (lv_at hl 2 rfl) ?_
                refine lv_iload hx hb dX10_of_102 (lv_at hl 0 rfl) ?_
                refine q_cV (rest := []) E G 17 0 c17 sg_17 (C := RX10) (T := TX10) (N := 21) rfl (k_X10_fails l D cy sz ad n (uI S 17 0 17 0) 4 (by unfold vp_in; decide)) tb_516 tb_518 tp_10 tb_6 tb_519 (nn := 1) (by decide +kernel) ⟨Nat.le_of_ble_eq_true rfl, Nat.le_of_ble_eq_true rfl⟩ rfl hl.1 rfl (Nat.le_of_ble_eq_true rfl) dX10_of_104 ⟨Nat.zero_le _, Nat.zero_le _⟩ (fun H locs G => ?_)
                refine lv_istore (lv' := [(4, .int (f_X10_fails (uI S 17 0 17 0) 4).1), (3, .int (S.1 18 0 x1.toNatClampNeg)), (0, .ref (ad 17 0)), (1, .int x1), (2, .int x2)]) hx hb dX10_of_107 hl (by decide) rfl (fun ls hl => ?_)
                refine lv_iconst (v := 0) hx hb dX10_of_109 (by decide) ?_
                exact q_iret E G (by unfold f_X10_of; simp only [if_pos h1, if_pos h3, if_neg h5, if_pos h7, if_neg h14, if_pos h15, if_pos h16, pr_eta]) dX10_of_110
          · refine lv_iconst (v := 1) hx hb dX10_of_68 (by decide) ?_
            refine lv_goto (tgt := 94) hx hb dX10_of_69 (by decide) ?_
            refine lv_istore (lv' := [(4, .int 1), (3, .int (S.1 18 0 x1.toNatClampNeg)), (0, .ref (ad 17 0)), (1, .int x1), (2, .int x2)]) hx hb dX10_of_94 hl (by decide) rfl (fun ls hl => ?_)
            refine lv_iload hx hb dX10_of_96 (lv_at hl 0 rfl) ?_
            refine lv_if_eq (tgt := 111) hx hb dX10_of_98 (by decide) (fun h => absurd h (by decide)) (fun _ => ?_)
            refine lv_aload_n hx hb dX10_of_101 rfl (lv_at hl 2 rfl) ?_
            refine lv_iload hx hb dX10_of_102 (lv_at hl 0 rfl) ?_
            refine q_cV (rest := []) E G 17 0 c17 sg_17 (C := RX10) (T := TX10) (N := 21) rfl (k_X10_fails l D cy sz ad n (uI S 17 0 17 0) 1 (by unfold vp_in; decide)) tb_516 tb_518 tp_10 tb_6 tb_519 (nn := 1) (by decide +kernel) ⟨Nat.le_of_ble_eq_true rfl, Nat.le_of_ble_eq_true rfl⟩ rfl hl.1 rfl (Nat.le_of_ble_eq_true rfl) dX10_of_104 ⟨Nat.zero_le _, Nat.zero_le _⟩ (fun H locs G => ?_)
            refine lv_istore (lv' := [(4, .int (f_X10_fails (uI S 17 0 17 0) 1).1), (3, .int (S.1 18 0 x1.toNatClampNeg)), (0, .ref (ad 17 0)), (1, .int x1), (2, .int x2)]) hx hb dX10_of_107 hl (by decide) rfl (fun ls hl => ?_)
            refine lv_iconst (v := 0) hx hb dX10_of_109 (by decide) ?_
            exact q_iret E G (by unfold f_X10_of; simp only [if_pos h1, if_pos h3, if_neg h5, if_pos h7, if_pos h14, pr_eta]) dX10_of_110
    · refine q_cSp E G [.ref (ad 17 0)] (k_X10_in_f l D cy sz ad n S x2 0 3 h3) tb_489 tb_490 tb_6 tb_491 (nn := 3) (by decide +kernel) ⟨Nat.le_of_ble_eq_true rfl, Nat.le_of_ble_eq_true rfl⟩ rfl hl.1 rfl (Nat.le_of_ble_eq_true rfl) dX10_of_19 ⟨Nat.zero_le _, Nat.zero_le _⟩ (fun H locs G => ?_)
      refine lv_if_ne (tgt := 30) hx hb dX10_of_22 (by decide) (fun h => absurd h (by decide)) (fun _ => ?_)
      refine lv_bipush (v := (-3)) hx hb dX10_of_25 (by decide) ?_
      refine lv_goto (tgt := 31) hx hb dX10_of_27 (by decide) ?_
      refine q_put (index := 62) (ref := "ToolRoomModel") E G inX10 tyX10 tyX10_ok nmX10 17 0 c17 17 sg_17 rfl 17 (by decide) tb_438 (Or.inl rfl) rfl (ty := .int) (by decide +kernel) rfl rfl (Nat.le_of_ble_eq_true rfl) sp_17_17 dX10_of_31 (fun H locs G => ?_)
      refine lv_aload_n hx hb dX10_of_34 rfl (lv_at hl 0 rfl) ?_
      refine q_get (index := 62) (ref := "ToolRoomModel") E G inX10 17 0 c17 sg_17 rfl 17 (by decide) tb_438 (Or.inl rfl) rfl dX10_of_35 ?_
      rw [uI_self]
      refine lv_if_eq (tgt := 43) hx hb dX10_of_38 (by decide) (fun h => absurd h (by decide)) (fun _ => ?_)
      refine lv_iconst (v := 0) hx hb dX10_of_41 (by decide) ?_
      exact q_iret E G (by unfold f_X10_of; simp only [if_pos h1, if_neg h3, pr_eta]) dX10_of_42
  · refine q_cSp E G [.ref (ad 17 0)] (k_X10_in_f l D cy sz ad n S x1 0 9 h1) tb_489 tb_490 tb_6 tb_491 (nn := 3) (by decide +kernel) ⟨Nat.le_of_ble_eq_true rfl, Nat.le_of_ble_eq_true rfl⟩ rfl hl.1 rfl (Nat.le_of_ble_eq_true rfl) dX10_of_5 ⟨Nat.zero_le _, Nat.zero_le _⟩ (fun H locs G => ?_)
    refine lv_if_ne (tgt := 16) hx hb dX10_of_8 (by decide) (fun h => absurd h (by decide)) (fun _ => ?_)
    refine lv_bipush (v := (-2)) hx hb dX10_of_11 (by decide) ?_
    refine lv_goto (tgt := 31) hx hb dX10_of_13 (by decide) ?_
    refine q_put (index := 62) (ref := "ToolRoomModel") E G inX10 tyX10 tyX10_ok nmX10 17 0 c17 17 sg_17 rfl 17 (by decide) tb_438 (Or.inl rfl) rfl (ty := .int) (by decide +kernel) rfl rfl (Nat.le_of_ble_eq_true rfl) sp_17_17 dX10_of_31 (fun H locs G => ?_)
    refine lv_aload_n hx hb dX10_of_34 rfl (lv_at hl 0 rfl) ?_
    refine q_get (index := 62) (ref := "ToolRoomModel") E G inX10 17 0 c17 sg_17 rfl 17 (by decide) tb_438 (Or.inl rfl) rfl dX10_of_35 ?_
    rw [uI_self]
    refine lv_if_eq (tgt := 43) hx hb dX10_of_38 (by decide) (fun h => absurd h (by decide)) (fun _ => ?_)
    refine lv_iconst (v := 0) hx hb dX10_of_41 (by decide) ?_
    exact q_iret E G (by unfold f_X10_of; simp only [if_neg h1, pr_eta]) dX10_of_42

def f_X10_hone (S : SS) (x1 : Int32) (x2 : Int32) : Int32 × SS := if wj x1 0 9 = true then (if (S.1 18 0 x1.toNatClampNeg) = (-1) then (f_X10_fails S 1) else (if (pB (S.1 18 2 (S.1 18 0 x1.toNatClampNeg).toNatClampNeg)) = 0 then (f_X10_fails S 4) else (f_X10_says (uI S 18 4 (S.1 18 0 x1.toNatClampNeg).toNatClampNeg x2) 1))) else (f_X10_refuses S (-2))
set_option maxHeartbeats 4000000 in
set_option maxRecDepth 100000 in
theorem k_X10_hone (l : Launch) (D : va_G) (cy : Nat → ClassId) (sz : Nat) (ad : Nat → Nat → Nat) (n : Nat) (S : SS) (ok : okM S) (x1 : Int32) (x2 : Int32) : CI l yX10_hone cX10_hone 4 (some .int) 1 22 [.ref (ad 17 0), .int x1, .int x2] D cy sz ad n S (f_X10_hone S x1 x2) := by
  refine Met.enter (by decide) (Nat.le_of_ble_eq_true rfl) (fun p e s m args below meth c ls E G hl => ?_)
  have E : En p s m args meth c cX10_hone 4 (some .int) RX10 D cy sz := E
  obtain ⟨hx, hb, hrt, hml, hown, hw, hlk, hK, hF, hsz⟩ := id E
  have hl : lv_has ls 4 [(0, .ref (ad 17 0)), (1, .int x1), (2, .int x2)] := hl
  refine lv_iload_n hx hb dX10_hone_0 rfl (lv_at hl 1 rfl) ?_
  refine lv_iconst (v := 0) hx hb dX10_hone_1 (by decide) ?_
  refine lv_bipush (v := 9) hx hb dX10_hone_2 (by decide) ?_
  by_cases h1 : wj x1 0 9 = true
  · have v2 : vp_in x1 10 := wj_in h1 (by decide) (by decide)
    refine q_cSp E G [] (k_X10_in_t l D cy sz ad n S x1 0 9 h1) tb_489 tb_490 tb_6 tb_491 (nn := 3) (by decide +kernel) ⟨Nat.le_of_ble_eq_true rfl, Nat.le_of_ble_eq_true rfl⟩ rfl hl.1 rfl (Nat.le_of_ble_eq_true rfl) dX10_hone_4 ⟨Nat.zero_le _, Nat.zero_le _⟩ (fun H locs G => ?_)
    refine lv_if_ne (tgt := 17) hx hb dX10_hone_7 (by decide) (fun _ => ?_) (fun h => absurd h (by decide))
    refine lv_aload_n hx hb dX10_hone_17 rfl (lv_at hl 0 rfl) ?_
    refine q_get (index := 7) (ref := "ToolRoomModel") E G inX10 17 0 c17 sg_17 rfl 0 (by decide) tb_421 (Or.inl rfl) rfl dX10_hone_18 ?_
    refine lv_iload_n hx hb dX10_hone_21 rfl (lv_at hl 1 rfl) ?_
    refine q_iald E G 18 0 (c18 0 (by decide)) sa_18_0 v2 dX10_hone_22 ?_
    refine lv_istore_n (lv' := [(3, .int (S.1 18 0 x1.toNatClampNeg)), (0, .ref (ad 17 0)), (1, .int x1), (2, .int x2)]) hx hb dX10_hone_23 rfl hl (by decide) rfl (fun ls hl => ?_)
    refine lv_iload_n hx hb dX10_hone_24 rfl (lv_at hl 0 rfl) ?_
    refine lv_iconst (v := (-1)) hx hb dX10_hone_25 (by decide) ?_
    refine lv_icmp_eq (tgt := 41) hx hb dX10_hone_26 (by decide) (fun h3 => ?_) (fun h3 => ?_)
    · refine lv_aload_n hx hb dX10_hone_41 rfl (lv_at hl 1 rfl) ?_
      refine lv_iload_n hx hb dX10_hone_42 rfl (lv_at hl 0 rfl) ?_
      refine lv_iconst (v := (-1)) hx hb dX10_hone_43 (by decide) ?_
      refine lv_icmp_ne (tgt := 51) hx hb dX10_hone_44 (by decide) (fun h => absurd h3 h) (fun _ => ?_)
      refine lv_iconst (v := 1) hx hb dX10_hone_47 (by decide) ?_
      refine lv_goto (tgt := 52) hx hb dX10_hone_48 (by decide) ?_
      refine q_cV (rest := []) E G 17 0 c17 sg_17 (C := RX10) (T := TX10) (N := 21) rfl (k_X10_fails l D cy sz ad n S 1 (by unfold vp_in; decide)) tb_516 tb_518 tp_10 tb_6 tb_519 (nn := 1) (by decide +kernel) ⟨Nat.le_of_ble_eq_true rfl, Nat.le_of_ble_eq_true rfl⟩ rfl hl.1 rfl (Nat.le_of_ble_eq_true rfl) dX10_hone_52 ⟨Nat.zero_le _, Nat.zero_le _⟩ (fun H locs G => ?_)
      exact q_iret E G (by unfold f_X10_hone; simp only [if_pos h1, if_pos h3, pr_eta]) dX10_hone_55
    · have v4 : vp_in (S.1 18 0 x1.toNatClampNeg) 600 := (ok.1 _ (vp_lt v2)).resolve_left h3
      refine lv_aload_n hx hb dX10_hone_29 rfl (lv_at hl 1 rfl) ?_
      refine q_get (index := 13) (ref := "ToolRoomModel") E G inX10 17 0 c17 sg_17 rfl 2 (by decide) tb_423 (Or.inl rfl) rfl dX10_hone_30 ?_
      refine lv_iload_n hx hb dX10_hone_33 rfl (lv_at hl 0 rfl) ?_
      refine q_iald E G 18 2 (c18 2 (by decide)) sa_18_2 v4 dX10_hone_34 ?_
      refine q_cSp E G [] (k_X10_isBlade l D cy sz ad n S (S.1 18 2 (S.1 18 0 x1.toNatClampNeg).toNatClampNeg)) tb_532 tb_533 tb_6 tb_534 (nn := 1) (by decide +kernel) ⟨Nat.le_of_ble_eq_true rfl, Nat.le_of_ble_eq_true rfl⟩ rfl hl.1 rfl (Nat.le_of_ble_eq_true rfl) dX10_hone_35 ⟨Nat.zero_le _, Nat.zero_le _⟩ (fun H locs G => ?_)
      refine lv_if_ne (tgt := 56) hx hb dX10_hone_38 (by decide) (fun h5 => ?_) (fun h5 => ?_)
      · refine lv_aload_n hx hb dX10_hone_56 rfl (lv_at hl 1 rfl) ?_
        refine q_get (index := 19) (ref := "ToolRoomModel") E G inX10 17 0 c17 sg_17 rfl 4 (by decide) tb_425 (Or.inl rfl) rfl dX10_hone_57 ?_
        refine lv_iload_n hx hb dX10_hone_60 rfl (lv_at hl 0 rfl) ?_
        refine lv_iload_n hx hb dX10_hone_61 rfl (lv_at hl 3 rfl) ?_
        refine q_iast E G 18 4 (c18 4 (by decide)) (fun _ => sa_18_4) v4 dX10_hone_62 (fun H locs G => ?_)
        refine lv_aload_n hx hb dX10_hone_63 rfl (lv_at hl 1 rfl) ?_
        refine lv_iconst (v := 1) hx hb dX10_hone_64 (by decide) ?_
        refine q_cV (rest := []) E G 17 0 c17 sg_17 (C := RX10) (T := TX10) (N := 21) rfl (k_X10_says l D cy sz ad n (uI S 18 4 (S.1 18 0 x1.toNatClampNeg).toNatClampNeg x2) 1) tb_496 tb_498 tp_9 tb_6 tb_499 (nn := 1) (by decide +kernel) ⟨Nat.le_of_ble_eq_true rfl, Nat.le_of_ble_eq_true rfl⟩ rfl hl.1 rfl (Nat.le_of_ble_eq_true rfl) dX10_hone_65 ⟨Nat.zero_le _, Nat.zero_le _⟩ (fun H locs G => ?_)
        exact q_iret E G (by unfold f_X10_hone; simp only [if_pos h1, if_neg h3, if_neg h5, pr_eta]) dX10_hone_68
      · refine lv_aload_n hx hb dX10_hone_41 rfl (lv_at hl 1 rfl) ?_
        refine lv_iload_n hx hb dX10_hone_42 rfl (lv_at hl 0 rfl) ?_
        refine lv_iconst (v := (-1)) hx hb dX10_hone_43 (by decide) ?_
        refine lv_icmp_ne (tgt := 51) hx hb dX10_hone_44 (by decide) (fun _ => ?_) (fun h => absurd h h3)
        refine lv_iconst (v := 4) hx hb dX10_hone_51 (by decide) ?_
        refine q_cV (rest := []) E G 17 0 c17 sg_17 (C := RX10) (T := TX10) (N := 21) rfl (k_X10_fails l D cy sz ad n S 4 (by unfold vp_in; decide)) tb_516 tb_518 tp_10 tb_6 tb_519 (nn := 1) (by decide +kernel) ⟨Nat.le_of_ble_eq_true rfl, Nat.le_of_ble_eq_true rfl⟩ rfl hl.1 rfl (Nat.le_of_ble_eq_true rfl) dX10_hone_52 ⟨Nat.zero_le _, Nat.zero_le _⟩ (fun H locs G => ?_)
        exact q_iret E G (by unfold f_X10_hone; simp only [if_pos h1, if_neg h3, if_pos h5, pr_eta]) dX10_hone_55
  · refine q_cSp E G [] (k_X10_in_f l D cy sz ad n S x1 0 9 h1) tb_489 tb_490 tb_6 tb_491 (nn := 3) (by decide +kernel) ⟨Nat.le_of_ble_eq_true rfl, Nat.le_of_ble_eq_true rfl⟩ rfl hl.1 rfl (Nat.le_of_ble_eq_true rfl) dX10_hone_4 ⟨Nat.zero_le _, Nat.zero_le _⟩ (fun H locs G => ?_)
    refine lv_if_ne (tgt := 17) hx hb dX10_hone_7 (by decide) (fun h => absurd h (by decide)) (fun _ => ?_)
    refine lv_aload_n hx hb dX10_hone_10 rfl (lv_at hl 0 rfl) ?_
    refine lv_bipush (v := (-2)) hx hb dX10_hone_11 (by decide) ?_
    refine q_cV (rest := []) E G 17 0 c17 sg_17 (C := RX10) (T := TX10) (N := 21) rfl (k_X10_refuses l D cy sz ad n S (-2)) tb_492 tb_494 tp_8 tb_6 tb_495 (nn := 1) (by decide +kernel) ⟨Nat.le_of_ble_eq_true rfl, Nat.le_of_ble_eq_true rfl⟩ rfl hl.1 rfl (Nat.le_of_ble_eq_true rfl) dX10_hone_13 ⟨Nat.zero_le _, Nat.zero_le _⟩ (fun H locs G => ?_)
    exact q_iret E G (by unfold f_X10_hone; simp only [if_neg h1, pr_eta]) dX10_hone_16

def f_X10_use (S : SS) (x1 : Int32) (x2 : Int32) : Int32 × SS := if wj x1 0 9 = true then (if (S.1 18 0 x1.toNatClampNeg) = (-1) then (0, (f_X10_fails (uI S 17 0 17 0) 1).2) else (f_X10_used (uI S 17 0 17 0) (S.1 18 0 x1.toNatClampNeg) x2)) else (0, (uI S 17 0 17 (-2)))
set_option maxHeartbeats 4000000 in
set_option maxRecDepth 100000 in
theorem k_X10_use (l : Launch) (D : va_G) (cy : Nat → ClassId) (sz : Nat) (ad : Nat → Nat → Nat) (n : Nat) (S : SS) (ok : okM S) (x1 : Int32) (x2 : Int32) : CI l yX10_use cX10_use 4 (some .int) 1 23 [.ref (ad 17 0), .int x1, .int x2] D cy sz ad n S (f_X10_use S x1 x2) := by
  refine Met.enter (by decide) (Nat.le_of_ble_eq_true rfl) (fun p e s m args below meth c ls E G hl => ?_)
  have E : En p s m args meth c cX10_use 4 (some .int) RX10 D cy sz := E
  obtain ⟨hx, hb, hrt, hml, hown, hw, hlk, hK, hF, hsz⟩ := id E
  have hl : lv_has ls 4 [(0, .ref (ad 17 0)), (1, .int x1), (2, .int x2)] := hl
  refine lv_aload_n hx hb dX10_use_0 rfl (lv_at hl 0 rfl) ?_
  refine lv_iload_n hx hb dX10_use_1 rfl (lv_at hl 1 rfl) ?_
  refine lv_iconst (v := 0) hx hb dX10_use_2 (by decide) ?_
  refine lv_bipush (v := 9) hx hb dX10_use_3 (by decide) ?_
  by_cases h1 : wj x1 0 9 = true
  · have v2 : vp_in x1 10 := wj_in h1 (by decide) (by decide)
    refine q_cSp E G [.ref (ad 17 0)] (k_X10_in_t l D cy sz ad n S x1 0 9 h1) tb_489 tb_490 tb_6 tb_491 (nn := 3) (by decide +kernel) ⟨Nat.le_of_ble_eq_true rfl, Nat.le_of_ble_eq_true rfl⟩ rfl hl.1 rfl (Nat.le_of_ble_eq_true rfl) dX10_use_5 ⟨Nat.zero_le _, Nat.zero_le _⟩ (fun H locs G => ?_)
    refine lv_if_eq (tgt := 15) hx hb dX10_use_8 (by decide) (fun h => absurd h (by decide)) (fun _ => ?_)
    refine lv_iconst (v := 0) hx hb dX10_use_11 (by decide) ?_
    refine lv_goto (tgt := 17) hx hb dX10_use_12 (by decide) ?_
    refine q_put (index := 62) (ref := "ToolRoomModel") E G inX10 tyX10 tyX10_ok nmX10 17 0 c17 17 sg_17 rfl 17 (by decide) tb_438 (Or.inl rfl) rfl (ty := .int) (by decide +kernel) rfl rfl (Nat.le_of_ble_eq_true rfl) sp_17_17 dX10_use_17 (fun H locs G => ?_)
    refine lv_aload_n hx hb dX10_use_20 rfl (lv_at hl 0 rfl) ?_
    refine q_get (index := 62) (ref := "ToolRoomModel") E G inX10 17 0 c17 sg_17 rfl 17 (by decide) tb_438 (Or.inl rfl) rfl dX10_use_21 ?_
    rw [uI_self]
    refine lv_if_eq (tgt := 29) hx hb dX10_use_24 (by decide) (fun _ => ?_) (fun h => absurd h (by decide))
    refine lv_aload_n hx hb dX10_use_29 rfl (lv_at hl 0 rfl) ?_
    refine q_get (index := 7) (ref := "ToolRoomModel") E G inX10 17 0 c17 sg_17 rfl 0 (by decide) tb_421 (Or.inl rfl) rfl dX10_use_30 ?_
    refine lv_iload_n hx hb dX10_use_33 rfl (lv_at hl 1 rfl) ?_
    refine q_iald E G 18 0 (c18 0 (by decide)) sa_18_0 v2 dX10_use_34 ?_
    rw [uI_nf (by decide)]
    refine lv_iconst (v := (-1)) hx hb dX10_use_35 (by decide) ?_
    refine lv_icmp_ne (tgt := 47) hx hb dX10_use_36 (by decide) (fun h3 => ?_) (fun h3 => ?_)
    · have v4 : vp_in (S.1 18 0 x1.toNatClampNeg) 600 := (ok.1 _ (vp_lt v2)).resolve_left h3
      refine lv_iconst (v := 0) hx hb dX10_use_47 (by decide) ?_
      refine lv_istore_n (lv' := [(3, .int 0), (0, .ref (ad 17 0)), (1, .int x1), (2, .int x2)]) hx hb dX10_use_48 rfl hl (by decide) rfl (fun ls hl => ?_)
      refine lv_iload_n hx hb dX10_use_49 rfl (lv_at hl 0 rfl) ?_
      refine lv_if_eq (tgt := 57) hx hb dX10_use_50 (by decide) (fun _ => ?_) (fun h => absurd h (by decide))
      refine lv_aload_n hx hb dX10_use_57 rfl (lv_at hl 1 rfl) ?_
      refine lv_aload_n hx hb dX10_use_58 rfl (lv_at hl 1 rfl) ?_
      refine q_get (index := 7) (ref := "ToolRoomModel") E G inX10 17 0 c17 sg_17 rfl 0 (by decide) tb_421 (Or.inl rfl) rfl dX10_use_59 ?_
      refine lv_iload_n hx hb dX10_use_62 rfl (lv_at hl 2 rfl) ?_
      refine q_iald E G 18 0 (c18 0 (by decide)) sa_18_0 v2 dX10_use_63 ?_
      rw [uI_nf (by decide)]
      refine lv_iload_n hx hb dX10_use_64 rfl (lv_at hl 3 rfl) ?_
      refine q_cV (rest := []) E G 17 0 c17 sg_17 (C := RX10) (T := TX10) (N := 21) rfl (k_X10_used l D cy sz ad n (uI S 17 0 17 0) (S.1 18 0 x1.toNatClampNeg) x2 v4) tb_547 tb_549 tp_12 tb_6 tb_550 (nn := 2) (by decide +kernel) ⟨Nat.le_of_ble_eq_true rfl, Nat.le_of_ble_eq_true rfl⟩ rfl hl.1 rfl (Nat.le_of_ble_eq_true rfl) dX10_use_65 ⟨Nat.zero_le _, Nat.zero_le _⟩ (fun H locs G => ?_)
      exact q_iret E G (by unfold f_X10_use; simp only [if_pos h1, if_neg h3, pr_eta]) dX10_use_68
    · refine lv_aload_n hx hb dX10_use_39 rfl (lv_at hl 0 rfl) ?_
      refine lv_iconst (v := 1) hx hb dX10_use_40 (by decide) ?_
      refine q_cV (rest := []) E G 17 0 c17 sg_17 (C := RX10) (T := TX10) (N := 21) rfl (k_X10_fails l D cy sz ad n (uI S 17 0 17 0) 1 (by unfold vp_in; decide)) tb_516 tb_518 tp_10 tb_6 tb_519 (nn := 1) (by decide +kernel) ⟨Nat.le_of_ble_eq_true rfl, Nat.le_of_ble_eq_true rfl⟩ rfl hl.1 rfl (Nat.le_of_ble_eq_true rfl) dX10_use_41 ⟨Nat.zero_le _, Nat.zero_le _⟩ (fun H locs G => ?_)
      refine lv_goto (tgt := 48) hx hb dX10_use_44 (by decide) ?_
      refine lv_istore_n (lv' := [(3, .int (f_X10_fails (uI S 17 0 17 0) 1).1), (0, .ref (ad 17 0)), (1, .int x1), (2, .int x2)]) hx hb dX10_use_48 rfl hl (by decide) rfl (fun ls hl => ?_)
      refine lv_iload_n hx hb dX10_use_49 rfl (lv_at hl 0 rfl) ?_
      refine lv_if_eq (tgt := 57) hx hb dX10_use_50 (by decide) (fun h => absurd h (fails_ne1 _)) (fun _ => ?_)
      refine lv_iconst (v := 0) hx hb dX10_use_53 (by decide) ?_
      refine lv_goto (tgt := 68) hx hb dX10_use_54 (by decide) ?_
      exact q_iret E G (by unfold f_X10_use; simp only [if_pos h1, if_pos h3, pr_eta]) dX10_use_68
  · refine q_cSp E G [.ref (ad 17 0)] (k_X10_in_f l D cy sz ad n S x1 0 9 h1) tb_489 tb_490 tb_6 tb_491 (nn := 3) (by decide +kernel) ⟨Nat.le_of_ble_eq_true rfl, Nat.le_of_ble_eq_true rfl⟩ rfl hl.1 rfl (Nat.le_of_ble_eq_true rfl) dX10_use_5 ⟨Nat.zero_le _, Nat.zero_le _⟩ (fun H locs G => ?_)
    refine lv_if_eq (tgt := 15) hx hb dX10_use_8 (by decide) (fun _ => ?_) (fun h => absurd h (by decide))
    refine lv_bipush (v := (-2)) hx hb dX10_use_15 (by decide) ?_
    refine q_put (index := 62) (ref := "ToolRoomModel") E G inX10 tyX10 tyX10_ok nmX10 17 0 c17 17 sg_17 rfl 17 (by decide) tb_438 (Or.inl rfl) rfl (ty := .int) (by decide +kernel) rfl rfl (Nat.le_of_ble_eq_true rfl) sp_17_17 dX10_use_17 (fun H locs G => ?_)
    refine lv_aload_n hx hb dX10_use_20 rfl (lv_at hl 0 rfl) ?_
    refine q_get (index := 62) (ref := "ToolRoomModel") E G inX10 17 0 c17 sg_17 rfl 17 (by decide) tb_438 (Or.inl rfl) rfl dX10_use_21 ?_
    rw [uI_self]
    refine lv_if_eq (tgt := 29) hx hb dX10_use_24 (by decide) (fun h => absurd h (by decide)) (fun _ => ?_)
    refine lv_iconst (v := 0) hx hb dX10_use_27 (by decide) ?_
    exact q_iret E G (by unfold f_X10_use; simp only [if_neg h1, pr_eta]) dX10_use_28

def f_X10_lose (S : SS) (x1 : Int32) (x2 : Int32) : Int32 × SS := if wj x1 0 2 = true then (if (pT x1 x2) = 0 then (f_X10_refuses S (-2)) else (if 0 ≤ (pZ S x1 x2) then (if x1 = 0 then (f_X10_says (uI S 18 7 x2.toNatClampNeg (-1)) 1) else (if x1 = 1 then (f_X10_says (uI S 18 9 x2.toNatClampNeg (-1)) 1) else (f_X10_says (uI S 18 12 x2.toNatClampNeg (-1)) 1))) else (if x1 = 0 then (f_X10_says (uI S 18 7 x2.toNatClampNeg (-1)) 0) else (if x1 = 1 then (f_X10_says (uI S 18 9 x2.toNatClampNeg (-1)) 0) else (f_X10_says (uI S 18 12 x2.toNatClampNeg (-1)) 0))))) else (f_X10_refuses S (-3))
set_option maxHeartbeats 4000000 in
set_option maxRecDepth 100000 in
theorem k_X10_lose (l : Launch) (D : va_G) (cy : Nat → ClassId) (sz : Nat) (ad : Nat → Nat → Nat) (n : Nat) (S : SS) (ok : okM S) (x1 : Int32) (x2 : Int32) : CI l yX10_lose cX10_lose 4 (some .int) 2 43 [.ref (ad 17 0), .int x1, .int x2] D cy sz ad n S (f_X10_lose S x1 x2) := by
  refine Met.enter (by decide) (Nat.le_of_ble_eq_true rfl) (fun p e s m args below meth c ls E G hl => ?_)
  have E : En p s m args meth c cX10_lose 4 (some .int) RX10 D cy sz := E
  obtain ⟨hx, hb, hrt, hml, hown, hw, hlk, hK, hF, hsz⟩ := id E
  have hl : lv_has ls 4 [(0, .ref (ad 17 0)), (1, .int x1), (2, .int x2)] := hl
  refine lv_iload_n hx hb dX10_lose_0 rfl (lv_at hl 1 rfl) ?_
  refine lv_iconst (v := 0) hx hb dX10_lose_1 (by decide) ?_
  refine lv_iconst (v := 2) hx hb dX10_lose_2 (by decide) ?_
  by_cases h1 : wj x1 0 2 = true
  · have v2 : vp_in x1 3 := wj_in h1 (by decide) (by decide)
    refine q_cSp E G [] (k_X10_in_t l D cy sz ad n S x1 0 2 h1) tb_489 tb_490 tb_6 tb_491 (nn := 3) (by decide +kernel) ⟨Nat.le_of_ble_eq_true rfl, Nat.le_of_ble_eq_true rfl⟩ rfl hl.1 rfl (Nat.le_of_ble_eq_true rfl) dX10_lose_3 ⟨Nat.zero_le _, Nat.zero_le _⟩ (fun H locs G => ?_)
    refine lv_if_ne (tgt := 16) hx hb dX10_lose_6 (by decide) (fun _ => ?_) (fun h => absurd h (by decide))
    refine lv_iload_n hx hb dX10_lose_16 rfl (lv_at hl 1 rfl) ?_
    refine lv_iload_n hx hb dX10_lose_17 rfl (lv_at hl 2 rfl) ?_
    refine q_cSp E G [] (k_X10_isThing l D cy sz ad n S x1 x2) tb_563 tb_564 tb_6 tb_565 (nn := 2) (by decide +kernel) ⟨Nat.le_of_ble_eq_true rfl, Nat.le_of_ble_eq_true rfl⟩ rfl hl.1 rfl (Nat.le_of_ble_eq_true rfl) dX10_lose_18 ⟨Nat.zero_le _, Nat.zero_le _⟩ (fun H locs G => ?_)
    refine lv_if_ne (tgt := 31) hx hb dX10_lose_21 (by decide) (fun h3 => ?_) (fun h3 => ?_)
    · have v4 : vp_in x2 4 := pT_4 h3
      have v5 : ¬ x1 = 0 → ¬ x1 = 1 → vp_in x2 2 := fun a b => pT_2 h3 (wh_2 v2 a b)
      refine lv_aload_n hx hb dX10_lose_31 rfl (lv_at hl 0 rfl) ?_
      refine lv_iload_n hx hb dX10_lose_32 rfl (lv_at hl 1 rfl) ?_
      refine lv_iload_n hx hb dX10_lose_33 rfl (lv_at hl 2 rfl) ?_
      refine q_cVp E G 17 0 c17 sg_17 (C := RX10) (T := TX10) (N := 21) rfl [] (k_X10_sizeOf l D cy sz ad n S x1 x2 v4 v5) tb_566 tb_568 tp_13 tb_6 tb_569 (nn := 2) (by decide +kernel) ⟨Nat.le_of_ble_eq_true rfl, Nat.le_of_ble_eq_true rfl⟩ rfl hl.1 rfl (Nat.le_of_ble_eq_true rfl) dX10_lose_34 ⟨Nat.zero_le _, Nat.zero_le _⟩ (fun H locs G => ?_)
      refine lv_if_ge (tgt := 44) hx hb dX10_lose_37 (by decide) (fun h6 => ?_) (fun h6 => ?_)
      · refine lv_iconst (v := 1) hx hb dX10_lose_44 (by decide) ?_
        refine lv_istore_n (lv' := [(3, .int 1), (0, .ref (ad 17 0)), (1, .int x1), (2, .int x2)]) hx hb dX10_lose_45 rfl hl (by decide) rfl (fun ls hl => ?_)
        refine lv_iload_n hx hb dX10_lose_46 rfl (lv_at hl 2 rfl) ?_
        refine lv_if_ne (tgt := 60) hx hb dX10_lose_47 (by decide) (fun h7 => ?_) (fun h7 => ?_)
        · refine lv_iload_n hx hb dX10_lose_60 rfl (lv_at hl 2 rfl) ?_
          refine lv_iconst (v := 1) hx hb dX10_lose_61 (by decide) ?_
          refine lv_icmp_ne (tgt := 75) hx hb dX10_lose_62 (by decide) (fun h8 => ?_) (fun h8 => ?_)
          · refine lv_aload_n hx hb dX10_lose_75 rfl (lv_at hl 1 rfl) ?_
            refine q_get (index := 44) (ref := "ToolRoomModel") E G inX10 17 0 c17 sg_17 rfl 12 (by decide) tb_433 (Or.inl rfl) rfl dX10_lose_76 ?_
            refine lv_iload_n hx hb dX10_lose_79 rfl (lv_at hl 3 rfl) ?_
            refine lv_iconst (v := (-1)) hx hb dX10_lose_80 (by decide) ?_
            refine q_iast E G 18 12 (c18 12 (by decide)) (fun _ => sa_18_12) (v5 h7 h8) dX10_lose_81 (fun H locs G => ?_)
            refine lv_aload_n hx hb dX10_lose_82 rfl (lv_at hl 1 rfl) ?_
            refine lv_iload_n hx hb dX10_lose_83 rfl (lv_at hl 0 rfl) ?_
            refine q_cV (rest := []) E G 17 0 c17 sg_17 (C := RX10) (T := TX10) (N := 21) rfl (k_X10_says l D cy sz ad n (uI S 18 12 x2.toNatClampNeg (-1)) 1) tb_496 tb_498 tp_9 tb_6 tb_499 (nn := 1) (by decide +kernel) ⟨Nat.le_of_ble_eq_true rfl, Nat.le_of_ble_eq_true rfl⟩ rfl hl.1 rfl (Nat.le_of_ble_eq_true rfl) dX10_lose_84 ⟨Nat.zero_le _, Nat.zero_le _⟩ (fun H locs G => ?_)
            exact q_iret E G (by unfold f_X10_lose; simp only [if_pos h1, if_neg h3, if_pos h6, if_neg h7, if_neg h8, pr_eta]) dX10_lose_87
          · refine lv_aload_n hx hb dX10_lose_65 rfl (lv_at hl 1 rfl) ?_
            refine q_get (index := 35) (ref := "ToolRoomModel") E G inX10 17 0 c17 sg_17 rfl 9 (by decide) tb_430 (Or.inl rfl) rfl dX10_lose_66 ?_
            refine lv_iload_n hx hb dX10_lose_69 rfl (lv_at hl 3 rfl) ?_
            refine lv_iconst (v := (-1)) hx hb dX10_lose_70 (by decide) ?_
            refine q_iast E G 18 9 (c18 9 (by decide)) (fun _ => sa_18_9) v4 dX10_lose_71 (fun H locs G => ?_)
            refine lv_goto (tgt := 82) hx hb dX10_lose_72 (by decide) ?_
            refine lv_aload_n hx hb dX10_lose_82 rfl (lv_at hl 1 rfl) ?_
            refine lv_iload_n hx hb dX10_lose_83 rfl (lv_at hl 0 rfl) ?_
            refine q_cV (rest := []) E G 17 0 c17 sg_17 (C := RX10) (T := TX10) (N := 21) rfl (k_X10_says l D cy sz ad n (uI S 18 9 x2.toNatClampNeg (-1)) 1) tb_496 tb_498 tp_9 tb_6 tb_499 (nn := 1) (by decide +kernel) ⟨Nat.le_of_ble_eq_true rfl, Nat.le_of_ble_eq_true rfl⟩ rfl hl.1 rfl (Nat.le_of_ble_eq_true rfl) dX10_lose_84 ⟨Nat.zero_le _, Nat.zero_le _⟩ (fun H locs G => ?_)
            exact q_iret E G (by unfold f_X10_lose; simp only [if_pos h1, if_neg h3, if_pos h6, if_neg h7, if_pos h8, pr_eta]) dX10_lose_87
        · refine lv_aload_n hx hb dX10_lose_50 rfl (lv_at hl 1 rfl) ?_
          refine q_get (index := 29) (ref := "ToolRoomModel") E G inX10 17 0 c17 sg_17 rfl 7 (by decide) tb_428 (Or.inl rfl) rfl dX10_lose_51 ?_
          refine lv_iload_n hx hb dX10_lose_54 rfl (lv_at hl 3 rfl) ?_
          refine lv_iconst (v := (-1)) hx hb dX10_lose_55 (by decide) ?_
          refine q_iast E G 18 7 (c18 7 (by decide)) (fun _ => sa_18_7) v4 dX10_lose_56 (fun H locs G => ?_)
          refine lv_goto (tgt := 82) hx hb dX10_lose_57 (by decide) ?_
          refine lv_aload_n hx hb dX10_lose_82 rfl (lv_at hl 1 rfl) ?_
          refine lv_iload_n hx hb dX10_lose_83 rfl (lv_at hl 0 rfl) ?_
          refine q_cV (rest := []) E G 17 0 c17 sg_17 (C := RX10) (T := TX10) (N := 21) rfl (k_X10_says l D cy sz ad n (uI S 18 7 x2.toNatClampNeg (-1)) 1) tb_496 tb_498 tp_9 tb_6 tb_499 (nn := 1) (by decide +kernel) ⟨Nat.le_of_ble_eq_true rfl, Nat.le_of_ble_eq_true rfl⟩ rfl hl.1 rfl (Nat.le_of_ble_eq_true rfl) dX10_lose_84 ⟨Nat.zero_le _, Nat.zero_le _⟩ (fun H locs G => ?_)
          exact q_iret E G (by unfold f_X10_lose; simp only [if_pos h1, if_neg h3, if_pos h6, if_pos h7, pr_eta]) dX10_lose_87
      · refine lv_iconst (v := 0) hx hb dX10_lose_40 (by decide) ?_
        refine lv_goto (tgt := 45) hx hb dX10_lose_41 (by decide) ?_
        refine lv_istore_n (lv' := [(3, .int 0), (0, .ref (ad 17 0)), (1, .int x1), (2, .int x2)]) hx hb dX10_lose_45 rfl hl (by decide) rfl (fun ls hl => ?_)
        refine lv_iload_n hx hb dX10_lose_46 rfl (lv_at hl 2 rfl) ?_
        refine lv_if_ne (tgt := 60) hx hb dX10_lose_47 (by decide) (fun h9 => ?_) (fun h9 => ?_)
        · refine lv_iload_n hx hb dX10_lose_60 rfl (lv_at hl 2 rfl) ?_
          refine lv_iconst (v := 1) hx hb dX10_lose_61 (by decide) ?_
          refine lv_icmp_ne (tgt := 75) hx hb dX10_lose_62 (by decide) (fun h10 => ?_) (fun h10 => ?_)
          · refine lv_aload_n hx hb dX10_lose_75 rfl (lv_at hl 1 rfl) ?_
            refine q_get (index := 44) (ref := "ToolRoomModel") E G inX10 17 0 c17 sg_17 rfl 12 (by decide) tb_433 (Or.inl rfl) rfl dX10_lose_76 ?_
            refine lv_iload_n hx hb dX10_lose_79 rfl (lv_at hl 3 rfl) ?_
            refine lv_iconst (v := (-1)) hx hb dX10_lose_80 (by decide) ?_
            refine q_iast E G 18 12 (c18 12 (by decide)) (fun _ => sa_18_12) (v5 h9 h10) dX10_lose_81 (fun H locs G => ?_)
            refine lv_aload_n hx hb dX10_lose_82 rfl (lv_at hl 1 rfl) ?_
            refine lv_iload_n hx hb dX10_lose_83 rfl (lv_at hl 0 rfl) ?_
            refine q_cV (rest := []) E G 17 0 c17 sg_17 (C := RX10) (T := TX10) (N := 21) rfl (k_X10_says l D cy sz ad n (uI S 18 12 x2.toNatClampNeg (-1)) 0) tb_496 tb_498 tp_9 tb_6 tb_499 (nn := 1) (by decide +kernel) ⟨Nat.le_of_ble_eq_true rfl, Nat.le_of_ble_eq_true rfl⟩ rfl hl.1 rfl (Nat.le_of_ble_eq_true rfl) dX10_lose_84 ⟨Nat.zero_le _, Nat.zero_le _⟩ (fun H locs G => ?_)
            exact q_iret E G (by unfold f_X10_lose; simp only [if_pos h1, if_neg h3, if_neg h6, if_neg h9, if_neg h10, pr_eta]) dX10_lose_87
          · refine lv_aload_n hx hb dX10_lose_65 rfl (lv_at hl 1 rfl) ?_
            refine q_get (index := 35) (ref := "ToolRoomModel") E G inX10 17 0 c17 sg_17 rfl 9 (by decide) tb_430 (Or.inl rfl) rfl dX10_lose_66 ?_
            refine lv_iload_n hx hb dX10_lose_69 rfl (lv_at hl 3 rfl) ?_
            refine lv_iconst (v := (-1)) hx hb dX10_lose_70 (by decide) ?_
            refine q_iast E G 18 9 (c18 9 (by decide)) (fun _ => sa_18_9) v4 dX10_lose_71 (fun H locs G => ?_)
            refine lv_goto (tgt := 82) hx hb dX10_lose_72 (by decide) ?_
            refine lv_aload_n hx hb dX10_lose_82 rfl (lv_at hl 1 rfl) ?_
            refine lv_iload_n hx hb dX10_lose_83 rfl (lv_at hl 0 rfl) ?_
            refine q_cV (rest := []) E G 17 0 c17 sg_17 (C := RX10) (T := TX10) (N := 21) rfl (k_X10_says l D cy sz ad n (uI S 18 9 x2.toNatClampNeg (-1)) 0) tb_496 tb_498 tp_9 tb_6 tb_499 (nn := 1) (by decide +kernel) ⟨Nat.le_of_ble_eq_true rfl, Nat.le_of_ble_eq_true rfl⟩ rfl hl.1 rfl (Nat.le_of_ble_eq_true rfl) dX10_lose_84 ⟨Nat.zero_le _, Nat.zero_le _⟩ (fun H locs G => ?_)
            exact q_iret E G (by unfold f_X10_lose; simp only [if_pos h1, if_neg h3, if_neg h6, if_neg h9, if_pos h10, pr_eta]) dX10_lose_87
        · refine lv_aload_n hx hb dX10_lose_50 rfl (lv_at hl 1 rfl) ?_
          refine q_get (index := 29) (ref := "ToolRoomModel") E G inX10 17 0 c17 sg_17 rfl 7 (by decide) tb_428 (Or.inl rfl) rfl dX10_lose_51 ?_
          refine lv_iload_n hx hb dX10_lose_54 rfl (lv_at hl 3 rfl) ?_
          refine lv_iconst (v := (-1)) hx hb dX10_lose_55 (by decide) ?_
          refine q_iast E G 18 7 (c18 7 (by decide)) (fun _ => sa_18_7) v4 dX10_lose_56 (fun H locs G => ?_)
          refine lv_goto (tgt := 82) hx hb dX10_lose_57 (by decide) ?_
          refine lv_aload_n hx hb dX10_lose_82 rfl (lv_at hl 1 rfl) ?_
          refine lv_iload_n hx hb dX10_lose_83 rfl (lv_at hl 0 rfl) ?_
          refine q_cV (rest := []) E G 17 0 c17 sg_17 (C := RX10) (T := TX10) (N := 21) rfl (k_X10_says l D cy sz ad n (uI S 18 7 x2.toNatClampNeg (-1)) 0) tb_496 tb_498 tp_9 tb_6 tb_499 (nn := 1) (by decide +kernel) ⟨Nat.le_of_ble_eq_true rfl, Nat.le_of_ble_eq_true rfl⟩ rfl hl.1 rfl (Nat.le_of_ble_eq_true rfl) dX10_lose_84 ⟨Nat.zero_le _, Nat.zero_le _⟩ (fun H locs G => ?_)
          exact q_iret E G (by unfold f_X10_lose; simp only [if_pos h1, if_neg h3, if_neg h6, if_pos h9, pr_eta]) dX10_lose_87
    · refine lv_aload_n hx hb dX10_lose_24 rfl (lv_at hl 0 rfl) ?_
      refine lv_bipush (v := (-2)) hx hb dX10_lose_25 (by decide) ?_
      refine q_cV (rest := []) E G 17 0 c17 sg_17 (C := RX10) (T := TX10) (N := 21) rfl (k_X10_refuses l D cy sz ad n S (-2)) tb_492 tb_494 tp_8 tb_6 tb_495 (nn := 1) (by decide +kernel) ⟨Nat.le_of_ble_eq_true rfl, Nat.le_of_ble_eq_true rfl⟩ rfl hl.1 rfl (Nat.le_of_ble_eq_true rfl) dX10_lose_27 ⟨Nat.zero_le _, Nat.zero_le _⟩ (fun H locs G => ?_)
      exact q_iret E G (by unfold f_X10_lose; simp only [if_pos h1, if_pos h3, pr_eta]) dX10_lose_30
  · refine q_cSp E G [] (k_X10_in_f l D cy sz ad n S x1 0 2 h1) tb_489 tb_490 tb_6 tb_491 (nn := 3) (by decide +kernel) ⟨Nat.le_of_ble_eq_true rfl, Nat.le_of_ble_eq_true rfl⟩ rfl hl.1 rfl (Nat.le_of_ble_eq_true rfl) dX10_lose_3 ⟨Nat.zero_le _, Nat.zero_le _⟩ (fun H locs G => ?_)
    refine lv_if_ne (tgt := 16) hx hb dX10_lose_6 (by decide) (fun h => absurd h (by decide)) (fun _ => ?_)
    refine lv_aload_n hx hb dX10_lose_9 rfl (lv_at hl 0 rfl) ?_
    refine lv_bipush (v := (-3)) hx hb dX10_lose_10 (by decide) ?_
    refine q_cV (rest := []) E G 17 0 c17 sg_17 (C := RX10) (T := TX10) (N := 21) rfl (k_X10_refuses l D cy sz ad n S (-3)) tb_492 tb_494 tp_8 tb_6 tb_495 (nn := 1) (by decide +kernel) ⟨Nat.le_of_ble_eq_true rfl, Nat.le_of_ble_eq_true rfl⟩ rfl hl.1 rfl (Nat.le_of_ble_eq_true rfl) dX10_lose_12 ⟨Nat.zero_le _, Nat.zero_le _⟩ (fun H locs G => ?_)
    exact q_iret E G (by unfold f_X10_lose; simp only [if_neg h1, pr_eta]) dX10_lose_15

def f_X10_put (S : SS) (x1 : Int32) (x2 : Int32) (x3 : Int32) : Int32 × SS := if wj x1 0 3 = true then (if (pL (S.1 18 7 x1.toNatClampNeg) x2) = 0 then (f_X10_says (uI S 18 8 ((20 * x1) + x2).toNatClampNeg x3) 1) else (f_X10_fails S (pL (S.1 18 7 x1.toNatClampNeg) x2))) else (f_X10_refuses S (-2))
set_option maxHeartbeats 4000000 in
set_option maxRecDepth 100000 in
theorem k_X10_put (l : Launch) (D : va_G) (cy : Nat → ClassId) (sz : Nat) (ad : Nat → Nat → Nat) (n : Nat) (S : SS) (ok : okM S) (x1 : Int32) (x2 : Int32) (x3 : Int32) : CI l yX10_put cX10_put 5 (some .int) 2 43 [.ref (ad 17 0), .int x1, .int x2, .int x3] D cy sz ad n S (f_X10_put S x1 x2 x3) := by
  refine Met.enter (by decide) (Nat.le_of_ble_eq_true rfl) (fun p e s m args below meth c ls E G hl => ?_)
  have E : En p s m args meth c cX10_put 5 (some .int) RX10 D cy sz := E
  obtain ⟨hx, hb, hrt, hml, hown, hw, hlk, hK, hF, hsz⟩ := id E
  have hl : lv_has ls 5 [(0, .ref (ad 17 0)), (1, .int x1), (2, .int x2), (3, .int x3)] := hl
  refine lv_iload_n hx hb dX10_put_0 rfl (lv_at hl 1 rfl) ?_
  refine lv_iconst (v := 0) hx hb dX10_put_1 (by decide) ?_
  refine lv_iconst (v := 3) hx hb dX10_put_2 (by decide) ?_
  by_cases h1 : wj x1 0 3 = true
  · have v2 : vp_in x1 4 := wj_in h1 (by decide) (by decide)
    refine q_cSp E G [] (k_X10_in_t l D cy sz ad n S x1 0 3 h1) tb_489 tb_490 tb_6 tb_491 (nn := 3) (by decide +kernel) ⟨Nat.le_of_ble_eq_true rfl, Nat.le_of_ble_eq_true rfl⟩ rfl hl.1 rfl (Nat.le_of_ble_eq_true rfl) dX10_put_3 ⟨Nat.zero_le _, Nat.zero_le _⟩ (fun H locs G => ?_)
    refine lv_if_ne (tgt := 16) hx hb dX10_put_6 (by decide) (fun _ => ?_) (fun h => absurd h (by decide))
    refine lv_aload_n hx hb dX10_put_16 rfl (lv_at hl 0 rfl) ?_
    refine q_get (index := 29) (ref := "ToolRoomModel") E G inX10 17 0 c17 sg_17 rfl 7 (by decide) tb_428 (Or.inl rfl) rfl dX10_put_17 ?_
    refine lv_iload_n hx hb dX10_put_20 rfl (lv_at hl 1 rfl) ?_
    refine q_iald E G 18 7 (c18 7 (by decide)) sa_18_7 v2 dX10_put_21 ?_
    refine lv_iload_n hx hb dX10_put_22 rfl (lv_at hl 2 rfl) ?_
    refine q_cSp E G [] (k_X10_lacks l D cy sz ad n S (S.1 18 7 x1.toNatClampNeg) x2) tb_574 tb_575 tb_6 tb_576 (nn := 2) (by decide +kernel) ⟨Nat.le_of_ble_eq_true rfl, Nat.le_of_ble_eq_true rfl⟩ rfl hl.1 rfl (Nat.le_of_ble_eq_true rfl) dX10_put_23 ⟨Nat.zero_le _, Nat.zero_le _⟩ (fun H locs G => ?_)
    refine lv_istore (lv' := [(4, .int (pL (S.1 18 7 x1.toNatClampNeg) x2)), (0, .ref (ad 17 0)), (1, .int x1), (2, .int x2), (3, .int x3)]) hx hb dX10_put_26 hl (by decide) rfl (fun ls hl => ?_)
    refine lv_iload hx hb dX10_put_28 (lv_at hl 0 rfl) ?_
    refine lv_if_eq (tgt := 40) hx hb dX10_put_30 (by decide) (fun h3 => ?_) (fun h3 => ?_)
    · have v4 : vp_in x2 20 := pL_0 h3 (ok.2.2.2.1 _ (vp_lt v2)) (by decide)
      refine lv_aload_n hx hb dX10_put_40 rfl (lv_at hl 1 rfl) ?_
      refine q_get (index := 32) (ref := "ToolRoomModel") E G inX10 17 0 c17 sg_17 rfl 8 (by decide) tb_429 (Or.inl rfl) rfl dX10_put_41 ?_
      refine lv_bipush (v := 20) hx hb dX10_put_44 (by decide) ?_
      refine lv_iload_n hx hb dX10_put_46 rfl (lv_at hl 2 rfl) ?_
      refine lv_imul hx hb dX10_put_47 ?_
      refine lv_iload_n hx hb dX10_put_48 rfl (lv_at hl 3 rfl) ?_
      refine lv_iadd hx hb dX10_put_49 ?_
      refine lv_iload_n hx hb dX10_put_50 rfl (lv_at hl 4 rfl) ?_
      refine q_iast E G 18 8 (c18 8 (by decide)) (fun _ => sa_18_8) (ixv v2 v4 20 rfl (by decide) (by decide) (by decide) (by decide) (by decide)) dX10_put_51 (fun H locs G => ?_)
      refine lv_aload_n hx hb dX10_put_52 rfl (lv_at hl 1 rfl) ?_
      refine lv_iconst (v := 1) hx hb dX10_put_53 (by decide) ?_
      refine q_cV (rest := []) E G 17 0 c17 sg_17 (C := RX10) (T := TX10) (N := 21) rfl (k_X10_says l D cy sz ad n (uI S 18 8 ((20 * x1) + x2).toNatClampNeg x3) 1) tb_496 tb_498 tp_9 tb_6 tb_499 (nn := 1) (by decide +kernel) ⟨Nat.le_of_ble_eq_true rfl, Nat.le_of_ble_eq_true rfl⟩ rfl hl.1 rfl (Nat.le_of_ble_eq_true rfl) dX10_put_54 ⟨Nat.zero_le _, Nat.zero_le _⟩ (fun H locs G => ?_)
      exact q_iret E G (by unfold f_X10_put; simp only [if_pos h1, if_pos h3, pr_eta]) dX10_put_57
    · refine lv_aload_n hx hb dX10_put_33 rfl (lv_at hl 1 rfl) ?_
      refine lv_iload hx hb dX10_put_34 (lv_at hl 0 rfl) ?_
      refine q_cV (rest := []) E G 17 0 c17 sg_17 (C := RX10) (T := TX10) (N := 21) rfl (k_X10_fails l D cy sz ad n S (pL (S.1 18 7 x1.toNatClampNeg) x2) pL_in) tb_516 tb_518 tp_10 tb_6 tb_519 (nn := 1) (by decide +kernel) ⟨Nat.le_of_ble_eq_true rfl, Nat.le_of_ble_eq_true rfl⟩ rfl hl.1 rfl (Nat.le_of_ble_eq_true rfl) dX10_put_36 ⟨Nat.zero_le _, Nat.zero_le _⟩ (fun H locs G => ?_)
      exact q_iret E G (by unfold f_X10_put; simp only [if_pos h1, if_neg h3, pr_eta]) dX10_put_39
  · refine q_cSp E G [] (k_X10_in_f l D cy sz ad n S x1 0 3 h1) tb_489 tb_490 tb_6 tb_491 (nn := 3) (by decide +kernel) ⟨Nat.le_of_ble_eq_true rfl, Nat.le_of_ble_eq_true rfl⟩ rfl hl.1 rfl (Nat.le_of_ble_eq_true rfl) dX10_put_3 ⟨Nat.zero_le _, Nat.zero_le _⟩ (fun H locs G => ?_)
    refine lv_if_ne (tgt := 16) hx hb dX10_put_6 (by decide) (fun h => absurd h (by decide)) (fun _ => ?_)
    refine lv_aload_n hx hb dX10_put_9 rfl (lv_at hl 0 rfl) ?_
    refine lv_bipush (v := (-2)) hx hb dX10_put_10 (by decide) ?_
    refine q_cV (rest := []) E G 17 0 c17 sg_17 (C := RX10) (T := TX10) (N := 21) rfl (k_X10_refuses l D cy sz ad n S (-2)) tb_492 tb_494 tp_8 tb_6 tb_495 (nn := 1) (by decide +kernel) ⟨Nat.le_of_ble_eq_true rfl, Nat.le_of_ble_eq_true rfl⟩ rfl hl.1 rfl (Nat.le_of_ble_eq_true rfl) dX10_put_12 ⟨Nat.zero_le _, Nat.zero_le _⟩ (fun H locs G => ?_)
    exact q_iret E G (by unfold f_X10_put; simp only [if_neg h1, pr_eta]) dX10_put_15

def f_X10_get (S : SS) (x1 : Int32) (x2 : Int32) : Int32 × SS := if wj x1 0 3 = true then (if (pL (S.1 18 7 x1.toNatClampNeg) x2) = 0 then ((S.1 18 8 ((20 * x1) + x2).toNatClampNeg), (uI S 17 0 17 0)) else (0, (f_X10_fails (uI S 17 0 17 0) (pL (S.1 18 7 x1.toNatClampNeg) x2)).2)) else (0, (uI S 17 0 17 (-2)))
set_option maxHeartbeats 4000000 in
set_option maxRecDepth 100000 in
theorem k_X10_get (l : Launch) (D : va_G) (cy : Nat → ClassId) (sz : Nat) (ad : Nat → Nat → Nat) (n : Nat) (S : SS) (ok : okM S) (x1 : Int32) (x2 : Int32) : CI l yX10_get cX10_get 4 (some .int) 2 43 [.ref (ad 17 0), .int x1, .int x2] D cy sz ad n S (f_X10_get S x1 x2) := by
  refine Met.enter (by decide) (Nat.le_of_ble_eq_true rfl) (fun p e s m args below meth c ls E G hl => ?_)
  have E : En p s m args meth c cX10_get 4 (some .int) RX10 D cy sz := E
  obtain ⟨hx, hb, hrt, hml, hown, hw, hlk, hK, hF, hsz⟩ := id E
  have hl : lv_has ls 4 [(0, .ref (ad 17 0)), (1, .int x1), (2, .int x2)] := hl
  refine lv_aload_n hx hb dX10_get_0 rfl (lv_at hl 0 rfl) ?_
  refine lv_iload_n hx hb dX10_get_1 rfl (lv_at hl 1 rfl) ?_
  refine lv_iconst (v := 0) hx hb dX10_get_2 (by decide) ?_
  refine lv_iconst (v := 3) hx hb dX10_get_3 (by decide) ?_
  by_cases h1 : wj x1 0 3 = true
  · have v2 : vp_in x1 4 := wj_in h1 (by decide) (by decide)
    refine q_cSp E G [.ref (ad 17 0)] (k_X10_in_t l D cy sz ad n S x1 0 3 h1) tb_489 tb_490 tb_6 tb_491 (nn := 3) (by decide +kernel) ⟨Nat.le_of_ble_eq_true rfl, Nat.le_of_ble_eq_true rfl⟩ rfl hl.1 rfl (Nat.le_of_ble_eq_true rfl) dX10_get_4 ⟨Nat.zero_le _, Nat.zero_le _⟩ (fun H locs G => ?_)
    refine lv_if_eq (tgt := 14) hx hb dX10_get_7 (by decide) (fun h => absurd h (by decide)) (fun _ => ?_)
    refine lv_iconst (v := 0) hx hb dX10_get_10 (by decide) ?_
    refine lv_goto (tgt := 16) hx hb dX10_get_11 (by decide) ?_
    refine q_put (index := 62) (ref := "ToolRoomModel") E G inX10 tyX10 tyX10_ok nmX10 17 0 c17 17 sg_17 rfl 17 (by decide) tb_438 (Or.inl rfl) rfl (ty := .int) (by decide +kernel) rfl rfl (Nat.le_of_ble_eq_true rfl) sp_17_17 dX10_get_16 (fun H locs G => ?_)
    refine lv_aload_n hx hb dX10_get_19 rfl (lv_at hl 0 rfl) ?_
    refine q_get (index := 62) (ref := "ToolRoomModel") E G inX10 17 0 c17 sg_17 rfl 17 (by decide) tb_438 (Or.inl rfl) rfl dX10_get_20 ?_
    rw [uI_self]
    refine lv_if_eq (tgt := 28) hx hb dX10_get_23 (by decide) (fun _ => ?_) (fun h => absurd h (by decide))
    refine lv_aload_n hx hb dX10_get_28 rfl (lv_at hl 0 rfl) ?_
    refine q_get (index := 29) (ref := "ToolRoomModel") E G inX10 17 0 c17 sg_17 rfl 7 (by decide) tb_428 (Or.inl rfl) rfl dX10_get_29 ?_
    refine lv_iload_n hx hb dX10_get_32 rfl (lv_at hl 1 rfl) ?_
    refine q_iald E G 18 7 (c18 7 (by decide)) sa_18_7 v2 dX10_get_33 ?_
    rw [uI_nf (by decide)]
    refine lv_iload_n hx hb dX10_get_34 rfl (lv_at hl 2 rfl) ?_
    refine q_cSp E G [] (k_X10_lacks l D cy sz ad n (uI S 17 0 17 0) (S.1 18 7 x1.toNatClampNeg) x2) tb_574 tb_575 tb_6 tb_576 (nn := 2) (by decide +kernel) ⟨Nat.le_of_ble_eq_true rfl, Nat.le_of_ble_eq_true rfl⟩ rfl hl.1 rfl (Nat.le_of_ble_eq_true rfl) dX10_get_35 ⟨Nat.zero_le _, Nat.zero_le _⟩ (fun H locs G => ?_)
    refine lv_istore_n (lv' := [(3, .int (pL (S.1 18 7 x1.toNatClampNeg) x2)), (0, .ref (ad 17 0)), (1, .int x1), (2, .int x2)]) hx hb dX10_get_38 rfl hl (by decide) rfl (fun ls hl => ?_)
    refine lv_iload_n hx hb dX10_get_39 rfl (lv_at hl 0 rfl) ?_
    refine lv_if_eq (tgt := 51) hx hb dX10_get_40 (by decide) (fun h3 => ?_) (fun h3 => ?_)
    · have v4 : vp_in x2 20 := pL_0 h3 (ok.2.2.2.1 _ (vp_lt v2)) (by decide)
      refine lv_aload_n hx hb dX10_get_51 rfl (lv_at hl 1 rfl) ?_
      refine q_get (index := 32) (ref := "ToolRoomModel") E G inX10 17 0 c17 sg_17 rfl 8 (by decide) tb_429 (Or.inl rfl) rfl dX10_get_52 ?_
      refine lv_bipush (v := 20) hx hb dX10_get_55 (by decide) ?_
      refine lv_iload_n hx hb dX10_get_57 rfl (lv_at hl 2 rfl) ?_
      refine lv_imul hx hb dX10_get_58 ?_
      refine lv_iload_n hx hb dX10_get_59 rfl (lv_at hl 3 rfl) ?_
      refine lv_iadd hx hb dX10_get_60 ?_
      refine q_iald E G 18 8 (c18 8 (by decide)) sa_18_8 (ixv v2 v4 20 rfl (by decide) (by decide) (by decide) (by decide) (by decide)) dX10_get_61 ?_
      rw [uI_nf (by decide)]
      exact q_iret E G (by unfold f_X10_get; simp only [if_pos h1, if_pos h3, pr_eta]) dX10_get_62
    · refine lv_aload_n hx hb dX10_get_43 rfl (lv_at hl 1 rfl) ?_
      refine lv_iload_n hx hb dX10_get_44 rfl (lv_at hl 0 rfl) ?_
      refine q_cV (rest := []) E G 17 0 c17 sg_17 (C := RX10) (T := TX10) (N := 21) rfl (k_X10_fails l D cy sz ad n (uI S 17 0 17 0) (pL (S.1 18 7 x1.toNatClampNeg) x2) pL_in) tb_516 tb_518 tp_10 tb_6 tb_519 (nn := 1) (by decide +kernel) ⟨Nat.le_of_ble_eq_true rfl, Nat.le_of_ble_eq_true rfl⟩ rfl hl.1 rfl (Nat.le_of_ble_eq_true rfl) dX10_get_45 ⟨Nat.zero_le _, Nat.zero_le _⟩ (fun H locs G => ?_)
      refine lv_istore_n (lv' := [(3, .int (f_X10_fails (uI S 17 0 17 0) (pL (S.1 18 7 x1.toNatClampNeg) x2)).1), (0, .ref (ad 17 0)), (1, .int x1), (2, .int x2)]) hx hb dX10_get_48 rfl hl (by decide) rfl (fun ls hl => ?_)
      refine lv_iconst (v := 0) hx hb dX10_get_49 (by decide) ?_
      exact q_iret E G (by unfold f_X10_get; simp only [if_pos h1, if_neg h3, pr_eta]) dX10_get_50
  · refine q_cSp E G [.ref (ad 17 0)] (k_X10_in_f l D cy sz ad n S x1 0 3 h1) tb_489 tb_490 tb_6 tb_491 (nn := 3) (by decide +kernel) ⟨Nat.le_of_ble_eq_true rfl, Nat.le_of_ble_eq_true rfl⟩ rfl hl.1 rfl (Nat.le_of_ble_eq_true rfl) dX10_get_4 ⟨Nat.zero_le _, Nat.zero_le _⟩ (fun H locs G => ?_)
    refine lv_if_eq (tgt := 14) hx hb dX10_get_7 (by decide) (fun _ => ?_) (fun h => absurd h (by decide))
    refine lv_bipush (v := (-2)) hx hb dX10_get_14 (by decide) ?_
    refine q_put (index := 62) (ref := "ToolRoomModel") E G inX10 tyX10 tyX10_ok nmX10 17 0 c17 17 sg_17 rfl 17 (by decide) tb_438 (Or.inl rfl) rfl (ty := .int) (by decide +kernel) rfl rfl (Nat.le_of_ble_eq_true rfl) sp_17_17 dX10_get_16 (fun H locs G => ?_)
    refine lv_aload_n hx hb dX10_get_19 rfl (lv_at hl 0 rfl) ?_
    refine q_get (index := 62) (ref := "ToolRoomModel") E G inX10 17 0 c17 sg_17 rfl 17 (by decide) tb_438 (Or.inl rfl) rfl dX10_get_20 ?_
    rw [uI_self]
    refine lv_if_eq (tgt := 28) hx hb dX10_get_23 (by decide) (fun h => absurd h (by decide)) (fun _ => ?_)
    refine lv_iconst (v := 0) hx hb dX10_get_26 (by decide) ?_
    exact q_iret E G (by unfold f_X10_get; simp only [if_neg h1, pr_eta]) dX10_get_27

def f_X10_length (S : SS) (x1 : Int32) (x2 : Int32) : Int32 × SS := if wj x1 0 2 = true then (if (pT x1 x2) = 0 then (f_X10_refuses S (-2)) else (if 0 ≤ (pZ S x1 x2) then (f_X10_says S (pZ S x1 x2)) else (f_X10_fails S 1))) else (f_X10_refuses S (-3))
set_option maxHeartbeats 4000000 in
set_option maxRecDepth 100000 in
theorem k_X10_length (l : Launch) (D : va_G) (cy : Nat → ClassId) (sz : Nat) (ad : Nat → Nat → Nat) (n : Nat) (S : SS) (ok : okM S) (x1 : Int32) (x2 : Int32) : CI l yX10_length cX10_length 3 (some .int) 2 43 [.ref (ad 17 0), .int x1, .int x2] D cy sz ad n S (f_X10_length S x1 x2) := by
  refine Met.enter (by decide) (Nat.le_of_ble_eq_true rfl) (fun p e s m args below meth c ls E G hl => ?_)
  have E : En p s m args meth c cX10_length 3 (some .int) RX10 D cy sz := E
  obtain ⟨hx, hb, hrt, hml, hown, hw, hlk, hK, hF, hsz⟩ := id E
  have hl : lv_has ls 3 [(0, .ref (ad 17 0)), (1, .int x1), (2, .int x2)] := hl
  refine lv_iload_n hx hb dX10_length_0 rfl (lv_at hl 1 rfl) ?_
  refine lv_iconst (v := 0) hx hb dX10_length_1 (by decide) ?_
  refine lv_iconst (v := 2) hx hb dX10_length_2 (by decide) ?_
  by_cases h1 : wj x1 0 2 = true
  · have v2 : vp_in x1 3 := wj_in h1 (by decide) (by decide)
    refine q_cSp E G [] (k_X10_in_t l D cy sz ad n S x1 0 2 h1) tb_489 tb_490 tb_6 tb_491 (nn := 3) (by decide +kernel) ⟨Nat.le_of_ble_eq_true rfl, Nat.le_of_ble_eq_true rfl⟩ rfl hl.1 rfl (Nat.le_of_ble_eq_true rfl) dX10_length_3 ⟨Nat.zero_le _, Nat.zero_le _⟩ (fun H locs G => ?_)
    refine lv_if_ne (tgt := 16) hx hb dX10_length_6 (by decide) (fun _ => ?_) (fun h => absurd h (by decide))
    refine lv_iload_n hx hb dX10_length_16 rfl (lv_at hl 1 rfl) ?_
    refine lv_iload_n hx hb dX10_length_17 rfl (lv_at hl 2 rfl) ?_
    refine q_cSp E G [] (k_X10_isThing l D cy sz ad n S x1 x2) tb_563 tb_564 tb_6 tb_565 (nn := 2) (by decide +kernel) ⟨Nat.le_of_ble_eq_true rfl, Nat.le_of_ble_eq_true rfl⟩ rfl hl.1 rfl (Nat.le_of_ble_eq_true rfl) dX10_length_18 ⟨Nat.zero_le _, Nat.zero_le _⟩ (fun H locs G => ?_)
    refine lv_if_ne (tgt := 31) hx hb dX10_length_21 (by decide) (fun h3 => ?_) (fun h3 => ?_)
    · have v4 : vp_in x2 4 := pT_4 h3
      have v5 : ¬ x1 = 0 → ¬ x1 = 1 → vp_in x2 2 := fun a b => pT_2 h3 (wh_2 v2 a b)
      refine lv_aload_n hx hb dX10_length_31 rfl (lv_at hl 0 rfl) ?_
      refine lv_iload_n hx hb dX10_length_32 rfl (lv_at hl 1 rfl) ?_
      refine lv_iload_n hx hb dX10_length_33 rfl (lv_at hl 2 rfl) ?_
      refine q_cVp E G 17 0 c17 sg_17 (C := RX10) (T := TX10) (N := 21) rfl [] (k_X10_sizeOf l D cy sz ad n S x1 x2 v4 v5) tb_566 tb_568 tp_13 tb_6 tb_569 (nn := 2) (by decide +kernel) ⟨Nat.le_of_ble_eq_true rfl, Nat.le_of_ble_eq_true rfl⟩ rfl hl.1 rfl (Nat.le_of_ble_eq_true rfl) dX10_length_34 ⟨Nat.zero_le _, Nat.zero_le _⟩ (fun H locs G => ?_)
      refine lv_if_ge (tgt := 48) hx hb dX10_length_37 (by decide) (fun h6 => ?_) (fun h6 => ?_)
      · refine lv_aload_n hx hb dX10_length_48 rfl (lv_at hl 0 rfl) ?_
        refine lv_aload_n hx hb dX10_length_49 rfl (lv_at hl 0 rfl) ?_
        refine lv_iload_n hx hb dX10_length_50 rfl (lv_at hl 1 rfl) ?_
        refine lv_iload_n hx hb dX10_length_51 rfl (lv_at hl 2 rfl) ?_
        refine q_cVp E G 17 0 c17 sg_17 (C := RX10) (T := TX10) (N := 21) rfl [.ref (ad 17 0)] (k_X10_sizeOf l D cy sz ad n S x1 x2 v4 v5) tb_566 tb_568 tp_13 tb_6 tb_569 (nn := 2) (by decide +kernel) ⟨Nat.le_of_ble_eq_true rfl, Nat.le_of_ble_eq_true rfl⟩ rfl hl.1 rfl (Nat.le_of_ble_eq_true rfl) dX10_length_52 ⟨Nat.zero_le _, Nat.zero_le _⟩ (fun H locs G => ?_)
        refine q_cV (rest := []) E G 17 0 c17 sg_17 (C := RX10) (T := TX10) (N := 21) rfl (k_X10_says l D cy sz ad n S (pZ S x1 x2)) tb_496 tb_498 tp_9 tb_6 tb_499 (nn := 1) (by decide +kernel) ⟨Nat.le_of_ble_eq_true rfl, Nat.le_of_ble_eq_true rfl⟩ rfl hl.1 rfl (Nat.le_of_ble_eq_true rfl) dX10_length_55 ⟨Nat.zero_le _, Nat.zero_le _⟩ (fun H locs G => ?_)
        exact q_iret E G (by unfold f_X10_length; simp only [if_pos h1, if_neg h3, if_pos h6, pr_eta]) dX10_length_58
      · refine lv_aload_n hx hb dX10_length_40 rfl (lv_at hl 0 rfl) ?_
        refine lv_iconst (v := 1) hx hb dX10_length_41 (by decide) ?_
        refine q_cV (rest := []) E G 17 0 c17 sg_17 (C := RX10) (T := TX10) (N := 21) rfl (k_X10_fails l D cy sz ad n S 1 (by unfold vp_in; decide)) tb_516 tb_518 tp_10 tb_6 tb_519 (nn := 1) (by decide +kernel) ⟨Nat.le_of_ble_eq_true rfl, Nat.le_of_ble_eq_true rfl⟩ rfl hl.1 rfl (Nat.le_of_ble_eq_true rfl) dX10_length_42 ⟨Nat.zero_le _, Nat.zero_le _⟩ (fun H locs G => ?_)
        refine lv_goto (tgt := 58) hx hb dX10_length_45 (by decide) ?_
        exact q_iret E G (by unfold f_X10_length; simp only [if_pos h1, if_neg h3, if_neg h6, pr_eta]) dX10_length_58
    · refine lv_aload_n hx hb dX10_length_24 rfl (lv_at hl 0 rfl) ?_
      refine lv_bipush (v := (-2)) hx hb dX10_length_25 (by decide) ?_
      refine q_cV (rest := []) E G 17 0 c17 sg_17 (C := RX10) (T := TX10) (N := 21) rfl (k_X10_refuses l D cy sz ad n S (-2)) tb_492 tb_494 tp_8 tb_6 tb_495 (nn := 1) (by decide +kernel) ⟨Nat.le_of_ble_eq_true rfl, Nat.le_of_ble_eq_true rfl⟩ rfl hl.1 rfl (Nat.le_of_ble_eq_true rfl) dX10_length_27 ⟨Nat.zero_le _, Nat.zero_le _⟩ (fun H locs G => ?_)
      exact q_iret E G (by unfold f_X10_length; simp only [if_pos h1, if_pos h3, pr_eta]) dX10_length_30
  · refine q_cSp E G [] (k_X10_in_f l D cy sz ad n S x1 0 2 h1) tb_489 tb_490 tb_6 tb_491 (nn := 3) (by decide +kernel) ⟨Nat.le_of_ble_eq_true rfl, Nat.le_of_ble_eq_true rfl⟩ rfl hl.1 rfl (Nat.le_of_ble_eq_true rfl) dX10_length_3 ⟨Nat.zero_le _, Nat.zero_le _⟩ (fun H locs G => ?_)
    refine lv_if_ne (tgt := 16) hx hb dX10_length_6 (by decide) (fun h => absurd h (by decide)) (fun _ => ?_)
    refine lv_aload_n hx hb dX10_length_9 rfl (lv_at hl 0 rfl) ?_
    refine lv_bipush (v := (-3)) hx hb dX10_length_10 (by decide) ?_
    refine q_cV (rest := []) E G 17 0 c17 sg_17 (C := RX10) (T := TX10) (N := 21) rfl (k_X10_refuses l D cy sz ad n S (-3)) tb_492 tb_494 tp_8 tb_6 tb_495 (nn := 1) (by decide +kernel) ⟨Nat.le_of_ble_eq_true rfl, Nat.le_of_ble_eq_true rfl⟩ rfl hl.1 rfl (Nat.le_of_ble_eq_true rfl) dX10_length_12 ⟨Nat.zero_le _, Nat.zero_le _⟩ (fun H locs G => ?_)
    exact q_iret E G (by unfold f_X10_length; simp only [if_neg h1, pr_eta]) dX10_length_15

def f_X10_lay (S : SS) (x1 : Int32) (x2 : Int32) (x3 : Int32) : Int32 × SS := if wj x1 0 3 = true then (if wj x3 0 9 = true then (if (pL (S.1 18 9 x1.toNatClampNeg) x2) = 0 then (if (pO S (S.1 18 0 x3.toNatClampNeg) (S.1 18 10 x1.toNatClampNeg)) = 0 then (f_X10_fails S 5) else (f_X10_says (uI S 18 11 ((10 * x1) + x2).toNatClampNeg (S.1 18 0 x3.toNatClampNeg)) 1)) else (f_X10_fails S (pL (S.1 18 9 x1.toNatClampNeg) x2))) else (f_X10_refuses S (-2))) else (f_X10_refuses S (-2))
set_option maxHeartbeats 4000000 in
set_option maxRecDepth 100000 in
theorem k_X10_lay (l : Launch) (D : va_G) (cy : Nat → ClassId) (sz : Nat) (ad : Nat → Nat → Nat) (n : Nat) (S : SS) (ok : okM S) (x1 : Int32) (x2 : Int32) (x3 : Int32) : CI l yX10_lay cX10_lay 5 (some .int) 2 43 [.ref (ad 17 0), .int x1, .int x2, .int x3] D cy sz ad n S (f_X10_lay S x1 x2 x3) := by
  refine Met.enter (by decide) (Nat.le_of_ble_eq_true rfl) (fun p e s m args below meth c ls E G hl => ?_)
  have E : En p s m args meth c cX10_lay 5 (some .int) RX10 D cy sz := E
  obtain ⟨hx, hb, hrt, hml, hown, hw, hlk, hK, hF, hsz⟩ := id E
  have hl : lv_has ls 5 [(0, .ref (ad 17 0)), (1, .int x1), (2, .int x2), (3, .int x3)] := hl
  refine lv_iload_n hx hb dX10_lay_0 rfl (lv_at hl 1 rfl) ?_
  refine lv_iconst (v := 0) hx hb dX10_lay_1 (by decide) ?_
  refine lv_iconst (v := 3) hx hb dX10_lay_2 (by decide) ?_
  by_cases h1 : wj x1 0 3 = true
  · have v2 : vp_in x1 4 := wj_in h1 (by decide) (by decide)
    refine q_cSp E G [] (k_X10_in_t l D cy sz ad n S x1 0 3 h1) tb_489 tb_490 tb_6 tb_491 (nn := 3) (by decide +kernel) ⟨Nat.le_of_ble_eq_true rfl, Nat.le_of_ble_eq_true rfl⟩ rfl hl.1 rfl (Nat.le_of_ble_eq_true rfl) dX10_lay_3 ⟨Nat.zero_le _, Nat.zero_le _⟩ (fun H locs G => ?_)
    refine lv_if_eq (tgt := 19) hx hb dX10_lay_6 (by decide) (fun h => absurd h (by decide)) (fun _ => ?_)
    refine lv_iload_n hx hb dX10_lay_9 rfl (lv_at hl 3 rfl) ?_
    refine lv_iconst (v := 0) hx hb dX10_lay_10 (by decide) ?_
    refine lv_bipush (v := 9) hx hb dX10_lay_11 (by decide) ?_
    by_cases h3 : wj x3 0 9 = true
    · have v4 : vp_in x3 10 := wj_in h3 (by decide) (by decide)
      refine q_cSp E G [] (k_X10_in_t l D cy sz ad n S x3 0 9 h3) tb_489 tb_490 tb_6 tb_491 (nn := 3) (by decide +kernel) ⟨Nat.le_of_ble_eq_true rfl, Nat.le_of_ble_eq_true rfl⟩ rfl hl.1 rfl (Nat.le_of_ble_eq_true rfl) dX10_lay_13 ⟨Nat.zero_le _, Nat.zero_le _⟩ (fun H locs G => ?_)
      refine lv_if_ne (tgt := 26) hx hb dX10_lay_16 (by decide) (fun _ => ?_) (fun h => absurd h (by decide))
      refine lv_aload_n hx hb dX10_lay_26 rfl (lv_at hl 0 rfl) ?_
      refine q_get (index := 35) (ref := "ToolRoomModel") E G inX10 17 0 c17 sg_17 rfl 9 (by decide) tb_430 (Or.inl rfl) rfl dX10_lay_27 ?_
      refine lv_iload_n hx hb dX10_lay_30 rfl (lv_at hl 1 rfl) ?_
      refine q_iald E G 18 9 (c18 9 (by decide)) sa_18_9 v2 dX10_lay_31 ?_
      refine lv_iload_n hx hb dX10_lay_32 rfl (lv_at hl 2 rfl) ?_
      refine q_cSp E G [] (k_X10_lacks l D cy sz ad n S (S.1 18 9 x1.toNatClampNeg) x2) tb_574 tb_575 tb_6 tb_576 (nn := 2) (by decide +kernel) ⟨Nat.le_of_ble_eq_true rfl, Nat.le_of_ble_eq_true rfl⟩ rfl hl.1 rfl (Nat.le_of_ble_eq_true rfl) dX10_lay_33 ⟨Nat.zero_le _, Nat.zero_le _⟩ (fun H locs G => ?_)
      refine lv_istore (lv' := [(4, .int (pL (S.1 18 9 x1.toNatClampNeg) x2)), (0, .ref (ad 17 0)), (1, .int x1), (2, .int x2), (3, .int x3)]) hx hb dX10_lay_36 hl (by decide) rfl (fun ls hl => ?_)
      refine lv_iload hx hb dX10_lay_38 (lv_at hl 0 rfl) ?_
      refine lv_if_ne (tgt := 65) hx hb dX10_lay_40 (by decide) (fun h5 => ?_) (fun h5 => ?_)
      · refine lv_iload hx hb dX10_lay_65 (lv_at hl 0 rfl) ?_
        refine lv_if_eq (tgt := 77) hx hb dX10_lay_67 (by decide) (fun h => absurd h h5) (fun _ => ?_)
        refine lv_aload_n hx hb dX10_lay_70 rfl (lv_at hl 1 rfl) ?_
        refine lv_iload hx hb dX10_lay_71 (lv_at hl 0 rfl) ?_
        refine q_cV (rest := []) E G 17 0 c17 sg_17 (C := RX10) (T := TX10) (N := 21) rfl (k_X10_fails l D cy sz ad n S (pL (S.1 18 9 x1.toNatClampNeg) x2) pL_in) tb_516 tb_518 tp_10 tb_6 tb_519 (nn := 1) (by decide +kernel) ⟨Nat.le_of_ble_eq_true rfl, Nat.le_of_ble_eq_true rfl⟩ rfl hl.1 rfl (Nat.le_of_ble_eq_true rfl) dX10_lay_73 ⟨Nat.zero_le _, Nat.zero_le _⟩ (fun H locs G => ?_)
        exact q_iret E G (by unfold f_X10_lay; simp only [if_pos h1, if_pos h3, if_neg h5, pr_eta]) dX10_lay_76
      · have v6 : vp_in x2 10 := pL_0 h5 (ok.2.2.2.2.1 _ (vp_lt v2)) (by decide)
        refine lv_aload_n hx hb dX10_lay_43 rfl (lv_at hl 1 rfl) ?_
        refine lv_aload_n hx hb dX10_lay_44 rfl (lv_at hl 1 rfl) ?_
        refine q_get (index := 7) (ref := "ToolRoomModel") E G inX10 17 0 c17 sg_17 rfl 0 (by decide) tb_421 (Or.inl rfl) rfl dX10_lay_45 ?_
        refine lv_iload_n hx hb dX10_lay_48 rfl (lv_at hl 4 rfl) ?_
        refine q_iald E G 18 0 (c18 0 (by decide)) sa_18_0 v4 dX10_lay_49 ?_
        refine lv_aload_n hx hb dX10_lay_50 rfl (lv_at hl 1 rfl) ?_
        refine q_get (index := 38) (ref := "ToolRoomModel") E G inX10 17 0 c17 sg_17 rfl 10 (by decide) tb_431 (Or.inl rfl) rfl dX10_lay_51 ?_
        refine lv_iload_n hx hb dX10_lay_54 rfl (lv_at hl 2 rfl) ?_
        refine q_iald E G 18 10 (c18 10 (by decide)) sa_18_10 v2 dX10_lay_55 ?_
        refine q_cVp E G 17 0 c17 sg_17 (C := RX10) (T := TX10) (N := 21) rfl [] (k_X10_isOf l D cy sz ad n S (S.1 18 0 x3.toNatClampNeg) (S.1 18 10 x1.toNatClampNeg) (ok.1 _ (vp_lt v4))) tb_593 tb_595 tp_14 tb_6 tb_596 (nn := 2) (by decide +kernel) ⟨Nat.le_of_ble_eq_true rfl, Nat.le_of_ble_eq_true rfl⟩ rfl hl.1 rfl (Nat.le_of_ble_eq_true rfl) dX10_lay_56 ⟨Nat.zero_le _, Nat.zero_le _⟩ (fun H locs G => ?_)
        refine lv_if_ne (tgt := 65) hx hb dX10_lay_59 (by decide) (fun h7 => ?_) (fun h7 => ?_)
        · refine lv_iload hx hb dX10_lay_65 (lv_at hl 0 rfl) ?_
          refine lv_if_eq (tgt := 77) hx hb dX10_lay_67 (by decide) (fun _ => ?_) (fun h => absurd h5 h)
          refine lv_aload_n hx hb dX10_lay_77 rfl (lv_at hl 1 rfl) ?_
          refine q_get (index := 41) (ref := "ToolRoomModel") E G inX10 17 0 c17 sg_17 rfl 11 (by decide) tb_432 (Or.inl rfl) rfl dX10_lay_78 ?_
          refine lv_bipush (v := 10) hx hb dX10_lay_81 (by decide) ?_
          refine lv_iload_n hx hb dX10_lay_83 rfl (lv_at hl 2 rfl) ?_
          refine lv_imul hx hb dX10_lay_84 ?_
          refine lv_iload_n hx hb dX10_lay_85 rfl (lv_at hl 3 rfl) ?_
          refine lv_iadd hx hb dX10_lay_86 ?_
          refine lv_aload_n hx hb dX10_lay_87 rfl (lv_at hl 1 rfl) ?_
          refine q_get (index := 7) (ref := "ToolRoomModel") E G inX10 17 0 c17 sg_17 rfl 0 (by decide) tb_421 (Or.inl rfl) rfl dX10_lay_88 ?_
          refine lv_iload_n hx hb dX10_lay_91 rfl (lv_at hl 4 rfl) ?_
          refine q_iald E G 18 0 (c18 0 (by decide)) sa_18_0 v4 dX10_lay_92 ?_
          refine q_iast E G 18 11 (c18 11 (by decide)) (fun _ => sa_18_11) (ixv v2 v6 10 rfl (by decide) (by decide) (by decide) (by decide) (by decide)) dX10_lay_93 (fun H locs G => ?_)
          refine lv_aload_n hx hb dX10_lay_94 rfl (lv_at hl 1 rfl) ?_
          refine lv_iconst (v := 1) hx hb dX10_lay_95 (by decide) ?_
          refine q_cV (rest := []) E G 17 0 c17 sg_17 (C := RX10) (T := TX10) (N := 21) rfl (k_X10_says l D cy sz ad n (uI S 18 11 ((10 * x1) + x2).toNatClampNeg (S.1 18 0 x3.toNatClampNeg)) 1) tb_496 tb_498 tp_9 tb_6 tb_499 (nn := 1) (by decide +kernel) ⟨Nat.le_of_ble_eq_true rfl, Nat.le_of_ble_eq_true rfl⟩ rfl hl.1 rfl (Nat.le_of_ble_eq_true rfl) dX10_lay_96 ⟨Nat.zero_le _, Nat.zero_le _⟩ (fun H locs G => ?_)
          exact q_iret E G (by unfold f_X10_lay; simp only [if_pos h1, if_pos h3, if_pos h5, if_neg h7, pr_eta]) dX10_lay_99
        · refine lv_iconst (v := 5) hx hb dX10_lay_62 (by decide) ?_
          refine lv_istore (lv' := [(4, .int 5), (0, .ref (ad 17 0)), (1, .int x1), (2, .int x2), (3, .int x3)]) hx hb dX10_lay_63 hl (by decide) rfl (fun ls hl => ?_)
          refine lv_iload hx hb dX10_lay_65 (lv_at hl 0 rfl) ?_
          refine lv_if_eq (tgt := 77) hx hb dX10_lay_67 (by decide) (fun h => absurd h (by decide)) (fun _ => ?_)
          refine lv_aload_n hx hb dX10_lay_70 rfl (lv_at hl 1 rfl) ?_
          refine lv_iload hx hb dX10_lay_71 (lv_at hl 0 rfl) ?_
          refine q_cV (rest := []) E G 17 0 c17 sg_17 (C := RX10) (T := TX10) (N := 21) rfl (k_X10_fails l D cy sz ad n S 5 (by unfold vp_in; decide)) tb_516 tb_518 tp_10 tb_6 tb_519 (nn := 1) (by decide +kernel) ⟨Nat.le_of_ble_eq_true rfl, Nat.le_of_ble_eq_true rfl⟩ rfl hl.1 rfl (Nat.le_of_ble_eq_true rfl) dX10_lay_73 ⟨Nat.zero_le _, Nat.zero_le _⟩ (fun H locs G => ?_)
          exact q_iret E G (by unfold f_X10_lay; simp only [if_pos h1, if_pos h3, if_pos h5, if_pos h7, pr_eta]) dX10_lay_76
    · refine q_cSp E G [] (k_X10_in_f l D cy sz ad n S x3 0 9 h3) tb_489 tb_490 tb_6 tb_491 (nn := 3) (by decide +kernel) ⟨Nat.le_of_ble_eq_true rfl, Nat.le_of_ble_eq_true rfl⟩ rfl hl.1 rfl (Nat.le_of_ble_eq_true rfl) dX10_lay_13 ⟨Nat.zero_le _, Nat.zero_le _⟩ (fun H locs G => ?_)
      refine lv_if_ne (tgt := 26) hx hb dX10_lay_16 (by decide) (fun h => absurd h (by decide)) (fun _ => ?_)
      refine lv_aload_n hx hb dX10_lay_19 rfl (lv_at hl 0 rfl) ?_
      refine lv_bipush (v := (-2)) hx hb dX10_lay_20 (by decide) ?_
      refine q_cV (rest := []) E G 17 0 c17 sg_17 (C := RX10) (T := TX10) (N := 21) rfl (k_X10_refuses l D cy sz ad n S (-2)) tb_492 tb_494 tp_8 tb_6 tb_495 (nn := 1) (by decide +kernel) ⟨Nat.le_of_ble_eq_true rfl, Nat.le_of_ble_eq_true rfl⟩ rfl hl.1 rfl (Nat.le_of_ble_eq_true rfl) dX10_lay_22 ⟨Nat.zero_le _, Nat.zero_le _⟩ (fun H locs G => ?_)
      exact q_iret E G (by unfold f_X10_lay; simp only [if_pos h1, if_neg h3, pr_eta]) dX10_lay_25
  · refine q_cSp E G [] (k_X10_in_f l D cy sz ad n S x1 0 3 h1) tb_489 tb_490 tb_6 tb_491 (nn := 3) (by decide +kernel) ⟨Nat.le_of_ble_eq_true rfl, Nat.le_of_ble_eq_true rfl⟩ rfl hl.1 rfl (Nat.le_of_ble_eq_true rfl) dX10_lay_3 ⟨Nat.zero_le _, Nat.zero_le _⟩ (fun H locs G => ?_)
    refine lv_if_eq (tgt := 19) hx hb dX10_lay_6 (by decide) (fun _ => ?_) (fun h => absurd h (by decide))
    refine lv_aload_n hx hb dX10_lay_19 rfl (lv_at hl 0 rfl) ?_
    refine lv_bipush (v := (-2)) hx hb dX10_lay_20 (by decide) ?_
    refine q_cV (rest := []) E G 17 0 c17 sg_17 (C := RX10) (T := TX10) (N := 21) rfl (k_X10_refuses l D cy sz ad n S (-2)) tb_492 tb_494 tp_8 tb_6 tb_495 (nn := 1) (by decide +kernel) ⟨Nat.le_of_ble_eq_true rfl, Nat.le_of_ble_eq_true rfl⟩ rfl hl.1 rfl (Nat.le_of_ble_eq_true rfl) dX10_lay_22 ⟨Nat.zero_le _, Nat.zero_le _⟩ (fun H locs G => ?_)
    exact q_iret E G (by unfold f_X10_lay; simp only [if_neg h1, pr_eta]) dX10_lay_25

def f_X10_fetch (S : SS) (x1 : Int32) (x2 : Int32) (x3 : Int32) (x4 : Int32) : Int32 × SS := if wj x1 0 3 = true then (if wj x4 0 9 = true then (if wj x3 0 2 = true then (if (pL (S.1 18 9 x1.toNatClampNeg) x2) = 0 then (if (pO S (S.1 18 11 ((10 * x1) + x2).toNatClampNeg) x3) = 0 then (f_X10_fails S 4) else (f_X10_says (uI S 18 0 x4.toNatClampNeg (S.1 18 11 ((10 * x1) + x2).toNatClampNeg)) 1)) else (f_X10_fails S (pL (S.1 18 9 x1.toNatClampNeg) x2))) else (f_X10_refuses S (-3))) else (f_X10_refuses S (-2))) else (f_X10_refuses S (-2))
set_option maxHeartbeats 4000000 in
set_option maxRecDepth 100000 in
theorem k_X10_fetch (l : Launch) (D : va_G) (cy : Nat → ClassId) (sz : Nat) (ad : Nat → Nat → Nat) (n : Nat) (S : SS) (ok : okM S) (x1 : Int32) (x2 : Int32) (x3 : Int32) (x4 : Int32) : CI l yX10_fetch cX10_fetch 6 (some .int) 2 43 [.ref (ad 17 0), .int x1, .int x2, .int x3, .int x4] D cy sz ad n S (f_X10_fetch S x1 x2 x3 x4) := by
  refine Met.enter (by decide) (Nat.le_of_ble_eq_true rfl) (fun p e s m args below meth c ls E G hl => ?_)
  have E : En p s m args meth c cX10_fetch 6 (some .int) RX10 D cy sz := E
  obtain ⟨hx, hb, hrt, hml, hown, hw, hlk, hK, hF, hsz⟩ := id E
  have hl : lv_has ls 6 [(0, .ref (ad 17 0)), (1, .int x1), (2, .int x2), (3, .int x3), (4, .int x4)] := hl
  refine lv_iload_n hx hb dX10_fetch_0 rfl (lv_at hl 1 rfl) ?_
  refine lv_iconst (v := 0) hx hb dX10_fetch_1 (by decide) ?_
  refine lv_iconst (v := 3) hx hb dX10_fetch_2 (by decide) ?_
  by_cases h1 : wj x1 0 3 = true
  · have v2 : vp_in x1 4 := wj_in h1 (by decide) (by decide)
    refine q_cSp E G [] (k_X10_in_t l D cy sz ad n S x1 0 3 h1) tb_489 tb_490 tb_6 tb_491 (nn := 3) (by decide +kernel) ⟨Nat.le_of_ble_eq_true rfl, Nat.le_of_ble_eq_true rfl⟩ rfl hl.1 rfl (Nat.le_of_ble_eq_true rfl) dX10_fetch_3 ⟨Nat.zero_le _, Nat.zero_le _⟩ (fun H locs G => ?_)
    refine lv_if_eq (tgt := 20) hx hb dX10_fetch_6 (by decide) (fun h => absurd h (by decide)) (fun _ => ?_)
    refine lv_iload hx hb dX10_fetch_9 (lv_at hl 4 rfl) ?_
    refine lv_iconst (v := 0) hx hb dX10_fetch_11 (by decide) ?_
    refine lv_bipush (v := 9) hx hb dX10_fetch_12 (by decide) ?_
    by_cases h3 : wj x4 0 9 = true
    · have v4 : vp_in x4 10 := wj_in h3 (by decide) (by decide)
      refine q_cSp E G [] (k_X10_in_t l D cy sz ad n S x4 0 9 h3) tb_489 tb_490 tb_6 tb_491 (nn := 3) (by decide +kernel) ⟨Nat.le_of_ble_eq_true rfl, Nat.le_of_ble_eq_true rfl⟩ rfl hl.1 rfl (Nat.le_of_ble_eq_true rfl) dX10_fetch_14 ⟨Nat.zero_le _, Nat.zero_le _⟩ (fun H locs G => ?_)
      refine lv_if_ne (tgt := 27) hx hb dX10_fetch_17 (by decide) (fun _ => ?_) (fun h => absurd h (by decide))
      refine lv_iload_n hx hb dX10_fetch_27 rfl (lv_at hl 3 rfl) ?_
      refine lv_iconst (v := 0) hx hb dX10_fetch_28 (by decide) ?_
      refine lv_iconst (v := 2) hx hb dX10_fetch_29 (by decide) ?_
      by_cases h5 : wj x3 0 2 = true
      · have v6 : vp_in x3 3 := wj_in h5 (by decide) (by decide)
        refine q_cSp E G [] (k_X10_in_t l D cy sz ad n S x3 0 2 h5) tb_489 tb_490 tb_6 tb_491 (nn := 3) (by decide +kernel) ⟨Nat.le_of_ble_eq_true rfl, Nat.le_of_ble_eq_true rfl⟩ rfl hl.1 rfl (Nat.le_of_ble_eq_true rfl) dX10_fetch_30 ⟨Nat.zero_le _, Nat.zero_le _⟩ (fun H locs G => ?_)
        refine lv_if_ne (tgt := 43) hx hb dX10_fetch_33 (by decide) (fun _ => ?_) (fun h => absurd h (by decide))
        refine lv_aload_n hx hb dX10_fetch_43 rfl (lv_at hl 0 rfl) ?_
        refine q_get (index := 35) (ref := "ToolRoomModel") E G inX10 17 0 c17 sg_17 rfl 9 (by decide) tb_430 (Or.inl rfl) rfl dX10_fetch_44 ?_
        refine lv_iload_n hx hb dX10_fetch_47 rfl (lv_at hl 1 rfl) ?_
        refine q_iald E G 18 9 (c18 9 (by decide)) sa_18_9 v2 dX10_fetch_48 ?_
        refine lv_iload_n hx hb dX10_fetch_49 rfl (lv_at hl 2 rfl) ?_
        refine q_cSp E G [] (k_X10_lacks l D cy sz ad n S (S.1 18 9 x1.toNatClampNeg) x2) tb_574 tb_575 tb_6 tb_576 (nn := 2) (by decide +kernel) ⟨Nat.le_of_ble_eq_true rfl, Nat.le_of_ble_eq_true rfl⟩ rfl hl.1 rfl (Nat.le_of_ble_eq_true rfl) dX10_fetch_50 ⟨Nat.zero_le _, Nat.zero_le _⟩ (fun H locs G => ?_)
        refine lv_istore (lv' := [(5, .int (pL (S.1 18 9 x1.toNatClampNeg) x2)), (0, .ref (ad 17 0)), (1, .int x1), (2, .int x2), (3, .int x3), (4, .int x4)]) hx hb dX10_fetch_53 hl (by decide) rfl (fun ls hl => ?_)
        refine lv_iload hx hb dX10_fetch_55 (lv_at hl 0 rfl) ?_
        refine lv_if_ne (tgt := 82) hx hb dX10_fetch_57 (by decide) (fun h7 => ?_) (fun h7 => ?_)
        · refine lv_iload hx hb dX10_fetch_82 (lv_at hl 0 rfl) ?_
          refine lv_if_eq (tgt := 94) hx hb dX10_fetch_84 (by decide) (fun h => absurd h h7) (fun _ => ?_)
          refine lv_aload_n hx hb dX10_fetch_87 rfl (lv_at hl 1 rfl) ?_
          refine lv_iload hx hb dX10_fetch_88 (lv_at hl 0 rfl) ?_
          refine q_cV (rest := []) E G 17 0 c17 sg_17 (C := RX10) (T := TX10) (N := 21) rfl (k_X10_fails l D cy sz ad n S (pL (S.1 18 9 x1.toNatClampNeg) x2) pL_in) tb_516 tb_518 tp_10 tb_6 tb_519 (nn := 1) (by decide +kernel) ⟨Nat.le_of_ble_eq_true rfl, Nat.le_of_ble_eq_true rfl⟩ rfl hl.1 rfl (Nat.le_of_ble_eq_true rfl) dX10_fetch_90 ⟨Nat.zero_le _, Nat.zero_le _⟩ (fun H locs G => ?_)
          exact q_iret E G (by unfold f_X10_fetch; simp only [if_pos h1, if_pos h3, if_pos h5, if_neg h7, pr_eta]) dX10_fetch_93
        · have v8 : vp_in x2 10 := pL_0 h7 (ok.2.2.2.2.1 _ (vp_lt v2)) (by decide)
          refine lv_aload_n hx hb dX10_fetch_60 rfl (lv_at hl 1 rfl) ?_
          refine lv_aload_n hx hb dX10_fetch_61 rfl (lv_at hl 1 rfl) ?_
          refine q_get (index := 41) (ref := "ToolRoomModel") E G inX10 17 0 c17 sg_17 rfl 11 (by decide) tb_432 (Or.inl rfl) rfl dX10_fetch_62 ?_
          refine lv_bipush (v := 10) hx hb dX10_fetch_65 (by decide) ?_
          refine lv_iload_n hx hb dX10_fetch_67 rfl (lv_at hl 2 rfl) ?_
          refine lv_imul hx hb dX10_fetch_68 ?_
          refine lv_iload_n hx hb dX10_fetch_69 rfl (lv_at hl 3 rfl) ?_
          refine lv_iadd hx hb dX10_fetch_70 ?_
          refine q_iald E G 18 11 (c18 11 (by decide)) sa_18_11 (ixv v2 v8 10 rfl (by decide) (by decide) (by decide) (by decide) (by decide)) dX10_fetch_71 ?_
          refine lv_iload_n hx hb dX10_fetch_72 rfl (lv_at hl 4 rfl) ?_
          refine q_cVp E G 17 0 c17 sg_17 (C := RX10) (T := TX10) (N := 21) rfl [] (k_X10_isOf l D cy sz ad n S (S.1 18 11 ((10 * x1) + x2).toNatClampNeg) x3 (ok.2.1 _ (vp_lt (ixv (N := 40) v2 v8 10 rfl (by decide) (by decide) (by decide) (by decide) (by decide))))) tb_593 tb_595 tp_14 tb_6 tb_596 (nn := 2) (by decide +kernel) ⟨Nat.le_of_ble_eq_true rfl, Nat.le_of_ble_eq_true rfl⟩ rfl hl.1 rfl (Nat.le_of_ble_eq_true rfl) dX10_fetch_73 ⟨Nat.zero_le _, Nat.zero_le _⟩ (fun H locs G => ?_)
          refine lv_if_ne (tgt := 82) hx hb dX10_fetch_76 (by decide) (fun h9 => ?_) (fun h9 => ?_)
          · refine lv_iload hx hb dX10_fetch_82 (lv_at hl 0 rfl) ?_
            refine lv_if_eq (tgt := 94) hx hb dX10_fetch_84 (by decide) (fun _ => ?_) (fun h => absurd h7 h)
            refine lv_aload_n hx hb dX10_fetch_94 rfl (lv_at hl 1 rfl) ?_
            refine q_get (index := 7) (ref := "ToolRoomModel") E G inX10 17 0 c17 sg_17 rfl 0 (by decide) tb_421 (Or.inl rfl) rfl dX10_fetch_95 ?_
            refine lv_iload hx hb dX10_fetch_98 (lv_at hl 5 rfl) ?_
            refine lv_aload_n hx hb dX10_fetch_100 rfl (lv_at hl 1 rfl) ?_
            refine q_get (index := 41) (ref := "ToolRoomModel") E G inX10 17 0 c17 sg_17 rfl 11 (by decide) tb_432 (Or.inl rfl) rfl dX10_fetch_101 ?_
            refine lv_bipush (v := 10) hx hb dX10_fetch_104 (by decide) ?_
            refine lv_iload_n hx hb dX10_fetch_106 rfl (lv_at hl 2 rfl) ?_
            refine lv_imul hx hb dX10_fetch_107 ?_
            refine lv_iload_n hx hb dX10_fetch_108 rfl (lv_at hl 3 rfl) ?_
            refine lv_iadd hx hb dX10_fetch_109 ?_
            refine q_iald E G 18 11 (c18 11 (by decide)) sa_18_11 (ixv v2 v8 10 rfl (by decide) (by decide) (by decide) (by decide) (by decide)) dX10_fetch_110 ?_
            refine q_iast E G 18 0 (c18 0 (by decide)) (fun _ => sa_18_0) v4 dX10_fetch_111 (fun H locs G => ?_)
            refine lv_aload_n hx hb dX10_fetch_112 rfl (lv_at hl 1 rfl) ?_
            refine lv_iconst (v := 1) hx hb dX10_fetch_113 (by decide) ?_
            refine q_cV (rest := []) E G 17 0 c17 sg_17 (C := RX10) (T := TX10) (N := 21) rfl (k_X10_says l D cy sz ad n (uI S 18 0 x4.toNatClampNeg (S.1 18 11 ((10 * x1) + x2).toNatClampNeg)) 1) tb_496 tb_498 tp_9 tb_6 tb_499 (nn := 1) (by decide +kernel) ⟨Nat.le_of_ble_eq_true rfl, Nat.le_of_ble_eq_true rfl⟩ rfl hl.1 rfl (Nat.le_of_ble_eq_true rfl) dX10_fetch_114 ⟨Nat.zero_le _, Nat.zero_le _⟩ (fun H locs G => ?_)
            exact q_iret E G (by unfold f_X10_fetch; simp only [if_pos h1, if_pos h3, if_pos h5, if_pos h7, if_neg h9, pr_eta]) dX10_fetch_117
          · refine lv_iconst (v := 4) hx hb dX10_fetch_79 (by decide) ?_
            refine lv_istore (lv' := [(5, .int 4), (0, .ref (ad 17 0)), (1, .int x1), (2, .int x2), (3, .int x3), (4, .int x4)]) hx hb dX10_fetch_80 hl (by decide) rfl (fun ls hl => ?_)
            refine lv_iload hx hb dX10_fetch_82 (lv_at hl 0 rfl) ?_
            refine lv_if_eq (tgt := 94) hx hb dX10_fetch_84 (by decide) (fun h => absurd h (by decide)) (fun _ => ?_)
            refine lv_aload_n hx hb dX10_fetch_87 rfl (lv_at hl 1 rfl) ?_
            refine lv_iload hx hb dX10_fetch_88 (lv_at hl 0 rfl) ?_
            refine q_cV (rest := []) E G 17 0 c17 sg_17 (C := RX10) (T := TX10) (N := 21) rfl (k_X10_fails l D cy sz ad n S 4 (by unfold vp_in; decide)) tb_516 tb_518 tp_10 tb_6 tb_519 (nn := 1) (by decide +kernel) ⟨Nat.le_of_ble_eq_true rfl, Nat.le_of_ble_eq_true rfl⟩ rfl hl.1 rfl (Nat.le_of_ble_eq_true rfl) dX10_fetch_90 ⟨Nat.zero_le _, Nat.zero_le _⟩ (fun H locs G => ?_)
            exact q_iret E G (by unfold f_X10_fetch; simp only [if_pos h1, if_pos h3, if_pos h5, if_pos h7, if_pos h9, pr_eta]) dX10_fetch_93
      · refine q_cSp E G [] (k_X10_in_f l D cy sz ad n S x3 0 2 h5) tb_489 tb_490 tb_6 tb_491 (nn := 3) (by decide +kernel) ⟨Nat.le_of_ble_eq_true rfl, Nat.le_of_ble_eq_true rfl⟩ rfl hl.1 rfl (Nat.le_of_ble_eq_true rfl) dX10_fetch_30 ⟨Nat.zero_le _, Nat.zero_le _⟩ (fun H locs G => ?_)
        refine lv_if_ne (tgt := 43) hx hb dX10_fetch_33 (by decide) (fun h => absurd h (by decide)) (fun _ => ?_)
        refine lv_aload_n hx hb dX10_fetch_36 rfl (lv_at hl 0 rfl) ?_
        refine lv_bipush (v := (-3)) hx hb dX10_fetch_37 (by decide) ?_
        refine q_cV (rest := []) E G 17 0 c17 sg_17 (C := RX10) (T := TX10) (N := 21) rfl (k_X10_refuses l D cy sz ad n S (-3)) tb_492 tb_494 tp_8 tb_6 tb_495 (nn := 1) (by decide +kernel) ⟨Nat.le_of_ble_eq_true rfl, Nat.le_of_ble_eq_true rfl⟩ rfl hl.1 rfl (Nat.le_of_ble_eq_true rfl) dX10_fetch_39 ⟨Nat.zero_le _, Nat.zero_le _⟩ (fun H locs G => ?_)
        exact q_iret E G (by unfold f_X10_fetch; simp only [if_pos h1, if_pos h3, if_neg h5, pr_eta]) dX10_fetch_42
    · refine q_cSp E G [] (k_X10_in_f l D cy sz ad n S x4 0 9 h3) tb_489 tb_490 tb_6 tb_491 (nn := 3) (by decide +kernel) ⟨Nat.le_of_ble_eq_true rfl, Nat.le_of_ble_eq_true rfl⟩ rfl hl.1 rfl (Nat.le_of_ble_eq_true rfl) dX10_fetch_14 ⟨Nat.zero_le _, Nat.zero_le _⟩ (fun H locs G => ?_)
      refine lv_if_ne (tgt := 27) hx hb dX10_fetch_17 (by decide) (fun h => absurd h (by decide)) (fun _ => ?_)
      refine lv_aload_n hx hb dX10_fetch_20 rfl (lv_at hl 0 rfl) ?_
      refine lv_bipush (v := (-2)) hx hb dX10_fetch_21 (by decide) ?_
      refine q_cV (rest := []) E G 17 0 c17 sg_17 (C := RX10) (T := TX10) (N := 21) rfl (k_X10_refuses l D cy sz ad n S (-2)) tb_492 tb_494 tp_8 tb_6 tb_495 (nn := 1) (by decide +kernel) ⟨Nat.le_of_ble_eq_true rfl, Nat.le_of_ble_eq_true rfl⟩ rfl hl.1 rfl (Nat.le_of_ble_eq_true rfl) dX10_fetch_23 ⟨Nat.zero_le _, Nat.zero_le _⟩ (fun H locs G => ?_)
      exact q_iret E G (by unfold f_X10_fetch; simp only [if_pos h1, if_neg h3, pr_eta]) dX10_fetch_26
  · refine q_cSp E G [] (k_X10_in_f l D cy sz ad n S x1 0 3 h1) tb_489 tb_490 tb_6 tb_491 (nn := 3) (by decide +kernel) ⟨Nat.le_of_ble_eq_true rfl, Nat.le_of_ble_eq_true rfl⟩ rfl hl.1 rfl (Nat.le_of_ble_eq_true rfl) dX10_fetch_3 ⟨Nat.zero_le _, Nat.zero_le _⟩ (fun H locs G => ?_)
    refine lv_if_eq (tgt := 20) hx hb dX10_fetch_6 (by decide) (fun _ => ?_) (fun h => absurd h (by decide))
    refine lv_aload_n hx hb dX10_fetch_20 rfl (lv_at hl 0 rfl) ?_
    refine lv_bipush (v := (-2)) hx hb dX10_fetch_21 (by decide) ?_
    refine q_cV (rest := []) E G 17 0 c17 sg_17 (C := RX10) (T := TX10) (N := 21) rfl (k_X10_refuses l D cy sz ad n S (-2)) tb_492 tb_494 tp_8 tb_6 tb_495 (nn := 1) (by decide +kernel) ⟨Nat.le_of_ble_eq_true rfl, Nat.le_of_ble_eq_true rfl⟩ rfl hl.1 rfl (Nat.le_of_ble_eq_true rfl) dX10_fetch_23 ⟨Nat.zero_le _, Nat.zero_le _⟩ (fun H locs G => ?_)
    exact q_iret E G (by unfold f_X10_fetch; simp only [if_neg h1, pr_eta]) dX10_fetch_26

def f_X10_strike (S : SS) (x1 : Int32) (x2 : Int32) : Int32 × SS := if wj x1 0 1 = true then (if (pL (S.1 18 12 x1.toNatClampNeg) x2) = 0 then (if 0 ≤ (S.1 18 13 ((8 * x1) + x2).toNatClampNeg) then (f_X10_says (uI S 18 13 ((8 * x1) + x2).toNatClampNeg (-1)) 1) else (f_X10_says (uI S 18 13 ((8 * x1) + x2).toNatClampNeg (-1)) 0)) else (f_X10_fails S (pL (S.1 18 12 x1.toNatClampNeg) x2))) else (f_X10_refuses S (-2))
set_option maxHeartbeats 4000000 in
set_option maxRecDepth 100000 in
theorem k_X10_strike (l : Launch) (D : va_G) (cy : Nat → ClassId) (sz : Nat) (ad : Nat → Nat → Nat) (n : Nat) (S : SS) (ok : okM S) (x1 : Int32) (x2 : Int32) : CI l yX10_strike cX10_strike 5 (some .int) 2 43 [.ref (ad 17 0), .int x1, .int x2] D cy sz ad n S (f_X10_strike S x1 x2) := by
  refine Met.enter (by decide) (Nat.le_of_ble_eq_true rfl) (fun p e s m args below meth c ls E G hl => ?_)
  have E : En p s m args meth c cX10_strike 5 (some .int) RX10 D cy sz := E
  obtain ⟨hx, hb, hrt, hml, hown, hw, hlk, hK, hF, hsz⟩ := id E
  have hl : lv_has ls 5 [(0, .ref (ad 17 0)), (1, .int x1), (2, .int x2)] := hl
  refine lv_iload_n hx hb dX10_strike_0 rfl (lv_at hl 1 rfl) ?_
  refine lv_iconst (v := 0) hx hb dX10_strike_1 (by decide) ?_
  refine lv_iconst (v := 1) hx hb dX10_strike_2 (by decide) ?_
  by_cases h1 : wj x1 0 1 = true
  · have v2 : vp_in x1 2 := wj_in h1 (by decide) (by decide)
    refine q_cSp E G [] (k_X10_in_t l D cy sz ad n S x1 0 1 h1) tb_489 tb_490 tb_6 tb_491 (nn := 3) (by decide +kernel) ⟨Nat.le_of_ble_eq_true rfl, Nat.le_of_ble_eq_true rfl⟩ rfl hl.1 rfl (Nat.le_of_ble_eq_true rfl) dX10_strike_3 ⟨Nat.zero_le _, Nat.zero_le _⟩ (fun H locs G => ?_)
    refine lv_if_ne (tgt := 16) hx hb dX10_strike_6 (by decide) (fun _ => ?_) (fun h => absurd h (by decide))
    refine lv_aload_n hx hb dX10_strike_16 rfl (lv_at hl 0 rfl) ?_
    refine q_get (index := 44) (ref := "ToolRoomModel") E G inX10 17 0 c17 sg_17 rfl 12 (by decide) tb_433 (Or.inl rfl) rfl dX10_strike_17 ?_
    refine lv_iload_n hx hb dX10_strike_20 rfl (lv_at hl 1 rfl) ?_
    refine q_iald E G 18 12 (c18 12 (by decide)) sa_18_12 v2 dX10_strike_21 ?_
    refine lv_iload_n hx hb dX10_strike_22 rfl (lv_at hl 2 rfl) ?_
    refine q_cSp E G [] (k_X10_lacks l D cy sz ad n S (S.1 18 12 x1.toNatClampNeg) x2) tb_574 tb_575 tb_6 tb_576 (nn := 2) (by decide +kernel) ⟨Nat.le_of_ble_eq_true rfl, Nat.le_of_ble_eq_true rfl⟩ rfl hl.1 rfl (Nat.le_of_ble_eq_true rfl) dX10_strike_23 ⟨Nat.zero_le _, Nat.zero_le _⟩ (fun H locs G => ?_)
    refine lv_istore_n (lv' := [(3, .int (pL (S.1 18 12 x1.toNatClampNeg) x2)), (0, .ref (ad 17 0)), (1, .int x1), (2, .int x2)]) hx hb dX10_strike_26 rfl hl (by decide) rfl (fun ls hl => ?_)
    refine lv_iload_n hx hb dX10_strike_27 rfl (lv_at hl 0 rfl) ?_
    refine lv_if_eq (tgt := 37) hx hb dX10_strike_28 (by decide) (fun h3 => ?_) (fun h3 => ?_)
    · have v4 : vp_in x2 8 := pL_0 h3 (ok.2.2.2.2.2.1 _ (vp_lt v2)) (by decide)
      refine lv_aload_n hx hb dX10_strike_37 rfl (lv_at hl 1 rfl) ?_
      refine q_get (index := 47) (ref := "ToolRoomModel") E G inX10 17 0 c17 sg_17 rfl 13 (by decide) tb_434 (Or.inl rfl) rfl dX10_strike_38 ?_
      refine lv_bipush (v := 8) hx hb dX10_strike_41 (by decide) ?_
      refine lv_iload_n hx hb dX10_strike_43 rfl (lv_at hl 2 rfl) ?_
      refine lv_imul hx hb dX10_strike_44 ?_
      refine lv_iload_n hx hb dX10_strike_45 rfl (lv_at hl 3 rfl) ?_
      refine lv_iadd hx hb dX10_strike_46 ?_
      refine q_iald E G 18 13 (c18 13 (by decide)) sa_18_13 (ixv v2 v4 8 rfl (by decide) (by decide) (by decide) (by decide) (by decide)) dX10_strike_47 ?_
      refine lv_if_ge (tgt := 55) hx hb dX10_strike_48 (by decide) (fun h5 => ?_) (fun h5 => ?_)
      · refine lv_iconst (v := 1) hx hb dX10_strike_55 (by decide) ?_
        refine lv_istore (lv' := [(4, .int 1), (3, .int (pL (S.1 18 12 x1.toNatClampNeg) x2)), (0, .ref (ad 17 0)), (1, .int x1), (2, .int x2)]) hx hb dX10_strike_56 hl (by decide) rfl (fun ls hl => ?_)
        refine lv_aload_n hx hb dX10_strike_58 rfl (lv_at hl 2 rfl) ?_
        refine q_get (index := 47) (ref := "ToolRoomModel") E G inX10 17 0 c17 sg_17 rfl 13 (by decide) tb_434 (Or.inl rfl) rfl dX10_strike_59 ?_
        refine lv_bipush (v := 8) hx hb dX10_strike_62 (by decide) ?_
        refine lv_iload_n hx hb dX10_strike_64 rfl (lv_at hl 3 rfl) ?_
        refine lv_imul hx hb dX10_strike_65 ?_
        refine lv_iload_n hx hb dX10_strike_66 rfl (lv_at hl 4 rfl) ?_
        refine lv_iadd hx hb dX10_strike_67 ?_
        refine lv_iconst (v := (-1)) hx hb dX10_strike_68 (by decide) ?_
        refine q_iast E G 18 13 (c18 13 (by decide)) (fun _ => sa_18_13) (ixv v2 v4 8 rfl (by decide) (by decide) (by decide) (by decide) (by decide)) dX10_strike_69 (fun H locs G => ?_)
        refine lv_aload_n hx hb dX10_strike_70 rfl (lv_at hl 2 rfl) ?_
        refine lv_iload hx hb dX10_strike_71 (lv_at hl 0 rfl) ?_
        refine q_cV (rest := []) E G 17 0 c17 sg_17 (C := RX10) (T := TX10) (N := 21) rfl (k_X10_says l D cy sz ad n (uI S 18 13 ((8 * x1) + x2).toNatClampNeg (-1)) 1) tb_496 tb_498 tp_9 tb_6 tb_499 (nn := 1) (by decide +kernel) ⟨Nat.le_of_ble_eq_true rfl, Nat.le_of_ble_eq_true rfl⟩ rfl hl.1 rfl (Nat.le_of_ble_eq_true rfl) dX10_strike_73 ⟨Nat.zero_le _, Nat.zero_le _⟩ (fun H locs G => ?_)
        exact q_iret E G (by unfold f_X10_strike; simp only [if_pos h1, if_pos h3, if_pos h5, pr_eta]) dX10_strike_76
      · refine lv_iconst (v := 0) hx hb dX10_strike_51 (by decide) ?_
        refine lv_goto (tgt := 56) hx hb dX10_strike_52 (by decide) ?_
        refine lv_istore (lv' := [(4, .int 0), (3, .int (pL (S.1 18 12 x1.toNatClampNeg) x2)), (0, .ref (ad 17 0)), (1, .int x1), (2, .int x2)]) hx hb dX10_strike_56 hl (by decide) rfl (fun ls hl => ?_)
        refine lv_aload_n hx hb dX10_strike_58 rfl (lv_at hl 2 rfl) ?_
        refine q_get (index := 47) (ref := "ToolRoomModel") E G inX10 17 0 c17 sg_17 rfl 13 (by decide) tb_434 (Or.inl rfl) rfl dX10_strike_59 ?_
        refine lv_bipush (v := 8) hx hb dX10_strike_62 (by decide) ?_
        refine lv_iload_n hx hb dX10_strike_64 rfl (lv_at hl 3 rfl) ?_
        refine lv_imul hx hb dX10_strike_65 ?_
        refine lv_iload_n hx hb dX10_strike_66 rfl (lv_at hl 4 rfl) ?_
        refine lv_iadd hx hb dX10_strike_67 ?_
        refine lv_iconst (v := (-1)) hx hb dX10_strike_68 (by decide) ?_
        refine q_iast E G 18 13 (c18 13 (by decide)) (fun _ => sa_18_13) (ixv v2 v4 8 rfl (by decide) (by decide) (by decide) (by decide) (by decide)) dX10_strike_69 (fun H locs G => ?_)
        refine lv_aload_n hx hb dX10_strike_70 rfl (lv_at hl 2 rfl) ?_
        refine lv_iload hx hb dX10_strike_71 (lv_at hl 0 rfl) ?_
        refine q_cV (rest := []) E G 17 0 c17 sg_17 (C := RX10) (T := TX10) (N := 21) rfl (k_X10_says l D cy sz ad n (uI S 18 13 ((8 * x1) + x2).toNatClampNeg (-1)) 0) tb_496 tb_498 tp_9 tb_6 tb_499 (nn := 1) (by decide +kernel) ⟨Nat.le_of_ble_eq_true rfl, Nat.le_of_ble_eq_true rfl⟩ rfl hl.1 rfl (Nat.le_of_ble_eq_true rfl) dX10_strike_73 ⟨Nat.zero_le _, Nat.zero_le _⟩ (fun H locs G => ?_)
        exact q_iret E G (by unfold f_X10_strike; simp only [if_pos h1, if_pos h3, if_neg h5, pr_eta]) dX10_strike_76
    · refine lv_aload_n hx hb dX10_strike_31 rfl (lv_at hl 1 rfl) ?_
      refine lv_iload_n hx hb dX10_strike_32 rfl (lv_at hl 0 rfl) ?_
      refine q_cV (rest := []) E G 17 0 c17 sg_17 (C := RX10) (T := TX10) (N := 21) rfl (k_X10_fails l D cy sz ad n S (pL (S.1 18 12 x1.toNatClampNeg) x2) pL_in) tb_516 tb_518 tp_10 tb_6 tb_519 (nn := 1) (by decide +kernel) ⟨Nat.le_of_ble_eq_true rfl, Nat.le_of_ble_eq_true rfl⟩ rfl hl.1 rfl (Nat.le_of_ble_eq_true rfl) dX10_strike_33 ⟨Nat.zero_le _, Nat.zero_le _⟩ (fun H locs G => ?_)
      exact q_iret E G (by unfold f_X10_strike; simp only [if_pos h1, if_neg h3, pr_eta]) dX10_strike_36
  · refine q_cSp E G [] (k_X10_in_f l D cy sz ad n S x1 0 1 h1) tb_489 tb_490 tb_6 tb_491 (nn := 3) (by decide +kernel) ⟨Nat.le_of_ble_eq_true rfl, Nat.le_of_ble_eq_true rfl⟩ rfl hl.1 rfl (Nat.le_of_ble_eq_true rfl) dX10_strike_3 ⟨Nat.zero_le _, Nat.zero_le _⟩ (fun H locs G => ?_)
    refine lv_if_ne (tgt := 16) hx hb dX10_strike_6 (by decide) (fun h => absurd h (by decide)) (fun _ => ?_)
    refine lv_aload_n hx hb dX10_strike_9 rfl (lv_at hl 0 rfl) ?_
    refine lv_bipush (v := (-2)) hx hb dX10_strike_10 (by decide) ?_
    refine q_cV (rest := []) E G 17 0 c17 sg_17 (C := RX10) (T := TX10) (N := 21) rfl (k_X10_refuses l D cy sz ad n S (-2)) tb_492 tb_494 tp_8 tb_6 tb_495 (nn := 1) (by decide +kernel) ⟨Nat.le_of_ble_eq_true rfl, Nat.le_of_ble_eq_true rfl⟩ rfl hl.1 rfl (Nat.le_of_ble_eq_true rfl) dX10_strike_12 ⟨Nat.zero_le _, Nat.zero_le _⟩ (fun H locs G => ?_)
    exact q_iret E G (by unfold f_X10_strike; simp only [if_neg h1, pr_eta]) dX10_strike_15

def f_X10_mark (S : SS) (x1 : Int32) (x2 : Int32) (x3 : Int32) (x4 : Int32) : Int32 × SS := if wj x1 0 1 = true then (if (pD S x1 x2 x3) = 0 then (f_X10_says (uI S 18 14 (((64 * x1) + (8 * x2)) + x3).toNatClampNeg x4) 1) else (f_X10_fails S (pD S x1 x2 x3))) else (f_X10_refuses S (-2))
set_option maxHeartbeats 4000000 in
set_option maxRecDepth 100000 in
theorem k_X10_mark (l : Launch) (D : va_G) (cy : Nat → ClassId) (sz : Nat) (ad : Nat → Nat → Nat) (n : Nat) (S : SS) (ok : okM S) (x1 : Int32) (x2 : Int32) (x3 : Int32) (x4 : Int32) : CI l yX10_mark cX10_mark 6 (some .int) 3 67 [.ref (ad 17 0), .int x1, .int x2, .int x3, .int x4] D cy sz ad n S (f_X10_mark S x1 x2 x3 x4) := by
  refine Met.enter (by decide) (Nat.le_of_ble_eq_true rfl) (fun p e s m args below meth c ls E G hl => ?_)
  have E : En p s m args meth c cX10_mark 6 (some .int) RX10 D cy sz := E
  obtain ⟨hx, hb, hrt, hml, hown, hw, hlk, hK, hF, hsz⟩ := id E
  have hl : lv_has ls 6 [(0, .ref (ad 17 0)), (1, .int x1), (2, .int x2), (3, .int x3), (4, .int x4)] := hl
  refine lv_iload_n hx hb dX10_mark_0 rfl (lv_at hl 1 rfl) ?_
  refine lv_iconst (v := 0) hx hb dX10_mark_1 (by decide) ?_
  refine lv_iconst (v := 1) hx hb dX10_mark_2 (by decide) ?_
  by_cases h1 : wj x1 0 1 = true
  · have v2 : vp_in x1 2 := wj_in h1 (by decide) (by decide)
    refine q_cSp E G [] (k_X10_in_t l D cy sz ad n S x1 0 1 h1) tb_489 tb_490 tb_6 tb_491 (nn := 3) (by decide +kernel) ⟨Nat.le_of_ble_eq_true rfl, Nat.le_of_ble_eq_true rfl⟩ rfl hl.1 rfl (Nat.le_of_ble_eq_true rfl) dX10_mark_3 ⟨Nat.zero_le _, Nat.zero_le _⟩ (fun H locs G => ?_)
    refine lv_if_ne (tgt := 16) hx hb dX10_mark_6 (by decide) (fun _ => ?_) (fun h => absurd h (by decide))
    refine lv_aload_n hx hb dX10_mark_16 rfl (lv_at hl 0 rfl) ?_
    refine lv_iload_n hx hb dX10_mark_17 rfl (lv_at hl 1 rfl) ?_
    refine lv_iload_n hx hb dX10_mark_18 rfl (lv_at hl 2 rfl) ?_
    refine lv_iload_n hx hb dX10_mark_19 rfl (lv_at hl 3 rfl) ?_
    refine q_cVp E G 17 0 c17 sg_17 (C := RX10) (T := TX10) (N := 21) rfl [] (k_X10_lacksCell l D cy sz ad n S ok x1 x2 x3 v2) tb_613 tb_615 tp_15 tb_6 tb_616 (nn := 3) (by decide +kernel) ⟨Nat.le_of_ble_eq_true rfl, Nat.le_of_ble_eq_true rfl⟩ rfl hl.1 rfl (Nat.le_of_ble_eq_true rfl) dX10_mark_20 ⟨Nat.zero_le _, Nat.zero_le _⟩ (fun H locs G => ?_)
    refine lv_istore (lv' := [(5, .int (pD S x1 x2 x3)), (0, .ref (ad 17 0)), (1, .int x1), (2, .int x2), (3, .int x3), (4, .int x4)]) hx hb dX10_mark_23 hl (by decide) rfl (fun ls hl => ?_)
    refine lv_iload hx hb dX10_mark_25 (lv_at hl 0 rfl) ?_
    refine lv_if_eq (tgt := 37) hx hb dX10_mark_27 (by decide) (fun h3 => ?_) (fun h3 => ?_)
    · have v4 : vp_in x2 8 := pL_0 (pD_a h3) (ok.2.2.2.2.2.1 _ (vp_lt v2)) (by decide)
      have v5 : vp_in x3 8 := pL_0 (pD_b h3) (ok.2.2.2.2.2.2 _ (vp_lt (ixv (N := 16) v2 v4 8 rfl (by decide) (by decide) (by decide) (by decide) (by decide)))) (by decide)
      refine lv_aload_n hx hb dX10_mark_37 rfl (lv_at hl 1 rfl) ?_
      refine q_get (index := 50) (ref := "ToolRoomModel") E G inX10 17 0 c17 sg_17 rfl 14 (by decide) tb_435 (Or.inl rfl) rfl dX10_mark_38 ?_
      refine lv_bipush (v := 64) hx hb dX10_mark_41 (by decide) ?_
      refine lv_iload_n hx hb dX10_mark_43 rfl (lv_at hl 2 rfl) ?_
      refine lv_imul hx hb dX10_mark_44 ?_
      refine lv_bipush (v := 8) hx hb dX10_mark_45 (by decide) ?_
      refine lv_iload_n hx hb dX10_mark_47 rfl (lv_at hl 3 rfl) ?_
      refine lv_imul hx hb dX10_mark_48 ?_
      refine lv_iadd hx hb dX10_mark_49 ?_
      refine lv_iload_n hx hb dX10_mark_50 rfl (lv_at hl 4 rfl) ?_
      refine lv_iadd hx hb dX10_mark_51 ?_
      refine lv_iload hx hb dX10_mark_52 (lv_at hl 5 rfl) ?_
      refine q_iast E G 18 14 (c18 14 (by decide)) (fun _ => sa_18_14) (ix3v v2 v4 v5) dX10_mark_54 (fun H locs G => ?_)
      refine lv_aload_n hx hb dX10_mark_55 rfl (lv_at hl 1 rfl) ?_
      refine lv_iconst (v := 1) hx hb dX10_mark_56 (by decide) ?_
      refine q_cV (rest := []) E G 17 0 c17 sg_17 (C := RX10) (T := TX10) (N := 21) rfl (k_X10_says l D cy sz ad n (uI S 18 14 (((64 * x1) + (8 * x2)) + x3).toNatClampNeg x4) 1) tb_496 tb_498 tp_9 tb_6 tb_499 (nn := 1) (by decide +kernel) ⟨Nat.le_of_ble_eq_true rfl, Nat.le_of_ble_eq_true rfl⟩ rfl hl.1 rfl (Nat.le_of_ble_eq_true rfl) dX10_mark_57 ⟨Nat.zero_le _, Nat.zero_le _⟩ (fun H locs G => ?_)
      exact q_iret E G (by unfold f_X10_mark; simp only [if_pos h1, if_pos h3, pr_eta]) dX10_mark_60
    · refine lv_aload_n hx hb dX10_mark_30 rfl (lv_at hl 1 rfl) ?_
      refine lv_iload hx hb dX10_mark_31 (lv_at hl 0 rfl) ?_
      refine q_cV (rest := []) E G 17 0 c17 sg_17 (C := RX10) (T := TX10) (N := 21) rfl (k_X10_fails l D cy sz ad n S (pD S x1 x2 x3) pD_in) tb_516 tb_518 tp_10 tb_6 tb_519 (nn := 1) (by decide +kernel) ⟨Nat.le_of_ble_eq_true rfl, Nat.le_of_ble_eq_true rfl⟩ rfl hl.1 rfl (Nat.le_of_ble_eq_true rfl) dX10_mark_33 ⟨Nat.zero_le _, Nat.zero_le _⟩ (fun H locs G => ?_)
      exact q_iret E G (by unfold f_X10_mark; simp only [if_pos h1, if_neg h3, pr_eta]) dX10_mark_36
  · refine q_cSp E G [] (k_X10_in_f l D cy sz ad n S x1 0 1 h1) tb_489 tb_490 tb_6 tb_491 (nn := 3) (by decide +kernel) ⟨Nat.le_of_ble_eq_true rfl, Nat.le_of_ble_eq_true rfl⟩ rfl hl.1 rfl (Nat.le_of_ble_eq_true rfl) dX10_mark_3 ⟨Nat.zero_le _, Nat.zero_le _⟩ (fun H locs G => ?_)
    refine lv_if_ne (tgt := 16) hx hb dX10_mark_6 (by decide) (fun h => absurd h (by decide)) (fun _ => ?_)
    refine lv_aload_n hx hb dX10_mark_9 rfl (lv_at hl 0 rfl) ?_
    refine lv_bipush (v := (-2)) hx hb dX10_mark_10 (by decide) ?_
    refine q_cV (rest := []) E G 17 0 c17 sg_17 (C := RX10) (T := TX10) (N := 21) rfl (k_X10_refuses l D cy sz ad n S (-2)) tb_492 tb_494 tp_8 tb_6 tb_495 (nn := 1) (by decide +kernel) ⟨Nat.le_of_ble_eq_true rfl, Nat.le_of_ble_eq_true rfl⟩ rfl hl.1 rfl (Nat.le_of_ble_eq_true rfl) dX10_mark_12 ⟨Nat.zero_le _, Nat.zero_le _⟩ (fun H locs G => ?_)
    exact q_iret E G (by unfold f_X10_mark; simp only [if_neg h1, pr_eta]) dX10_mark_15

def f_X10_cell (S : SS) (x1 : Int32) (x2 : Int32) (x3 : Int32) : Int32 × SS := if wj x1 0 1 = true then (if (pD (uI S 17 0 17 0) x1 x2 x3) = 0 then ((S.1 18 14 (((64 * x1) + (8 * x2)) + x3).toNatClampNeg), (uI S 17 0 17 0)) else (0, (f_X10_fails (uI S 17 0 17 0) (pD (uI S 17 0 17 0) x1 x2 x3)).2)) else (0, (uI S 17 0 17 (-2)))
set_option maxHeartbeats 4000000 in
set_option maxRecDepth 100000 in
theorem k_X10_cell (l : Launch) (D : va_G) (cy : Nat → ClassId) (sz : Nat) (ad : Nat → Nat → Nat) (n : Nat) (S : SS) (ok : okM S) (x1 : Int32) (x2 : Int32) (x3 : Int32) : CI l yX10_cell cX10_cell 5 (some .int) 3 67 [.ref (ad 17 0), .int x1, .int x2, .int x3] D cy sz ad n S (f_X10_cell S x1 x2 x3) := by
  refine Met.enter (by decide) (Nat.le_of_ble_eq_true rfl) (fun p e s m args below meth c ls E G hl => ?_)
  have E : En p s m args meth c cX10_cell 5 (some .int) RX10 D cy sz := E
  obtain ⟨hx, hb, hrt, hml, hown, hw, hlk, hK, hF, hsz⟩ := id E
  have hl : lv_has ls 5 [(0, .ref (ad 17 0)), (1, .int x1), (2, .int x2), (3, .int x3)] := hl
  refine lv_aload_n hx hb dX10_cell_0 rfl (lv_at hl 0 rfl) ?_
  refine lv_iload_n hx hb dX10_cell_1 rfl (lv_at hl 1 rfl) ?_
  refine lv_iconst (v := 0) hx hb dX10_cell_2 (by decide) ?_
  refine lv_iconst (v := 1) hx hb dX10_cell_3 (by decide) ?_
  by_cases h1 : wj x1 0 1 = true
  · have v2 : vp_in x1 2 := wj_in h1 (by decide) (by decide)
    refine q_cSp E G [.ref (ad 17 0)] (k_X10_in_t l D cy sz ad n S x1 0 1 h1) tb_489 tb_490 tb_6 tb_491 (nn := 3) (by decide +kernel) ⟨Nat.le_of_ble_eq_true rfl, Nat.le_of_ble_eq_true rfl⟩ rfl hl.1 rfl (Nat.le_of_ble_eq_true rfl) dX10_cell_4 ⟨Nat.zero_le _, Nat.zero_le _⟩ (fun H locs G => ?_)
    refine lv_if_eq (tgt := 14) hx hb dX10_cell_7 (by decide) (fun h => absurd h (by decide)) (fun _ => ?_)
    refine lv_iconst (v := 0) hx hb dX10_cell_10 (by decide) ?_
    refine lv_goto (tgt := 16) hx hb dX10_cell_11 (by decide) ?_
    refine q_put (index := 62) (ref := "ToolRoomModel") E G inX10 tyX10 tyX10_ok nmX10 17 0 c17 17 sg_17 rfl 17 (by decide) tb_438 (Or.inl rfl) rfl (ty := .int) (by decide +kernel) rfl rfl (Nat.le_of_ble_eq_true rfl) sp_17_17 dX10_cell_16 (fun H locs G => ?_)
    refine lv_aload_n hx hb dX10_cell_19 rfl (lv_at hl 0 rfl) ?_
    refine q_get (index := 62) (ref := "ToolRoomModel") E G inX10 17 0 c17 sg_17 rfl 17 (by decide) tb_438 (Or.inl rfl) rfl dX10_cell_20 ?_
    rw [uI_self]
    refine lv_if_eq (tgt := 28) hx hb dX10_cell_23 (by decide) (fun _ => ?_) (fun h => absurd h (by decide))
    refine lv_aload_n hx hb dX10_cell_28 rfl (lv_at hl 0 rfl) ?_
    refine lv_iload_n hx hb dX10_cell_29 rfl (lv_at hl 1 rfl) ?_
    refine lv_iload_n hx hb dX10_cell_30 rfl (lv_at hl 2 rfl) ?_
    refine lv_iload_n hx hb dX10_cell_31 rfl (lv_at hl 3 rfl) ?_
    refine q_cVp E G 17 0 c17 sg_17 (C := RX10) (T := TX10) (N := 21) rfl [] (k_X10_lacksCell l D cy sz ad n (uI S 17 0 17 0) (okM_w ok) x1 x2 x3 v2) tb_613 tb_615 tp_15 tb_6 tb_616 (nn := 3) (by decide +kernel) ⟨Nat.le_of_ble_eq_true rfl, Nat.le_of_ble_eq_true rfl⟩ rfl hl.1 rfl (Nat.le_of_ble_eq_true rfl) dX10_cell_32 ⟨Nat.zero_le _, Nat.zero_le _⟩ (fun H locs G => ?_)
    refine lv_istore (lv' := [(4, .int (pD (uI S 17 0 17 0) x1 x2 x3)), (0, .ref (ad 17 0)), (1, .int x1), (2, .int x2), (3, .int x3)]) hx hb dX10_cell_35 hl (by decide) rfl (fun ls hl => ?_)
    refine lv_iload hx hb dX10_cell_37 (lv_at hl 0 rfl) ?_
    refine lv_if_eq (tgt := 52) hx hb dX10_cell_39 (by decide) (fun h3 => ?_) (fun h3 => ?_)
    · have v4 : vp_in x2 8 := pL_0 (pD_a h3) ((okM_w ok).2.2.2.2.2.1 _ (vp_lt v2)) (by decide)
      have v5 : vp_in x3 8 := pL_0 (pD_b h3) ((okM_w ok).2.2.2.2.2.2 _ (vp_lt (ixv (N := 16) v2 v4 8 rfl (by decide) (by decide) (by decide) (by decide) (by decide)))) (by decide)
      refine lv_aload_n hx hb dX10_cell_52 rfl (lv_at hl 1 rfl) ?_
      refine q_get (index := 50) (ref := "ToolRoomModel") E G inX10 17 0 c17 sg_17 rfl 14 (by decide) tb_435 (Or.inl rfl) rfl dX10_cell_53 ?_
      refine lv_bipush (v := 64) hx hb dX10_cell_56 (by decide) ?_
      refine lv_iload_n hx hb dX10_cell_58 rfl (lv_at hl 2 rfl) ?_
      refine lv_imul hx hb dX10_cell_59 ?_
      refine lv_bipush (v := 8) hx hb dX10_cell_60 (by decide) ?_
      refine lv_iload_n hx hb dX10_cell_62 rfl (lv_at hl 3 rfl) ?_
      refine lv_imul hx hb dX10_cell_63 ?_
      refine lv_iadd hx hb dX10_cell_64 ?_
      refine lv_iload_n hx hb dX10_cell_65 rfl (lv_at hl 4 rfl) ?_
      refine lv_iadd hx hb dX10_cell_66 ?_
      refine q_iald E G 18 14 (c18 14 (by decide)) sa_18_14 (ix3v v2 v4 v5) dX10_cell_67 ?_
      rw [uI_nf (by decide)]
      exact q_iret E G (by unfold f_X10_cell; simp only [if_pos h1, if_pos h3, pr_eta]) dX10_cell_68
    · refine lv_aload_n hx hb dX10_cell_42 rfl (lv_at hl 1 rfl) ?_
      refine lv_iload hx hb dX10_cell_43 (lv_at hl 0 rfl) ?_
      refine q_cV (rest := []) E G 17 0 c17 sg_17 (C := RX10) (T := TX10) (N := 21) rfl (k_X10_fails l D cy sz ad n (uI S 17 0 17 0) (pD (uI S 17 0 17 0) x1 x2 x3) pD_in) tb_516 tb_518 tp_10 tb_6 tb_519 (nn := 1) (by decide +kernel) ⟨Nat.le_of_ble_eq_true rfl, Nat.le_of_ble_eq_true rfl⟩ rfl hl.1 rfl (Nat.le_of_ble_eq_true rfl) dX10_cell_45 ⟨Nat.zero_le _, Nat.zero_le _⟩ (fun H locs G => ?_)
      refine lv_istore (lv' := [(4, .int (f_X10_fails (uI S 17 0 17 0) (pD (uI S 17 0 17 0) x1 x2 x3)).1), (0, .ref (ad 17 0)), (1, .int x1), (2, .int x2), (3, .int x3)]) hx hb dX10_cell_48 hl (by decide) rfl (fun ls hl => ?_)
      refine lv_iconst (v := 0) hx hb dX10_cell_50 (by decide) ?_
      exact q_iret E G (by unfold f_X10_cell; simp only [if_pos h1, if_neg h3, pr_eta]) dX10_cell_51
  · refine q_cSp E G [.ref (ad 17 0)] (k_X10_in_f l D cy sz ad n S x1 0 1 h1) tb_489 tb_490 tb_6 tb_491 (nn := 3) (by decide +kernel) ⟨Nat.le_of_ble_eq_true rfl, Nat.le_of_ble_eq_true rfl⟩ rfl hl.1 rfl (Nat.le_of_ble_eq_true rfl) dX10_cell_4 ⟨Nat.zero_le _, Nat.zero_le _⟩ (fun H locs G => ?_)
    refine lv_if_eq (tgt := 14) hx hb dX10_cell_7 (by decide) (fun _ => ?_) (fun h => absurd h (by decide))
    refine lv_bipush (v := (-2)) hx hb dX10_cell_14 (by decide) ?_
    refine q_put (index := 62) (ref := "ToolRoomModel") E G inX10 tyX10 tyX10_ok nmX10 17 0 c17 17 sg_17 rfl 17 (by decide) tb_438 (Or.inl rfl) rfl (ty := .int) (by decide +kernel) rfl rfl (Nat.le_of_ble_eq_true rfl) sp_17_17 dX10_cell_16 (fun H locs G => ?_)
    refine lv_aload_n hx hb dX10_cell_19 rfl (lv_at hl 0 rfl) ?_
    refine q_get (index := 62) (ref := "ToolRoomModel") E G inX10 17 0 c17 sg_17 rfl 17 (by decide) tb_438 (Or.inl rfl) rfl dX10_cell_20 ?_
    rw [uI_self]
    refine lv_if_eq (tgt := 28) hx hb dX10_cell_23 (by decide) (fun h => absurd h (by decide)) (fun _ => ?_)
    refine lv_iconst (v := 0) hx hb dX10_cell_26 (by decide) ?_
    exact q_iret E G (by unfold f_X10_cell; simp only [if_neg h1, pr_eta]) dX10_cell_27

def f_X10_alarm (S : SS) (x1 : Int32) (x2 : Int32) : Int32 × SS := if wj x1 0 3 = true then (if (S.1 18 15 x1.toNatClampNeg) = 0 then (f_X10_says (uI (uI S 18 15 x1.toNatClampNeg 1) 18 16 x1.toNatClampNeg x2) 1) else (f_X10_says (uI (uI S 18 15 x1.toNatClampNeg 1) 18 16 x1.toNatClampNeg x2) 0)) else (f_X10_refuses S (-2))
set_option maxHeartbeats 4000000 in
set_option maxRecDepth 100000 in
theorem k_X10_alarm (l : Launch) (D : va_G) (cy : Nat → ClassId) (sz : Nat) (ad : Nat → Nat → Nat) (n : Nat) (S : SS) (ok : okM S) (x1 : Int32) (x2 : Int32) : CI l yX10_alarm cX10_alarm 4 (some .int) 1 22 [.ref (ad 17 0), .int x1, .int x2] D cy sz ad n S (f_X10_alarm S x1 x2) := by
  refine Met.enter (by decide) (Nat.le_of_ble_eq_true rfl) (fun p e s m args below meth c ls E G hl => ?_)
  have E : En p s m args meth c cX10_alarm 4 (some .int) RX10 D cy sz := E
  obtain ⟨hx, hb, hrt, hml, hown, hw, hlk, hK, hF, hsz⟩ := id E
  have hl : lv_has ls 4 [(0, .ref (ad 17 0)), (1, .int x1), (2, .int x2)] := hl
  refine lv_iload_n hx hb dX10_alarm_0 rfl (lv_at hl 1 rfl) ?_
  refine lv_iconst (v := 0) hx hb dX10_alarm_1 (by decide) ?_
  refine lv_iconst (v := 3) hx hb dX10_alarm_2 (by decide) ?_
  by_cases h1 : wj x1 0 3 = true
  · have v2 : vp_in x1 4 := wj_in h1 (by decide) (by decide)
    refine q_cSp E G [] (k_X10_in_t l D cy sz ad n S x1 0 3 h1) tb_489 tb_490 tb_6 tb_491 (nn := 3) (by decide +kernel) ⟨Nat.le_of_ble_eq_true rfl, Nat.le_of_ble_eq_true rfl⟩ rfl hl.1 rfl (Nat.le_of_ble_eq_true rfl) dX10_alarm_3 ⟨Nat.zero_le _, Nat.zero_le _⟩ (fun H locs G => ?_)
    refine lv_if_ne (tgt := 16) hx hb dX10_alarm_6 (by decide) (fun _ => ?_) (fun h => absurd h (by decide))
    refine lv_aload_n hx hb dX10_alarm_16 rfl (lv_at hl 0 rfl) ?_
    refine q_get (index := 53) (ref := "ToolRoomModel") E G inX10 17 0 c17 sg_17 rfl 15 (by decide) tb_436 (Or.inl rfl) rfl dX10_alarm_17 ?_
    refine lv_iload_n hx hb dX10_alarm_20 rfl (lv_at hl 1 rfl) ?_
    refine q_zald E G 18 15 (c18 15 (by decide)) sa_18_15 v2 dX10_alarm_21 ?_
    refine lv_if_eq (tgt := 29) hx hb dX10_alarm_22 (by decide) (fun h3 => ?_) (fun h3 => ?_)
    · refine lv_iconst (v := 1) hx hb dX10_alarm_29 (by decide) ?_
      refine lv_istore_n (lv' := [(3, .int 1), (0, .ref (ad 17 0)), (1, .int x1), (2, .int x2)]) hx hb dX10_alarm_30 rfl hl (by decide) rfl (fun ls hl => ?_)
      refine lv_aload_n hx hb dX10_alarm_31 rfl (lv_at hl 1 rfl) ?_
      refine q_get (index := 53) (ref := "ToolRoomModel") E G inX10 17 0 c17 sg_17 rfl 15 (by decide) tb_436 (Or.inl rfl) rfl dX10_alarm_32 ?_
      refine lv_iload_n hx hb dX10_alarm_35 rfl (lv_at hl 2 rfl) ?_
      refine lv_iconst (v := 1) hx hb dX10_alarm_36 (by decide) ?_
      refine q_zast E G 18 15 (c18 15 (by decide)) (fun _ => sa_18_15) v2 (by decide) dX10_alarm_37 (fun H locs G => ?_)
      refine lv_aload_n hx hb dX10_alarm_38 rfl (lv_at hl 1 rfl) ?_
      refine q_get (index := 56) (ref := "ToolRoomModel") E G inX10 17 0 c17 sg_17 rfl 16 (by decide) tb_437 (Or.inl rfl) rfl dX10_alarm_39 ?_
      refine lv_iload_n hx hb dX10_alarm_42 rfl (lv_at hl 2 rfl) ?_
      refine lv_iload_n hx hb dX10_alarm_43 rfl (lv_at hl 3 rfl) ?_
      refine q_iast E G 18 16 (c18 16 (by decide)) (fun _ => sa_18_16) v2 dX10_alarm_44 (fun H locs G => ?_)
      refine lv_aload_n hx hb dX10_alarm_45 rfl (lv_at hl 1 rfl) ?_
      refine lv_iload_n hx hb dX10_alarm_46 rfl (lv_at hl 0 rfl) ?_
      refine q_cV (rest := []) E G 17 0 c17 sg_17 (C := RX10) (T := TX10) (N := 21) rfl (k_X10_says l D cy sz ad n (uI (uI S 18 15 x1.toNatClampNeg 1) 18 16 x1.toNatClampNeg x2) 1) tb_496 tb_498 tp_9 tb_6 tb_499 (nn := 1) (by decide +kernel) ⟨Nat.le_of_ble_eq_true rfl, Nat.le_of_ble_eq_true rfl⟩ rfl hl.1 rfl (Nat.le_of_ble_eq_true rfl) dX10_alarm_47 ⟨Nat.zero_le _, Nat.zero_le _⟩ (fun H locs G => ?_)
      exact q_iret E G (by unfold f_X10_alarm; simp only [if_pos h1, if_pos h3, pr_eta]) dX10_alarm_50
    · refine lv_iconst (v := 0) hx hb dX10_alarm_25 (by decide) ?_
      refine lv_goto (tgt := 30) hx hb dX10_alarm_26 (by decide) ?_
      refine lv_istore_n (lv' := [(3, .int 0), (0, .ref (ad 17 0)), (1, .int x1), (2, .int x2)]) hx hb dX10_alarm_30 rfl hl (by decide) rfl (fun ls hl => ?_)
      refine lv_aload_n hx hb dX10_alarm_31 rfl (lv_at hl 1 rfl) ?_
      refine q_get (index := 53) (ref := "ToolRoomModel") E G inX10 17 0 c17 sg_17 rfl 15 (by decide) tb_436 (Or.inl rfl) rfl dX10_alarm_32 ?_
      refine lv_iload_n hx hb dX10_alarm_35 rfl (lv_at hl 2 rfl) ?_
      refine lv_iconst (v := 1) hx hb dX10_alarm_36 (by decide) ?_
      refine q_zast E G 18 15 (c18 15 (by decide)) (fun _ => sa_18_15) v2 (by decide) dX10_alarm_37 (fun H locs G => ?_)
      refine lv_aload_n hx hb dX10_alarm_38 rfl (lv_at hl 1 rfl) ?_
      refine q_get (index := 56) (ref := "ToolRoomModel") E G inX10 17 0 c17 sg_17 rfl 16 (by decide) tb_437 (Or.inl rfl) rfl dX10_alarm_39 ?_
      refine lv_iload_n hx hb dX10_alarm_42 rfl (lv_at hl 2 rfl) ?_
      refine lv_iload_n hx hb dX10_alarm_43 rfl (lv_at hl 3 rfl) ?_
      refine q_iast E G 18 16 (c18 16 (by decide)) (fun _ => sa_18_16) v2 dX10_alarm_44 (fun H locs G => ?_)
      refine lv_aload_n hx hb dX10_alarm_45 rfl (lv_at hl 1 rfl) ?_
      refine lv_iload_n hx hb dX10_alarm_46 rfl (lv_at hl 0 rfl) ?_
      refine q_cV (rest := []) E G 17 0 c17 sg_17 (C := RX10) (T := TX10) (N := 21) rfl (k_X10_says l D cy sz ad n (uI (uI S 18 15 x1.toNatClampNeg 1) 18 16 x1.toNatClampNeg x2) 0) tb_496 tb_498 tp_9 tb_6 tb_499 (nn := 1) (by decide +kernel) ⟨Nat.le_of_ble_eq_true rfl, Nat.le_of_ble_eq_true rfl⟩ rfl hl.1 rfl (Nat.le_of_ble_eq_true rfl) dX10_alarm_47 ⟨Nat.zero_le _, Nat.zero_le _⟩ (fun H locs G => ?_)
      exact q_iret E G (by unfold f_X10_alarm; simp only [if_pos h1, if_neg h3, pr_eta]) dX10_alarm_50
  · refine q_cSp E G [] (k_X10_in_f l D cy sz ad n S x1 0 3 h1) tb_489 tb_490 tb_6 tb_491 (nn := 3) (by decide +kernel) ⟨Nat.le_of_ble_eq_true rfl, Nat.le_of_ble_eq_true rfl⟩ rfl hl.1 rfl (Nat.le_of_ble_eq_true rfl) dX10_alarm_3 ⟨Nat.zero_le _, Nat.zero_le _⟩ (fun H locs G => ?_)
    refine lv_if_ne (tgt := 16) hx hb dX10_alarm_6 (by decide) (fun h => absurd h (by decide)) (fun _ => ?_)
    refine lv_aload_n hx hb dX10_alarm_9 rfl (lv_at hl 0 rfl) ?_
    refine lv_bipush (v := (-2)) hx hb dX10_alarm_10 (by decide) ?_
    refine q_cV (rest := []) E G 17 0 c17 sg_17 (C := RX10) (T := TX10) (N := 21) rfl (k_X10_refuses l D cy sz ad n S (-2)) tb_492 tb_494 tp_8 tb_6 tb_495 (nn := 1) (by decide +kernel) ⟨Nat.le_of_ble_eq_true rfl, Nat.le_of_ble_eq_true rfl⟩ rfl hl.1 rfl (Nat.le_of_ble_eq_true rfl) dX10_alarm_12 ⟨Nat.zero_le _, Nat.zero_le _⟩ (fun H locs G => ?_)
    exact q_iret E G (by unfold f_X10_alarm; simp only [if_neg h1, pr_eta]) dX10_alarm_15

def f_X10_calm (S : SS) (x1 : Int32) : Int32 × SS := if wj x1 0 3 = true then (if (S.1 18 15 x1.toNatClampNeg) = 0 then (f_X10_says (uI S 18 15 x1.toNatClampNeg 0) 0) else (f_X10_says (uI S 18 15 x1.toNatClampNeg 0) 1)) else (f_X10_refuses S (-2))
set_option maxHeartbeats 4000000 in
set_option maxRecDepth 100000 in
theorem k_X10_calm (l : Launch) (D : va_G) (cy : Nat → ClassId) (sz : Nat) (ad : Nat → Nat → Nat) (n : Nat) (S : SS) (ok : okM S) (x1 : Int32) : CI l yX10_calm cX10_calm 3 (some .int) 1 22 [.ref (ad 17 0), .int x1] D cy sz ad n S (f_X10_calm S x1) := by
  refine Met.enter (by decide) (Nat.le_of_ble_eq_true rfl) (fun p e s m args below meth c ls E G hl => ?_)
  have E : En p s m args meth c cX10_calm 3 (some .int) RX10 D cy sz := E
  obtain ⟨hx, hb, hrt, hml, hown, hw, hlk, hK, hF, hsz⟩ := id E
  have hl : lv_has ls 3 [(0, .ref (ad 17 0)), (1, .int x1)] := hl
  refine lv_iload_n hx hb dX10_calm_0 rfl (lv_at hl 1 rfl) ?_
  refine lv_iconst (v := 0) hx hb dX10_calm_1 (by decide) ?_
  refine lv_iconst (v := 3) hx hb dX10_calm_2 (by decide) ?_
  by_cases h1 : wj x1 0 3 = true
  · have v2 : vp_in x1 4 := wj_in h1 (by decide) (by decide)
    refine q_cSp E G [] (k_X10_in_t l D cy sz ad n S x1 0 3 h1) tb_489 tb_490 tb_6 tb_491 (nn := 3) (by decide +kernel) ⟨Nat.le_of_ble_eq_true rfl, Nat.le_of_ble_eq_true rfl⟩ rfl hl.1 rfl (Nat.le_of_ble_eq_true rfl) dX10_calm_3 ⟨Nat.zero_le _, Nat.zero_le _⟩ (fun H locs G => ?_)
    refine lv_if_ne (tgt := 16) hx hb dX10_calm_6 (by decide) (fun _ => ?_) (fun h => absurd h (by decide))
    refine lv_aload_n hx hb dX10_calm_16 rfl (lv_at hl 0 rfl) ?_
    refine q_get (index := 53) (ref := "ToolRoomModel") E G inX10 17 0 c17 sg_17 rfl 15 (by decide) tb_436 (Or.inl rfl) rfl dX10_calm_17 ?_
    refine lv_iload_n hx hb dX10_calm_20 rfl (lv_at hl 1 rfl) ?_
    refine q_zald E G 18 15 (c18 15 (by decide)) sa_18_15 v2 dX10_calm_21 ?_
    refine lv_if_eq (tgt := 29) hx hb dX10_calm_22 (by decide) (fun h3 => ?_) (fun h3 => ?_)
    · refine lv_iconst (v := 0) hx hb dX10_calm_29 (by decide) ?_
      refine lv_istore_n (lv' := [(2, .int 0), (0, .ref (ad 17 0)), (1, .int x1)]) hx hb dX10_calm_30 rfl hl (by decide) rfl (fun ls hl => ?_)
      refine lv_aload_n hx hb dX10_calm_31 rfl (lv_at hl 1 rfl) ?_
      refine q_get (index := 53) (ref := "ToolRoomModel") E G inX10 17 0 c17 sg_17 rfl 15 (by decide) tb_436 (Or.inl rfl) rfl dX10_calm_32 ?_
      refine lv_iload_n hx hb dX10_calm_35 rfl (lv_at hl 2 rfl) ?_
      refine lv_iconst (v := 0) hx hb dX10_calm_36 (by decide) ?_
      refine q_zast E G 18 15 (c18 15 (by decide)) (fun _ => sa_18_15) v2 (by decide) dX10_calm_37 (fun H locs G => ?_)
      refine lv_aload_n hx hb dX10_calm_38 rfl (lv_at hl 1 rfl) ?_
      refine lv_iload_n hx hb dX10_calm_39 rfl (lv_at hl 0 rfl) ?_
      refine q_cV (rest := []) E G 17 0 c17 sg_17 (C := RX10) (T := TX10) (N := 21) rfl (k_X10_says l D cy sz ad n (uI S 18 15 x1.toNatClampNeg 0) 0) tb_496 tb_498 tp_9 tb_6 tb_499 (nn := 1) (by decide +kernel) ⟨Nat.le_of_ble_eq_true rfl, Nat.le_of_ble_eq_true rfl⟩ rfl hl.1 rfl (Nat.le_of_ble_eq_true rfl) dX10_calm_40 ⟨Nat.zero_le _, Nat.zero_le _⟩ (fun H locs G => ?_)
      exact q_iret E G (by unfold f_X10_calm; simp only [if_pos h1, if_pos h3, pr_eta]) dX10_calm_43
    · refine lv_iconst (v := 1) hx hb dX10_calm_25 (by decide) ?_
      refine lv_goto (tgt := 30) hx hb dX10_calm_26 (by decide) ?_
      refine lv_istore_n (lv' := [(2, .int 1), (0, .ref (ad 17 0)), (1, .int x1)]) hx hb dX10_calm_30 rfl hl (by decide) rfl (fun ls hl => ?_)
      refine lv_aload_n hx hb dX10_calm_31 rfl (lv_at hl 1 rfl) ?_
      refine q_get (index := 53) (ref := "ToolRoomModel") E G inX10 17 0 c17 sg_17 rfl 15 (by decide) tb_436 (Or.inl rfl) rfl dX10_calm_32 ?_
      refine lv_iload_n hx hb dX10_calm_35 rfl (lv_at hl 2 rfl) ?_
      refine lv_iconst (v := 0) hx hb dX10_calm_36 (by decide) ?_
      refine q_zast E G 18 15 (c18 15 (by decide)) (fun _ => sa_18_15) v2 (by decide) dX10_calm_37 (fun H locs G => ?_)
      refine lv_aload_n hx hb dX10_calm_38 rfl (lv_at hl 1 rfl) ?_
      refine lv_iload_n hx hb dX10_calm_39 rfl (lv_at hl 0 rfl) ?_
      refine q_cV (rest := []) E G 17 0 c17 sg_17 (C := RX10) (T := TX10) (N := 21) rfl (k_X10_says l D cy sz ad n (uI S 18 15 x1.toNatClampNeg 0) 1) tb_496 tb_498 tp_9 tb_6 tb_499 (nn := 1) (by decide +kernel) ⟨Nat.le_of_ble_eq_true rfl, Nat.le_of_ble_eq_true rfl⟩ rfl hl.1 rfl (Nat.le_of_ble_eq_true rfl) dX10_calm_40 ⟨Nat.zero_le _, Nat.zero_le _⟩ (fun H locs G => ?_)
      exact q_iret E G (by unfold f_X10_calm; simp only [if_pos h1, if_neg h3, pr_eta]) dX10_calm_43
  · refine q_cSp E G [] (k_X10_in_f l D cy sz ad n S x1 0 3 h1) tb_489 tb_490 tb_6 tb_491 (nn := 3) (by decide +kernel) ⟨Nat.le_of_ble_eq_true rfl, Nat.le_of_ble_eq_true rfl⟩ rfl hl.1 rfl (Nat.le_of_ble_eq_true rfl) dX10_calm_3 ⟨Nat.zero_le _, Nat.zero_le _⟩ (fun H locs G => ?_)
    refine lv_if_ne (tgt := 16) hx hb dX10_calm_6 (by decide) (fun h => absurd h (by decide)) (fun _ => ?_)
    refine lv_aload_n hx hb dX10_calm_9 rfl (lv_at hl 0 rfl) ?_
    refine lv_bipush (v := (-2)) hx hb dX10_calm_10 (by decide) ?_
    refine q_cV (rest := []) E G 17 0 c17 sg_17 (C := RX10) (T := TX10) (N := 21) rfl (k_X10_refuses l D cy sz ad n S (-2)) tb_492 tb_494 tp_8 tb_6 tb_495 (nn := 1) (by decide +kernel) ⟨Nat.le_of_ble_eq_true rfl, Nat.le_of_ble_eq_true rfl⟩ rfl hl.1 rfl (Nat.le_of_ble_eq_true rfl) dX10_calm_12 ⟨Nat.zero_le _, Nat.zero_le _⟩ (fun H locs G => ?_)
    exact q_iret E G (by unfold f_X10_calm; simp only [if_neg h1, pr_eta]) dX10_calm_15

def f_X10_let (S : SS) (x1 : Int32) : Int32 × SS := if wj x1 0 3 = true then (if (S.1 18 15 x1.toNatClampNeg) = 0 then (f_X10_fails S 1) else ((f_X10_fails S 6).1, (uI ((f_X10_fails S 6).2) 17 0 17 (((f_X10_fails S 6).2).1 18 16 x1.toNatClampNeg)))) else (f_X10_refuses S (-2))
set_option maxHeartbeats 4000000 in
set_option maxRecDepth 100000 in
theorem k_X10_let (l : Launch) (D : va_G) (cy : Nat → ClassId) (sz : Nat) (ad : Nat → Nat → Nat) (n : Nat) (S : SS) (ok : okM S) (x1 : Int32) : CI l yX10_let cX10_let 3 (some .int) 1 22 [.ref (ad 17 0), .int x1] D cy sz ad n S (f_X10_let S x1) := by
  refine Met.enter (by decide) (Nat.le_of_ble_eq_true rfl) (fun p e s m args below meth c ls E G hl => ?_)
  have E : En p s m args meth c cX10_let 3 (some .int) RX10 D cy sz := E
  obtain ⟨hx, hb, hrt, hml, hown, hw, hlk, hK, hF, hsz⟩ := id E
  have hl : lv_has ls 3 [(0, .ref (ad 17 0)), (1, .int x1)] := hl
  refine lv_iload_n hx hb dX10_let_0 rfl (lv_at hl 1 rfl) ?_
  refine lv_iconst (v := 0) hx hb dX10_let_1 (by decide) ?_
  refine lv_iconst (v := 3) hx hb dX10_let_2 (by decide) ?_
  by_cases h1 : wj x1 0 3 = true
  · have v2 : vp_in x1 4 := wj_in h1 (by decide) (by decide)
    refine q_cSp E G [] (k_X10_in_t l D cy sz ad n S x1 0 3 h1) tb_489 tb_490 tb_6 tb_491 (nn := 3) (by decide +kernel) ⟨Nat.le_of_ble_eq_true rfl, Nat.le_of_ble_eq_true rfl⟩ rfl hl.1 rfl (Nat.le_of_ble_eq_true rfl) dX10_let_3 ⟨Nat.zero_le _, Nat.zero_le _⟩ (fun H locs G => ?_)
    refine lv_if_ne (tgt := 16) hx hb dX10_let_6 (by decide) (fun _ => ?_) (fun h => absurd h (by decide))
    refine lv_aload_n hx hb dX10_let_16 rfl (lv_at hl 0 rfl) ?_
    refine q_get (index := 53) (ref := "ToolRoomModel") E G inX10 17 0 c17 sg_17 rfl 15 (by decide) tb_436 (Or.inl rfl) rfl dX10_let_17 ?_
    refine lv_iload_n hx hb dX10_let_20 rfl (lv_at hl 1 rfl) ?_
    refine q_zald E G 18 15 (c18 15 (by decide)) sa_18_15 v2 dX10_let_21 ?_
    refine lv_if_ne (tgt := 31) hx hb dX10_let_22 (by decide) (fun h3 => ?_) (fun h3 => ?_)
    · refine lv_aload_n hx hb dX10_let_31 rfl (lv_at hl 0 rfl) ?_
      refine lv_bipush (v := 6) hx hb dX10_let_32 (by decide) ?_
      refine q_cV (rest := []) E G 17 0 c17 sg_17 (C := RX10) (T := TX10) (N := 21) rfl (k_X10_fails l D cy sz ad n S 6 (by unfold vp_in; decide)) tb_516 tb_518 tp_10 tb_6 tb_519 (nn := 1) (by decide +kernel) ⟨Nat.le_of_ble_eq_true rfl, Nat.le_of_ble_eq_true rfl⟩ rfl hl.1 rfl (Nat.le_of_ble_eq_true rfl) dX10_let_34 ⟨Nat.zero_le _, Nat.zero_le _⟩ (fun H locs G => ?_)
      refine lv_istore_n (lv' := [(2, .int (f_X10_fails S 6).1), (0, .ref (ad 17 0)), (1, .int x1)]) hx hb dX10_let_37 rfl hl (by decide) rfl (fun ls hl => ?_)
      refine lv_aload_n hx hb dX10_let_38 rfl (lv_at hl 1 rfl) ?_
      refine lv_aload_n hx hb dX10_let_39 rfl (lv_at hl 1 rfl) ?_
      refine q_get (index := 56) (ref := "ToolRoomModel") E G inX10 17 0 c17 sg_17 rfl 16 (by decide) tb_437 (Or.inl rfl) rfl dX10_let_40 ?_
      refine lv_iload_n hx hb dX10_let_43 rfl (lv_at hl 2 rfl) ?_
      refine q_iald E G 18 16 (c18 16 (by decide)) sa_18_16 v2 dX10_let_44 ?_
      refine q_put (index := 62) (ref := "ToolRoomModel") E G inX10 tyX10 tyX10_ok nmX10 17 0 c17 17 sg_17 rfl 17 (by decide) tb_438 (Or.inl rfl) rfl (ty := .int) (by decide +kernel) rfl rfl (Nat.le_of_ble_eq_true rfl) sp_17_17 dX10_let_45 (fun H locs G => ?_)
      refine lv_iload_n hx hb dX10_let_48 rfl (lv_at hl 0 rfl) ?_
      exact q_iret E G (by unfold f_X10_let; simp only [if_pos h1, if_neg h3, pr_eta]) dX10_let_49
    · refine lv_aload_n hx hb dX10_let_25 rfl (lv_at hl 0 rfl) ?_
      refine lv_iconst (v := 1) hx hb dX10_let_26 (by decide) ?_
      refine q_cV (rest := []) E G 17 0 c17 sg_17 (C := RX10) (T := TX10) (N := 21) rfl (k_X10_fails l D cy sz ad n S 1 (by unfold vp_in; decide)) tb_516 tb_518 tp_10 tb_6 tb_519 (nn := 1) (by decide +kernel) ⟨Nat.le_of_ble_eq_true rfl, Nat.le_of_ble_eq_true rfl⟩ rfl hl.1 rfl (Nat.le_of_ble_eq_true rfl) dX10_let_27 ⟨Nat.zero_le _, Nat.zero_le _⟩ (fun H locs G => ?_)
      exact q_iret E G (by unfold f_X10_let; simp only [if_pos h1, if_pos h3, pr_eta]) dX10_let_30
  · refine q_cSp E G [] (k_X10_in_f l D cy sz ad n S x1 0 3 h1) tb_489 tb_490 tb_6 tb_491 (nn := 3) (by decide +kernel) ⟨Nat.le_of_ble_eq_true rfl, Nat.le_of_ble_eq_true rfl⟩ rfl hl.1 rfl (Nat.le_of_ble_eq_true rfl) dX10_let_3 ⟨Nat.zero_le _, Nat.zero_le _⟩ (fun H locs G => ?_)
    refine lv_if_ne (tgt := 16) hx hb dX10_let_6 (by decide) (fun h => absurd h (by decide)) (fun _ => ?_)
    refine lv_aload_n hx hb dX10_let_9 rfl (lv_at hl 0 rfl) ?_
    refine lv_bipush (v := (-2)) hx hb dX10_let_10 (by decide) ?_
    refine q_cV (rest := []) E G 17 0 c17 sg_17 (C := RX10) (T := TX10) (N := 21) rfl (k_X10_refuses l D cy sz ad n S (-2)) tb_492 tb_494 tp_8 tb_6 tb_495 (nn := 1) (by decide +kernel) ⟨Nat.le_of_ble_eq_true rfl, Nat.le_of_ble_eq_true rfl⟩ rfl hl.1 rfl (Nat.le_of_ble_eq_true rfl) dX10_let_12 ⟨Nat.zero_le _, Nat.zero_le _⟩ (fun H locs G => ?_)
    exact q_iret E G (by unfold f_X10_let; simp only [if_neg h1, pr_eta]) dX10_let_15

def f_X10_why (S : SS) : Int32 × SS := ((S.1 17 0 17), S)
set_option maxHeartbeats 4000000 in
set_option maxRecDepth 100000 in
theorem k_X10_why (l : Launch) (D : va_G) (cy : Nat → ClassId) (sz : Nat) (ad : Nat → Nat → Nat) (n : Nat) (S : SS) (ok : okM S) : CI l yX10_why cX10_why 1 (some .int) 0 0 [.ref (ad 17 0)] D cy sz ad n S (f_X10_why S ) := by
  refine Met.enter (by decide) (Nat.le_of_ble_eq_true rfl) (fun p e s m args below meth c ls E G hl => ?_)
  have E : En p s m args meth c cX10_why 1 (some .int) RX10 D cy sz := E
  obtain ⟨hx, hb, hrt, hml, hown, hw, hlk, hK, hF, hsz⟩ := id E
  have hl : lv_has ls 1 [(0, .ref (ad 17 0))] := hl
  refine lv_aload_n hx hb dX10_why_0 rfl (lv_at hl 0 rfl) ?_
  refine q_get (index := 62) (ref := "ToolRoomModel") E G inX10 17 0 c17 sg_17 rfl 17 (by decide) tb_438 (Or.inl rfl) rfl dX10_why_1 ?_
  exact q_iret E G (by rfl) dX10_why_4

def f_X10_count (S : SS) (x1 : Int32) : Int32 × SS := if wj x1 0 7 = true then (if x1 = 0 then ((S.1 17 0 18), S) else (if x1 = 7 then ((S.1 17 0 20), S) else ((S.1 18 19 x1.toNatClampNeg), S))) else ((-3), S)
set_option maxHeartbeats 4000000 in
set_option maxRecDepth 100000 in
theorem k_X10_count (l : Launch) (D : va_G) (cy : Nat → ClassId) (sz : Nat) (ad : Nat → Nat → Nat) (n : Nat) (S : SS) (ok : okM S) (x1 : Int32) : CI l yX10_count cX10_count 2 (some .int) 1 22 [.ref (ad 17 0), .int x1] D cy sz ad n S (f_X10_count S x1) := by
  refine Met.enter (by decide) (Nat.le_of_ble_eq_true rfl) (fun p e s m args below meth c ls E G hl => ?_)
  have E : En p s m args meth c cX10_count 2 (some .int) RX10 D cy sz := E
  obtain ⟨hx, hb, hrt, hml, hown, hw, hlk, hK, hF, hsz⟩ := id E
  have hl : lv_has ls 2 [(0, .ref (ad 17 0)), (1, .int x1)] := hl
  refine lv_iload_n hx hb dX10_count_0 rfl (lv_at hl 1 rfl) ?_
  refine lv_iconst (v := 0) hx hb dX10_count_1 (by decide) ?_
  refine lv_bipush (v := 7) hx hb dX10_count_2 (by decide) ?_
  by_cases h1 : wj x1 0 7 = true
  · have v2 : vp_in x1 8 := wj_in h1 (by decide) (by decide)
    refine q_cSp E G [] (k_X10_in_t l D cy sz ad n S x1 0 7 h1) tb_489 tb_490 tb_6 tb_491 (nn := 3) (by decide +kernel) ⟨Nat.le_of_ble_eq_true rfl, Nat.le_of_ble_eq_true rfl⟩ rfl hl.1 rfl (Nat.le_of_ble_eq_true rfl) dX10_count_4 ⟨Nat.zero_le _, Nat.zero_le _⟩ (fun H locs G => ?_)
    refine lv_if_ne (tgt := 13) hx hb dX10_count_7 (by decide) (fun _ => ?_) (fun h => absurd h (by decide))
    refine lv_iload_n hx hb dX10_count_13 rfl (lv_at hl 1 rfl) ?_
    refine lv_if_ne (tgt := 24) hx hb dX10_count_14 (by decide) (fun h3 => ?_) (fun h3 => ?_)
    · refine lv_iload_n hx hb dX10_count_24 rfl (lv_at hl 1 rfl) ?_
      refine lv_bipush (v := 7) hx hb dX10_count_25 (by decide) ?_
      refine lv_icmp_ne (tgt := 37) hx hb dX10_count_27 (by decide) (fun h4 => ?_) (fun h4 => ?_)
      · refine lv_aload_n hx hb dX10_count_37 rfl (lv_at hl 0 rfl) ?_
        refine q_get (index := 59) (ref := "ToolRoomModel") E G inX10 17 0 c17 sg_17 rfl 19 (by decide) tb_440 (Or.inl rfl) rfl dX10_count_38 ?_
        refine lv_iload_n hx hb dX10_count_41 rfl (lv_at hl 1 rfl) ?_
        refine q_iald E G 18 19 (c18 19 (by decide)) sa_18_19 (cnt7 v2 h4) dX10_count_42 ?_
        exact q_iret E G (by unfold f_X10_count; simp only [if_pos h1, if_neg h3, if_neg h4, pr_eta]) dX10_count_43
      · refine lv_aload_n hx hb dX10_count_30 rfl (lv_at hl 0 rfl) ?_
        refine q_get (index := 93) (ref := "ToolRoomModel") E G inX10 17 0 c17 sg_17 rfl 20 (by decide) tb_441 (Or.inl rfl) rfl dX10_count_31 ?_
        refine lv_goto (tgt := 43) hx hb dX10_count_34 (by decide) ?_
        exact q_iret E G (by unfold f_X10_count; simp only [if_pos h1, if_neg h3, if_pos h4, pr_eta]) dX10_count_43
    · refine lv_aload_n hx hb dX10_count_17 rfl (lv_at hl 0 rfl) ?_
      refine q_get (index := 66) (ref := "ToolRoomModel") E G inX10 17 0 c17 sg_17 rfl 18 (by decide) tb_439 (Or.inl rfl) rfl dX10_count_18 ?_
      refine lv_goto (tgt := 43) hx hb dX10_count_21 (by decide) ?_
      exact q_iret E G (by unfold f_X10_count; simp only [if_pos h1, if_pos h3, pr_eta]) dX10_count_43
  · refine q_cSp E G [] (k_X10_in_f l D cy sz ad n S x1 0 7 h1) tb_489 tb_490 tb_6 tb_491 (nn := 3) (by decide +kernel) ⟨Nat.le_of_ble_eq_true rfl, Nat.le_of_ble_eq_true rfl⟩ rfl hl.1 rfl (Nat.le_of_ble_eq_true rfl) dX10_count_4 ⟨Nat.zero_le _, Nat.zero_le _⟩ (fun H locs G => ?_)
    refine lv_if_ne (tgt := 13) hx hb dX10_count_7 (by decide) (fun h => absurd h (by decide)) (fun _ => ?_)
    refine lv_bipush (v := (-3)) hx hb dX10_count_10 (by decide) ?_
    exact q_iret E G (by unfold f_X10_count; simp only [if_neg h1, pr_eta]) dX10_count_12
end
