-- ===== PART A: goes FIRST, ahead of the names: the tables' words, and 'selects' of the private methods out of them =====
/-- a private method of a class that the tables say can be made, by its rows of tables_1 -/
def lw_okq (q : MethodName × Nat) : Prop := (q.1.cls ≠ "java/lang/invoke/MethodHandle" ∧ q.1.cls ≠ "java/lang/invoke/VarHandle") ∧ Cond.instantiable q.1.cls q.2 ∈ tables_1 ∧ Cond.privateMethod q.1 ∈ tables_1 ∧ Cond.instanceMethod q.1 ∈ tables_1
theorem lw_p0 : lw_okq (⟨"ToolRoom", "refuse", "(I)I"⟩, 10) := ⟨⟨by decide +kernel, by decide +kernel⟩, List.mem_of_getElem? (i := 13) (by decide +kernel), List.mem_of_getElem? (i := 121) (by decide +kernel), List.mem_of_getElem? (i := 122) (by decide +kernel)⟩
theorem lw_p1 : lw_okq (⟨"ToolRoom", "done", "(I)I"⟩, 10) := ⟨⟨by decide +kernel, by decide +kernel⟩, List.mem_of_getElem? (i := 13) (by decide +kernel), List.mem_of_getElem? (i := 193) (by decide +kernel), List.mem_of_getElem? (i := 194) (by decide +kernel)⟩
theorem lw_p2 : lw_okq (⟨"ToolRoom", "fail", "(I)I"⟩, 10) := ⟨⟨by decide +kernel, by decide +kernel⟩, List.mem_of_getElem? (i := 13) (by decide +kernel), List.mem_of_getElem? (i := 228) (by decide +kernel), List.mem_of_getElem? (i := 229) (by decide +kernel)⟩
theorem lw_p3 : lw_okq (⟨"ToolRoom", "refuseWithZero", "(I)I"⟩, 10) := ⟨⟨by decide +kernel, by decide +kernel⟩, List.mem_of_getElem? (i := 13) (by decide +kernel), List.mem_of_getElem? (i := 244) (by decide +kernel), List.mem_of_getElem? (i := 245) (by decide +kernel)⟩
theorem lw_p4 : lw_okq (⟨"ToolRoom", "failWithZero", "(I)I"⟩, 10) := ⟨⟨by decide +kernel, by decide +kernel⟩, List.mem_of_getElem? (i := 13) (by decide +kernel), List.mem_of_getElem? (i := 248) (by decide +kernel), List.mem_of_getElem? (i := 249) (by decide +kernel)⟩
theorem lw_p5 : lw_okq (⟨"ToolRoom", "edgeOf", "(LToolRoom$Tool;)I"⟩, 10) := ⟨⟨by decide +kernel, by decide +kernel⟩, List.mem_of_getElem? (i := 13) (by decide +kernel), List.mem_of_getElem? (i := 267) (by decide +kernel), List.mem_of_getElem? (i := 268) (by decide +kernel)⟩
theorem lw_p6 : lw_okq (⟨"ToolRoom", "shiftOnce", "(IILToolRoom$Row;I)I"⟩, 10) := ⟨⟨by decide +kernel, by decide +kernel⟩, List.mem_of_getElem? (i := 13) (by decide +kernel), List.mem_of_getElem? (i := 299) (by decide +kernel), List.mem_of_getElem? (i := 300) (by decide +kernel)⟩
theorem lw_p7 : lw_okq (⟨"ToolRoom", "holderOrNull", "(II)LToolRoom$Holder;"⟩, 10) := ⟨⟨by decide +kernel, by decide +kernel⟩, List.mem_of_getElem? (i := 13) (by decide +kernel), List.mem_of_getElem? (i := 325) (by decide +kernel), List.mem_of_getElem? (i := 326) (by decide +kernel)⟩
theorem lw_p8 : lw_okq (⟨"ToolRoomModel", "refuses", "(I)I"⟩, 21) := ⟨⟨by decide +kernel, by decide +kernel⟩, List.mem_of_getElem? (i := 416) (by decide +kernel), List.mem_of_getElem? (i := 493) (by decide +kernel), List.mem_of_getElem? (i := 494) (by decide +kernel)⟩
theorem lw_p9 : lw_okq (⟨"ToolRoomModel", "says", "(I)I"⟩, 21) := ⟨⟨by decide +kernel, by decide +kernel⟩, List.mem_of_getElem? (i := 416) (by decide +kernel), List.mem_of_getElem? (i := 497) (by decide +kernel), List.mem_of_getElem? (i := 498) (by decide +kernel)⟩
theorem lw_p10 : lw_okq (⟨"ToolRoomModel", "fails", "(I)I"⟩, 21) := ⟨⟨by decide +kernel, by decide +kernel⟩, List.mem_of_getElem? (i := 416) (by decide +kernel), List.mem_of_getElem? (i := 517) (by decide +kernel), List.mem_of_getElem? (i := 518) (by decide +kernel)⟩
theorem lw_p11 : lw_okq (⟨"ToolRoomModel", "weight", "(I)I"⟩, 21) := ⟨⟨by decide +kernel, by decide +kernel⟩, List.mem_of_getElem? (i := 416) (by decide +kernel), List.mem_of_getElem? (i := 536) (by decide +kernel), List.mem_of_getElem? (i := 537) (by decide +kernel)⟩
theorem lw_p12 : lw_okq (⟨"ToolRoomModel", "used", "(II)I"⟩, 21) := ⟨⟨by decide +kernel, by decide +kernel⟩, List.mem_of_getElem? (i := 416) (by decide +kernel), List.mem_of_getElem? (i := 548) (by decide +kernel), List.mem_of_getElem? (i := 549) (by decide +kernel)⟩
theorem lw_p13 : lw_okq (⟨"ToolRoomModel", "sizeOf", "(II)I"⟩, 21) := ⟨⟨by decide +kernel, by decide +kernel⟩, List.mem_of_getElem? (i := 416) (by decide +kernel), List.mem_of_getElem? (i := 567) (by decide +kernel), List.mem_of_getElem? (i := 568) (by decide +kernel)⟩
theorem lw_p14 : lw_okq (⟨"ToolRoomModel", "isOf", "(II)Z"⟩, 21) := ⟨⟨by decide +kernel, by decide +kernel⟩, List.mem_of_getElem? (i := 416) (by decide +kernel), List.mem_of_getElem? (i := 594) (by decide +kernel), List.mem_of_getElem? (i := 595) (by decide +kernel)⟩
theorem lw_p15 : lw_okq (⟨"ToolRoomModel", "lacksCell", "(III)I"⟩, 21) := ⟨⟨by decide +kernel, by decide +kernel⟩, List.mem_of_getElem? (i := 416) (by decide +kernel), List.mem_of_getElem? (i := 614) (by decide +kernel), List.mem_of_getElem? (i := 615) (by decide +kernel)⟩
def lw_privs_1 : List (MethodName × Nat) := [(⟨"ToolRoom", "refuse", "(I)I"⟩, 10), (⟨"ToolRoom", "done", "(I)I"⟩, 10), (⟨"ToolRoom", "fail", "(I)I"⟩, 10), (⟨"ToolRoom", "refuseWithZero", "(I)I"⟩, 10), (⟨"ToolRoom", "failWithZero", "(I)I"⟩, 10), (⟨"ToolRoom", "edgeOf", "(LToolRoom$Tool;)I"⟩, 10), (⟨"ToolRoom", "shiftOnce", "(IILToolRoom$Row;I)I"⟩, 10), (⟨"ToolRoom", "holderOrNull", "(II)LToolRoom$Holder;"⟩, 10), (⟨"ToolRoomModel", "refuses", "(I)I"⟩, 21), (⟨"ToolRoomModel", "says", "(I)I"⟩, 21), (⟨"ToolRoomModel", "fails", "(I)I"⟩, 21), (⟨"ToolRoomModel", "weight", "(I)I"⟩, 21), (⟨"ToolRoomModel", "used", "(II)I"⟩, 21), (⟨"ToolRoomModel", "sizeOf", "(II)I"⟩, 21), (⟨"ToolRoomModel", "isOf", "(II)Z"⟩, 21), (⟨"ToolRoomModel", "lacksCell", "(III)I"⟩, 21)]
theorem lw_r1 : ∀ q ∈ lw_privs_1, lw_okq q := List.forall_mem_cons.mpr ⟨lw_p0, List.forall_mem_cons.mpr ⟨lw_p1, List.forall_mem_cons.mpr ⟨lw_p2, List.forall_mem_cons.mpr ⟨lw_p3, List.forall_mem_cons.mpr ⟨lw_p4, List.forall_mem_cons.mpr ⟨lw_p5, List.forall_mem_cons.mpr ⟨lw_p6, List.forall_mem_cons.mpr ⟨lw_p7, List.forall_mem_cons.mpr ⟨lw_p8, List.forall_mem_cons.mpr ⟨lw_p9, List.forall_mem_cons.mpr ⟨lw_p10, List.forall_mem_cons.mpr ⟨lw_p11, List.forall_mem_cons.mpr ⟨lw_p12, List.forall_mem_cons.mpr ⟨lw_p13, List.forall_mem_cons.mpr ⟨lw_p14, List.forall_mem_cons.mpr ⟨lw_p15, fun _ h => absurd h List.not_mem_nil⟩⟩⟩⟩⟩⟩⟩⟩⟩⟩⟩⟩⟩⟩⟩⟩
def lw_privs : List (MethodName × Nat) := lw_privs_1
def lw_tbl : List Cond := k2_sels lw_privs ++ tables_1
theorem lw_privs_ok : ∀ q ∈ lw_privs, lw_okq q := lw_r1
-- ===== end of PART A; then your names; then what follows =====
/-! ===== BEGIN words of one list among another's, by their places ===== -/
/-! ===== END ===== -/

/-! ===== BEGIN printed: names, fields, word lists, decode rows ===== -/
def RX0 : String := "ToolRoom$Blade"
def TX0 : u_T := fun k => match k with
  | 0 => ("ToolRoom$Tool", "wear", "I", false)
  | 1 => ("ToolRoom$Tool", "hasCard", "Z", false)
  | 2 => ("ToolRoom$Tool", "name", "I", false)
  | _ => ("ToolRoom$Blade", "edge", "I", false)
def tyX0 : Nat → FieldType := fun k => match k with
  | 0 => .int
  | 1 => .boolean
  | 2 => .int
  | _ => .int
abbrev wsX00 : List Cond := u_ws RX0 TX0 4
theorem nmX0 : ∀ a, a < 4 → ∀ b, b < 4 → a ≠ b → (TX0 a).2.1 ≠ (TX0 b).2.1 := by decide +kernel
theorem tyX0_ok : ∀ k, k < 4 → parseFieldDescriptor (TX0 k).2.2.1 = some (tyX0 k) := by decide +kernel
abbrev cX0_init : ByteArray := prog_2_method_1_code
def yX0_init : MethodName := ⟨RX0, "<init>", "()V"⟩
abbrev cX0_kindNumber : ByteArray := prog_2_method_2_code
def yX0_kindNumber : MethodName := ⟨RX0, "kindNumber", "()I"⟩
abbrev cX0_weight : ByteArray := prog_2_method_3_code
def yX0_weight : MethodName := ⟨RX0, "weight", "()I"⟩
abbrev cX0_work : ByteArray := prog_2_method_4_code
def yX0_work : MethodName := ⟨RX0, "work", "(I)I"⟩
def RX1 : String := "ToolRoom$FileBlade"
def TX1 : u_T := fun k => match k with
  | 0 => ("ToolRoom$Blade", "edge", "I", false)
  | 1 => ("ToolRoom$Tool", "wear", "I", false)
  | 2 => ("ToolRoom$Tool", "hasCard", "Z", false)
  | _ => ("ToolRoom$Tool", "name", "I", false)
def tyX1 : Nat → FieldType := fun k => match k with
  | 0 => .int
  | 1 => .int
  | 2 => .boolean
  | _ => .int
abbrev wsX10 : List Cond := u_ws RX1 TX1 4
theorem nmX1 : ∀ a, a < 4 → ∀ b, b < 4 → a ≠ b → (TX1 a).2.1 ≠ (TX1 b).2.1 := by decide +kernel
theorem tyX1_ok : ∀ k, k < 4 → parseFieldDescriptor (TX1 k).2.2.1 = some (tyX1 k) := by decide +kernel
abbrev cX1_init : ByteArray := prog_3_method_1_code
def yX1_init : MethodName := ⟨RX1, "<init>", "()V"⟩
abbrev cX1_kindNumber : ByteArray := prog_3_method_2_code
def yX1_kindNumber : MethodName := ⟨RX1, "kindNumber", "()I"⟩
abbrev cX1_weight : ByteArray := prog_3_method_3_code
def yX1_weight : MethodName := ⟨RX1, "weight", "()I"⟩
abbrev cX1_work : ByteArray := prog_3_method_4_code
def yX1_work : MethodName := ⟨RX1, "work", "(I)I"⟩
def RX2 : String := "ToolRoom$Gauge"
def TX2 : u_T := fun k => match k with
  | 0 => ("ToolRoom$Tool", "wear", "I", false)
  | 1 => ("ToolRoom$Tool", "hasCard", "Z", false)
  | _ => ("ToolRoom$Tool", "name", "I", false)
def tyX2 : Nat → FieldType := fun k => match k with
  | 0 => .int
  | 1 => .boolean
  | _ => .int
abbrev wsX20 : List Cond := u_ws RX2 TX2 3
theorem nmX2 : ∀ a, a < 3 → ∀ b, b < 3 → a ≠ b → (TX2 a).2.1 ≠ (TX2 b).2.1 := by decide +kernel
theorem tyX2_ok : ∀ k, k < 3 → parseFieldDescriptor (TX2 k).2.2.1 = some (tyX2 k) := by decide +kernel
abbrev cX2_init : ByteArray := prog_4_method_1_code
def yX2_init : MethodName := ⟨RX2, "<init>", "()V"⟩
abbrev cX2_kindNumber : ByteArray := prog_4_method_2_code
def yX2_kindNumber : MethodName := ⟨RX2, "kindNumber", "()I"⟩
abbrev cX2_weight : ByteArray := prog_4_method_3_code
def yX2_weight : MethodName := ⟨RX2, "weight", "()I"⟩
abbrev cX2_work : ByteArray := prog_4_method_4_code
def yX2_work : MethodName := ⟨RX2, "work", "(I)I"⟩
def RX3 : String := "ToolRoom$Grid"
def TX3 : u_T := fun k => match k with
  | 0 => ("ToolRoom$Holder", "size", "I", false)
  | _ => ("ToolRoom$Grid", "rows", "[LToolRoom$Row;", true)
def tyX3 : Nat → FieldType := fun k => match k with
  | 0 => .int
  | _ => .array (.object "ToolRoom$Row")
abbrev wsX30 : List Cond := u_ws RX3 TX3 2
theorem nmX3 : ∀ a, a < 2 → ∀ b, b < 2 → a ≠ b → (TX3 a).2.1 ≠ (TX3 b).2.1 := by decide +kernel
theorem tyX3_ok : ∀ k, k < 2 → parseFieldDescriptor (TX3 k).2.2.1 = some (tyX3 k) := by decide +kernel
abbrev cX3_init : ByteArray := prog_5_method_1_code
def yX3_init : MethodName := ⟨RX3, "<init>", "()V"⟩
abbrev cX3_renew : ByteArray := prog_5_method_2_code
def yX3_renew : MethodName := ⟨RX3, "renew", "(II)V"⟩
def RX4 : String := "ToolRoom$Hammer"
def TX4 : u_T := fun k => match k with
  | 0 => ("ToolRoom$Tool", "wear", "I", false)
  | 1 => ("ToolRoom$Tool", "hasCard", "Z", false)
  | _ => ("ToolRoom$Tool", "name", "I", false)
def tyX4 : Nat → FieldType := fun k => match k with
  | 0 => .int
  | 1 => .boolean
  | _ => .int
abbrev wsX40 : List Cond := u_ws RX4 TX4 3
theorem nmX4 : ∀ a, a < 3 → ∀ b, b < 3 → a ≠ b → (TX4 a).2.1 ≠ (TX4 b).2.1 := by decide +kernel
theorem tyX4_ok : ∀ k, k < 3 → parseFieldDescriptor (TX4 k).2.2.1 = some (tyX4 k) := by decide +kernel
abbrev cX4_init : ByteArray := prog_6_method_1_code
def yX4_init : MethodName := ⟨RX4, "<init>", "()V"⟩
abbrev cX4_kindNumber : ByteArray := prog_6_method_2_code
def yX4_kindNumber : MethodName := ⟨RX4, "kindNumber", "()I"⟩
abbrev cX4_weight : ByteArray := prog_6_method_3_code
def yX4_weight : MethodName := ⟨RX4, "weight", "()I"⟩
abbrev cX4_work : ByteArray := prog_6_method_4_code
def yX4_work : MethodName := ⟨RX4, "work", "(I)I"⟩
def RX5 : String := "ToolRoom$Holder"
def TX5 : u_T := fun k => match k with
  | _ => ("", "", "", false)
def tyX5 : Nat → FieldType := fun k => match k with
  | _ => .int
abbrev wsX50 : List Cond := u_ws RX5 TX5 0
theorem nmX5 : ∀ a, a < 0 → ∀ b, b < 0 → a ≠ b → (TX5 a).2.1 ≠ (TX5 b).2.1 := by decide +kernel
theorem tyX5_ok : ∀ k, k < 0 → parseFieldDescriptor (TX5 k).2.2.1 = some (tyX5 k) := by decide +kernel
abbrev cX5_init : ByteArray := prog_7_method_1_code
def yX5_init : MethodName := ⟨RX5, "<init>", "()V"⟩
abbrev cX5_isMissing : ByteArray := prog_7_method_2_code
def yX5_isMissing : MethodName := ⟨RX5, "isMissing", "()Z"⟩
abbrev cX5_vanish : ByteArray := prog_7_method_3_code
def yX5_vanish : MethodName := ⟨RX5, "vanish", "()Z"⟩
def RX6 : String := "ToolRoom$Rack"
def TX6 : u_T := fun k => match k with
  | 0 => ("ToolRoom$Holder", "size", "I", false)
  | 1 => ("ToolRoom$Rack", "places", "[LToolRoom$Tool;", true)
  | _ => ("ToolRoom$Rack", "sort", "I", false)
def tyX6 : Nat → FieldType := fun k => match k with
  | 0 => .int
  | 1 => .array (.object "ToolRoom$Tool")
  | _ => .int
abbrev wsX60 : List Cond := u_ws RX6 TX6 3
theorem nmX6 : ∀ a, a < 3 → ∀ b, b < 3 → a ≠ b → (TX6 a).2.1 ≠ (TX6 b).2.1 := by decide +kernel
theorem tyX6_ok : ∀ k, k < 3 → parseFieldDescriptor (TX6 k).2.2.1 = some (tyX6 k) := by decide +kernel
abbrev cX6_init : ByteArray := prog_8_method_1_code
def yX6_init : MethodName := ⟨RX6, "<init>", "()V"⟩
abbrev cX6_renew : ByteArray := prog_8_method_2_code
def yX6_renew : MethodName := ⟨RX6, "renew", "(II)V"⟩
def RX7 : String := "ToolRoom$Row"
def TX7 : u_T := fun k => match k with
  | 0 => ("ToolRoom$Holder", "size", "I", false)
  | _ => ("ToolRoom$Row", "numbers", "[I", true)
def tyX7 : Nat → FieldType := fun k => match k with
  | 0 => .int
  | _ => .array .int
abbrev wsX70 : List Cond := u_ws RX7 TX7 2
theorem nmX7 : ∀ a, a < 2 → ∀ b, b < 2 → a ≠ b → (TX7 a).2.1 ≠ (TX7 b).2.1 := by decide +kernel
theorem tyX7_ok : ∀ k, k < 2 → parseFieldDescriptor (TX7 k).2.2.1 = some (tyX7 k) := by decide +kernel
abbrev cX7_init : ByteArray := prog_9_method_1_code
def yX7_init : MethodName := ⟨RX7, "<init>", "(I)V"⟩
abbrev cX7_renew : ByteArray := prog_9_method_2_code
def yX7_renew : MethodName := ⟨RX7, "renew", "(I)V"⟩
def RX8 : String := "ToolRoom$Tool"
def TX8 : u_T := fun k => match k with
  | _ => ("", "", "", false)
def tyX8 : Nat → FieldType := fun k => match k with
  | _ => .int
abbrev wsX80 : List Cond := u_ws RX8 TX8 0
theorem nmX8 : ∀ a, a < 0 → ∀ b, b < 0 → a ≠ b → (TX8 a).2.1 ≠ (TX8 b).2.1 := by decide +kernel
theorem tyX8_ok : ∀ k, k < 0 → parseFieldDescriptor (TX8 k).2.2.1 = some (tyX8 k) := by decide +kernel
abbrev cX8_init : ByteArray := prog_10_method_1_code
def yX8_init : MethodName := ⟨RX8, "<init>", "()V"⟩
def RX9 : String := "ToolRoom"
def TX9 : u_T := fun k => match k with
  | 0 => ("ToolRoom", "hooks", "[LToolRoom$Tool;", true)
  | 1 => ("ToolRoom", "trays", "[LToolRoom$Row;", true)
  | 2 => ("ToolRoom", "racks", "[LToolRoom$Rack;", true)
  | 3 => ("ToolRoom", "grids", "[LToolRoom$Grid;", true)
  | 4 => ("ToolRoom", "alarmIsThere", "[Z", true)
  | 5 => ("ToolRoom", "alarmNumbers", "[I", true)
  | 6 => ("ToolRoom", "met", "[I", true)
  | 7 => ("ToolRoom", "latest", "I", false)
  | 8 => ("ToolRoom", "uses", "I", false)
  | _ => ("ToolRoom", "reason", "I", false)
def tyX9 : Nat → FieldType := fun k => match k with
  | 0 => .array (.object "ToolRoom$Tool")
  | 1 => .array (.object "ToolRoom$Row")
  | 2 => .array (.object "ToolRoom$Rack")
  | 3 => .array (.object "ToolRoom$Grid")
  | 4 => .array .boolean
  | 5 => .array .int
  | 6 => .array .int
  | 7 => .int
  | 8 => .int
  | _ => .int
abbrev wsX90 : List Cond := u_ws RX9 TX9 10
theorem nmX9 : ∀ a, a < 10 → ∀ b, b < 10 → a ≠ b → (TX9 a).2.1 ≠ (TX9 b).2.1 := by decide +kernel
theorem tyX9_ok : ∀ k, k < 10 → parseFieldDescriptor (TX9 k).2.2.1 = some (tyX9 k) := by decide +kernel
abbrev cX9_init : ByteArray := prog_1_method_1_code
def yX9_init : MethodName := ⟨RX9, "<init>", "()V"⟩
abbrev cX9_tool : ByteArray := prog_1_method_2_code
def yX9_tool : MethodName := ⟨RX9, "tool", "(II)I"⟩
abbrev cX9_hang : ByteArray := prog_1_method_3_code
def yX9_hang : MethodName := ⟨RX9, "hang", "(II)I"⟩
abbrev cX9_unhang : ByteArray := prog_1_method_4_code
def yX9_unhang : MethodName := ⟨RX9, "unhang", "(I)I"⟩
abbrev cX9_kind : ByteArray := prog_1_method_5_code
def yX9_kind : MethodName := ⟨RX9, "kind", "(I)I"⟩
abbrev cX9_card : ByteArray := prog_1_method_6_code
def yX9_card : MethodName := ⟨RX9, "card", "(II)I"⟩
abbrev cX9_uncard : ByteArray := prog_1_method_7_code
def yX9_uncard : MethodName := ⟨RX9, "uncard", "(I)I"⟩
abbrev cX9_rename : ByteArray := prog_1_method_8_code
def yX9_rename : MethodName := ⟨RX9, "rename", "(II)I"⟩
abbrev cX9_of : ByteArray := prog_1_method_9_code
def yX9_of : MethodName := ⟨RX9, "of", "(II)I"⟩
abbrev cX9_edgeOf : ByteArray := prog_1_method_10_code
def yX9_edgeOf : MethodName := ⟨RX9, "edgeOf", "(LToolRoom$Tool;)I"⟩
abbrev cX9_hone : ByteArray := prog_1_method_11_code
def yX9_hone : MethodName := ⟨RX9, "hone", "(II)I"⟩
abbrev cX9_use : ByteArray := prog_1_method_12_code
def yX9_use : MethodName := ⟨RX9, "use", "(II)I"⟩
abbrev cX9_shift : ByteArray := prog_1_method_13_code
def yX9_shift : MethodName := ⟨RX9, "shift", "(IIII)I"⟩
abbrev cX9_shiftOnce : ByteArray := prog_1_method_14_code
def yX9_shiftOnce : MethodName := ⟨RX9, "shiftOnce", "(IILToolRoom$Row;I)I"⟩
abbrev cX9_newTool : ByteArray := prog_1_method_15_code
def yX9_newTool : MethodName := ⟨RX9, "newTool", "(I)LToolRoom$Tool;"⟩
abbrev cX9_tray : ByteArray := prog_1_method_16_code
def yX9_tray : MethodName := ⟨RX9, "tray", "(II)I"⟩
abbrev cX9_lose : ByteArray := prog_1_method_17_code
def yX9_lose : MethodName := ⟨RX9, "lose", "(II)I"⟩
abbrev cX9_put : ByteArray := prog_1_method_18_code
def yX9_put : MethodName := ⟨RX9, "put", "(III)I"⟩
abbrev cX9_get : ByteArray := prog_1_method_19_code
def yX9_get : MethodName := ⟨RX9, "get", "(II)I"⟩
abbrev cX9_length : ByteArray := prog_1_method_20_code
def yX9_length : MethodName := ⟨RX9, "length", "(II)I"⟩
abbrev cX9_rack : ByteArray := prog_1_method_21_code
def yX9_rack : MethodName := ⟨RX9, "rack", "(III)I"⟩
abbrev cX9_lay : ByteArray := prog_1_method_22_code
def yX9_lay : MethodName := ⟨RX9, "lay", "(III)I"⟩
abbrev cX9_fetch : ByteArray := prog_1_method_23_code
def yX9_fetch : MethodName := ⟨RX9, "fetch", "(IIII)I"⟩
abbrev cX9_grid : ByteArray := prog_1_method_24_code
def yX9_grid : MethodName := ⟨RX9, "grid", "(III)I"⟩
abbrev cX9_strike : ByteArray := prog_1_method_25_code
def yX9_strike : MethodName := ⟨RX9, "strike", "(II)I"⟩
abbrev cX9_mark : ByteArray := prog_1_method_26_code
def yX9_mark : MethodName := ⟨RX9, "mark", "(IIII)I"⟩
abbrev cX9_cell : ByteArray := prog_1_method_27_code
def yX9_cell : MethodName := ⟨RX9, "cell", "(III)I"⟩
abbrev cX9_holderOrNull : ByteArray := prog_1_method_28_code
def yX9_holderOrNull : MethodName := ⟨RX9, "holderOrNull", "(II)LToolRoom$Holder;"⟩
abbrev cX9_failureAt : ByteArray := prog_1_method_29_code
def yX9_failureAt : MethodName := ⟨RX9, "failureAt", "(LToolRoom$Holder;I)I"⟩
abbrev cX9_failureAtCell : ByteArray := prog_1_method_30_code
def yX9_failureAtCell : MethodName := ⟨RX9, "failureAtCell", "(LToolRoom$Grid;II)I"⟩
abbrev cX9_isOfSort : ByteArray := prog_1_method_31_code
def yX9_isOfSort : MethodName := ⟨RX9, "isOfSort", "(LToolRoom$Tool;I)Z"⟩
abbrev cX9_alarm : ByteArray := prog_1_method_32_code
def yX9_alarm : MethodName := ⟨RX9, "alarm", "(II)I"⟩
abbrev cX9_calm : ByteArray := prog_1_method_33_code
def yX9_calm : MethodName := ⟨RX9, "calm", "(I)I"⟩
abbrev cX9_let : ByteArray := prog_1_method_34_code
def yX9_let : MethodName := ⟨RX9, "let", "(I)I"⟩
abbrev cX9_why : ByteArray := prog_1_method_35_code
def yX9_why : MethodName := ⟨RX9, "why", "()I"⟩
abbrev cX9_count : ByteArray := prog_1_method_36_code
def yX9_count : MethodName := ⟨RX9, "count", "(I)I"⟩
abbrev cX9_done : ByteArray := prog_1_method_37_code
def yX9_done : MethodName := ⟨RX9, "done", "(I)I"⟩
abbrev cX9_refuse : ByteArray := prog_1_method_38_code
def yX9_refuse : MethodName := ⟨RX9, "refuse", "(I)I"⟩
abbrev cX9_fail : ByteArray := prog_1_method_39_code
def yX9_fail : MethodName := ⟨RX9, "fail", "(I)I"⟩
abbrev cX9_refuseWithZero : ByteArray := prog_1_method_40_code
def yX9_refuseWithZero : MethodName := ⟨RX9, "refuseWithZero", "(I)I"⟩
abbrev cX9_failWithZero : ByteArray := prog_1_method_41_code
def yX9_failWithZero : MethodName := ⟨RX9, "failWithZero", "(I)I"⟩
abbrev cX9_isWithin : ByteArray := prog_1_method_42_code
def yX9_isWithin : MethodName := ⟨RX9, "isWithin", "(II)Z"⟩
def RX10 : String := "ToolRoomModel"
def TX10 : u_T := fun k => match k with
  | 0 => ("ToolRoomModel", "hooks", "[I", true)
  | 1 => ("ToolRoomModel", "tools", "I", false)
  | 2 => ("ToolRoomModel", "kinds", "[I", true)
  | 3 => ("ToolRoomModel", "wears", "[I", true)
  | 4 => ("ToolRoomModel", "edges", "[I", true)
  | 5 => ("ToolRoomModel", "carded", "[Z", true)
  | 6 => ("ToolRoomModel", "names", "[I", true)
  | 7 => ("ToolRoomModel", "traySize", "[I", true)
  | 8 => ("ToolRoomModel", "trays", "[I", true)
  | 9 => ("ToolRoomModel", "rackSize", "[I", true)
  | 10 => ("ToolRoomModel", "rackSort", "[I", true)
  | 11 => ("ToolRoomModel", "racks", "[I", true)
  | 12 => ("ToolRoomModel", "gridSize", "[I", true)
  | 13 => ("ToolRoomModel", "rowSize", "[I", true)
  | 14 => ("ToolRoomModel", "cells", "[I", true)
  | 15 => ("ToolRoomModel", "isAlarm", "[Z", true)
  | 16 => ("ToolRoomModel", "numbers", "[I", true)
  | 17 => ("ToolRoomModel", "why", "I", false)
  | 18 => ("ToolRoomModel", "latest", "I", false)
  | 19 => ("ToolRoomModel", "met", "[I", true)
  | _ => ("ToolRoomModel", "uses", "I", false)
def tyX10 : Nat → FieldType := fun k => match k with
  | 0 => .array .int
  | 1 => .int
  | 2 => .array .int
  | 3 => .array .int
  | 4 => .array .int
  | 5 => .array .boolean
  | 6 => .array .int
  | 7 => .array .int
  | 8 => .array .int
  | 9 => .array .int
  | 10 => .array .int
  | 11 => .array .int
  | 12 => .array .int
  | 13 => .array .int
  | 14 => .array .int
  | 15 => .array .boolean
  | 16 => .array .int
  | 17 => .int
  | 18 => .int
  | 19 => .array .int
  | _ => .int
abbrev wsX100 : List Cond := u_ws RX10 TX10 21
theorem nmX10 : ∀ a, a < 21 → ∀ b, b < 21 → a ≠ b → (TX10 a).2.1 ≠ (TX10 b).2.1 := by decide +kernel
theorem tyX10_ok : ∀ k, k < 21 → parseFieldDescriptor (TX10 k).2.2.1 = some (tyX10 k) := by decide +kernel
abbrev cX10_init : ByteArray := prog_12_method_2_code
def yX10_init : MethodName := ⟨RX10, "<init>", "()V"⟩
abbrev cX10_in : ByteArray := prog_12_method_3_code
def yX10_in : MethodName := ⟨RX10, "in", "(III)Z"⟩
abbrev cX10_says : ByteArray := prog_12_method_4_code
def yX10_says : MethodName := ⟨RX10, "says", "(I)I"⟩
abbrev cX10_refuses : ByteArray := prog_12_method_5_code
def yX10_refuses : MethodName := ⟨RX10, "refuses", "(I)I"⟩
abbrev cX10_fails : ByteArray := prog_12_method_6_code
def yX10_fails : MethodName := ⟨RX10, "fails", "(I)I"⟩
abbrev cX10_tool : ByteArray := prog_12_method_7_code
def yX10_tool : MethodName := ⟨RX10, "tool", "(II)I"⟩
abbrev cX10_hang : ByteArray := prog_12_method_8_code
def yX10_hang : MethodName := ⟨RX10, "hang", "(II)I"⟩
abbrev cX10_unhang : ByteArray := prog_12_method_9_code
def yX10_unhang : MethodName := ⟨RX10, "unhang", "(I)I"⟩
abbrev cX10_kind : ByteArray := prog_12_method_10_code
def yX10_kind : MethodName := ⟨RX10, "kind", "(I)I"⟩
abbrev cX10_card : ByteArray := prog_12_method_11_code
def yX10_card : MethodName := ⟨RX10, "card", "(II)I"⟩
abbrev cX10_uncard : ByteArray := prog_12_method_12_code
def yX10_uncard : MethodName := ⟨RX10, "uncard", "(I)I"⟩
abbrev cX10_rename : ByteArray := prog_12_method_13_code
def yX10_rename : MethodName := ⟨RX10, "rename", "(II)I"⟩
abbrev cX10_isBlade : ByteArray := prog_12_method_14_code
def yX10_isBlade : MethodName := ⟨RX10, "isBlade", "(I)Z"⟩
abbrev cX10_weight : ByteArray := prog_12_method_15_code
def yX10_weight : MethodName := ⟨RX10, "weight", "(I)I"⟩
abbrev cX10_of : ByteArray := prog_12_method_16_code
def yX10_of : MethodName := ⟨RX10, "of", "(II)I"⟩
abbrev cX10_hone : ByteArray := prog_12_method_17_code
def yX10_hone : MethodName := ⟨RX10, "hone", "(II)I"⟩
abbrev cX10_used : ByteArray := prog_12_method_18_code
def yX10_used : MethodName := ⟨RX10, "used", "(II)I"⟩
abbrev cX10_use : ByteArray := prog_12_method_19_code
def yX10_use : MethodName := ⟨RX10, "use", "(II)I"⟩
abbrev cX10_shift : ByteArray := prog_12_method_20_code
def yX10_shift : MethodName := ⟨RX10, "shift", "(IIII)I"⟩
abbrev cX10_tray : ByteArray := prog_12_method_21_code
def yX10_tray : MethodName := ⟨RX10, "tray", "(II)I"⟩
abbrev cX10_isThing : ByteArray := prog_12_method_22_code
def yX10_isThing : MethodName := ⟨RX10, "isThing", "(II)Z"⟩
abbrev cX10_sizeOf : ByteArray := prog_12_method_23_code
def yX10_sizeOf : MethodName := ⟨RX10, "sizeOf", "(II)I"⟩
abbrev cX10_lose : ByteArray := prog_12_method_24_code
def yX10_lose : MethodName := ⟨RX10, "lose", "(II)I"⟩
abbrev cX10_lacks : ByteArray := prog_12_method_25_code
def yX10_lacks : MethodName := ⟨RX10, "lacks", "(II)I"⟩
abbrev cX10_put : ByteArray := prog_12_method_26_code
def yX10_put : MethodName := ⟨RX10, "put", "(III)I"⟩
abbrev cX10_get : ByteArray := prog_12_method_27_code
def yX10_get : MethodName := ⟨RX10, "get", "(II)I"⟩
abbrev cX10_length : ByteArray := prog_12_method_28_code
def yX10_length : MethodName := ⟨RX10, "length", "(II)I"⟩
abbrev cX10_rack : ByteArray := prog_12_method_29_code
def yX10_rack : MethodName := ⟨RX10, "rack", "(III)I"⟩
abbrev cX10_isOf : ByteArray := prog_12_method_30_code
def yX10_isOf : MethodName := ⟨RX10, "isOf", "(II)Z"⟩
abbrev cX10_lay : ByteArray := prog_12_method_31_code
def yX10_lay : MethodName := ⟨RX10, "lay", "(III)I"⟩
abbrev cX10_fetch : ByteArray := prog_12_method_32_code
def yX10_fetch : MethodName := ⟨RX10, "fetch", "(IIII)I"⟩
abbrev cX10_grid : ByteArray := prog_12_method_33_code
def yX10_grid : MethodName := ⟨RX10, "grid", "(III)I"⟩
abbrev cX10_strike : ByteArray := prog_12_method_34_code
def yX10_strike : MethodName := ⟨RX10, "strike", "(II)I"⟩
abbrev cX10_lacksCell : ByteArray := prog_12_method_35_code
def yX10_lacksCell : MethodName := ⟨RX10, "lacksCell", "(III)I"⟩
abbrev cX10_mark : ByteArray := prog_12_method_36_code
def yX10_mark : MethodName := ⟨RX10, "mark", "(IIII)I"⟩
abbrev cX10_cell : ByteArray := prog_12_method_37_code
def yX10_cell : MethodName := ⟨RX10, "cell", "(III)I"⟩
abbrev cX10_alarm : ByteArray := prog_12_method_38_code
def yX10_alarm : MethodName := ⟨RX10, "alarm", "(II)I"⟩
abbrev cX10_calm : ByteArray := prog_12_method_39_code
def yX10_calm : MethodName := ⟨RX10, "calm", "(I)I"⟩
abbrev cX10_let : ByteArray := prog_12_method_40_code
def yX10_let : MethodName := ⟨RX10, "let", "(I)I"⟩
abbrev cX10_why : ByteArray := prog_12_method_41_code
def yX10_why : MethodName := ⟨RX10, "why", "()I"⟩
abbrev cX10_count : ByteArray := prog_12_method_42_code
def yX10_count : MethodName := ⟨RX10, "count", "(I)I"⟩
def RL : String := "ToolRoomLaw"
abbrev cL_law : ByteArray := code
def yL_law : MethodName := ⟨RL, "law", "([I)Z"⟩
abbrev vwCl : List vw_C := [(RX0, TX0, 4), (RX1, TX1, 4), (RX2, TX2, 3), (RX3, TX3, 2), (RX4, TX4, 3), (RX6, TX6, 3), (RX7, TX7, 2), (RX9, TX9, 10), (RX10, TX10, 21)]
