section
-- ===== PART A: goes FIRST, ahead of the names: the tables' words, and 'selects' of the private methods out of them =====
/-- a private method of a class that the tables say can be made, by its rows of tables_1 -/
def lw_okq (q : MethodName × Nat) : Prop := (q.1.cls ≠ "java/lang/invoke/MethodHandle" ∧ q.1.cls ≠ "java/lang/invoke/VarHandle") ∧ Cond.instantiable q.1.cls q.2 ∈ tables_1 ∧ Cond.privateMethod q.1 ∈ tables_1 ∧ Cond.instanceMethod q.1 ∈ tables_1
theorem lw_p0 : lw_okq (⟨"TaskTurns", "find", "(I)LTaskTurns$Task;"⟩, 10) := ⟨⟨by decide +kernel, by decide +kernel⟩, List.mem_of_getElem? (i := 11) (by decide +kernel), List.mem_of_getElem? (i := 226) (by decide +kernel), List.mem_of_getElem? (i := 227) (by decide +kernel)⟩
theorem lw_p1 : lw_okq (⟨"TaskTurns", "doTurn", "()V"⟩, 10) := ⟨⟨by decide +kernel, by decide +kernel⟩, List.mem_of_getElem? (i := 11) (by decide +kernel), List.mem_of_getElem? (i := 242) (by decide +kernel), List.mem_of_getElem? (i := 243) (by decide +kernel)⟩
theorem lw_p2 : lw_okq (⟨"TaskTurns", "wakeTasks", "()V"⟩, 10) := ⟨⟨by decide +kernel, by decide +kernel⟩, List.mem_of_getElem? (i := 11) (by decide +kernel), List.mem_of_getElem? (i := 246) (by decide +kernel), List.mem_of_getElem? (i := 247) (by decide +kernel)⟩
theorem lw_p3 : lw_okq (⟨"TaskTurns", "findNextToWork", "()LTaskTurns$Task;"⟩, 10) := ⟨⟨by decide +kernel, by decide +kernel⟩, List.mem_of_getElem? (i := 11) (by decide +kernel), List.mem_of_getElem? (i := 254) (by decide +kernel), List.mem_of_getElem? (i := 255) (by decide +kernel)⟩
theorem lw_p4 : lw_okq (⟨"TaskTurns", "giveTurn", "(LTaskTurns$Task;)V"⟩, 10) := ⟨⟨by decide +kernel, by decide +kernel⟩, List.mem_of_getElem? (i := 11) (by decide +kernel), List.mem_of_getElem? (i := 262) (by decide +kernel), List.mem_of_getElem? (i := 263) (by decide +kernel)⟩
theorem lw_p5 : lw_okq (⟨"TaskTurns", "doGuard", "(LTaskTurns$Task;)I"⟩, 10) := ⟨⟨by decide +kernel, by decide +kernel⟩, List.mem_of_getElem? (i := 11) (by decide +kernel), List.mem_of_getElem? (i := 266) (by decide +kernel), List.mem_of_getElem? (i := 267) (by decide +kernel)⟩
theorem lw_p6 : lw_okq (⟨"TaskTurns", "doAct", "(LTaskTurns$Task;Z)I"⟩, 10) := ⟨⟨by decide +kernel, by decide +kernel⟩, List.mem_of_getElem? (i := 11) (by decide +kernel), List.mem_of_getElem? (i := 273) (by decide +kernel), List.mem_of_getElem? (i := 274) (by decide +kernel)⟩
theorem lw_p7 : lw_okq (⟨"TaskTurns", "send", "(II)I"⟩, 10) := ⟨⟨by decide +kernel, by decide +kernel⟩, List.mem_of_getElem? (i := 11) (by decide +kernel), List.mem_of_getElem? (i := 317) (by decide +kernel), List.mem_of_getElem? (i := 318) (by decide +kernel)⟩
theorem lw_p8 : lw_okq (⟨"TaskTurns", "ask", "(LTaskTurns$Task;I)I"⟩, 10) := ⟨⟨by decide +kernel, by decide +kernel⟩, List.mem_of_getElem? (i := 11) (by decide +kernel), List.mem_of_getElem? (i := 361) (by decide +kernel), List.mem_of_getElem? (i := 362) (by decide +kernel)⟩
theorem lw_p9 : lw_okq (⟨"TaskTurns", "becomeDone", "(LTaskTurns$Task;)V"⟩, 10) := ⟨⟨by decide +kernel, by decide +kernel⟩, List.mem_of_getElem? (i := 11) (by decide +kernel), List.mem_of_getElem? (i := 386) (by decide +kernel), List.mem_of_getElem? (i := 387) (by decide +kernel)⟩
theorem lw_p10 : lw_okq (⟨"TaskTurns", "ageTasks", "()V"⟩, 10) := ⟨⟨by decide +kernel, by decide +kernel⟩, List.mem_of_getElem? (i := 11) (by decide +kernel), List.mem_of_getElem? (i := 390) (by decide +kernel), List.mem_of_getElem? (i := 391) (by decide +kernel)⟩
theorem lw_p11 : lw_okq (⟨"TaskTurns", "countGoingOn", "()I"⟩, 10) := ⟨⟨by decide +kernel, by decide +kernel⟩, List.mem_of_getElem? (i := 11) (by decide +kernel), List.mem_of_getElem? (i := 436) (by decide +kernel), List.mem_of_getElem? (i := 437) (by decide +kernel)⟩
theorem lw_p12 : lw_okq (⟨"TaskTurnsModel", "isTask", "(I)Z"⟩, 38) := ⟨⟨by decide +kernel, by decide +kernel⟩, List.mem_of_getElem? (i := 444) (by decide +kernel), List.mem_of_getElem? (i := 578) (by decide +kernel), List.mem_of_getElem? (i := 579) (by decide +kernel)⟩
theorem lw_p13 : lw_okq (⟨"TaskTurnsModel", "oneTurn", "()V"⟩, 38) := ⟨⟨by decide +kernel, by decide +kernel⟩, List.mem_of_getElem? (i := 444) (by decide +kernel), List.mem_of_getElem? (i := 590) (by decide +kernel), List.mem_of_getElem? (i := 591) (by decide +kernel)⟩
theorem lw_p14 : lw_okq (⟨"TaskTurnsModel", "pick", "()I"⟩, 38) := ⟨⟨by decide +kernel, by decide +kernel⟩, List.mem_of_getElem? (i := 444) (by decide +kernel), List.mem_of_getElem? (i := 594) (by decide +kernel), List.mem_of_getElem? (i := 595) (by decide +kernel)⟩
theorem lw_p15 : lw_okq (⟨"TaskTurnsModel", "acts", "(I)V"⟩, 38) := ⟨⟨by decide +kernel, by decide +kernel⟩, List.mem_of_getElem? (i := 444) (by decide +kernel), List.mem_of_getElem? (i := 598) (by decide +kernel), List.mem_of_getElem? (i := 599) (by decide +kernel)⟩
def lw_privs_1 : List (MethodName × Nat) := [(⟨"TaskTurns", "find", "(I)LTaskTurns$Task;"⟩, 10), (⟨"TaskTurns", "doTurn", "()V"⟩, 10), (⟨"TaskTurns", "wakeTasks", "()V"⟩, 10), (⟨"TaskTurns", "findNextToWork", "()LTaskTurns$Task;"⟩, 10), (⟨"TaskTurns", "giveTurn", "(LTaskTurns$Task;)V"⟩, 10), (⟨"TaskTurns", "doGuard", "(LTaskTurns$Task;)I"⟩, 10), (⟨"TaskTurns", "doAct", "(LTaskTurns$Task;Z)I"⟩, 10), (⟨"TaskTurns", "send", "(II)I"⟩, 10), (⟨"TaskTurns", "ask", "(LTaskTurns$Task;I)I"⟩, 10), (⟨"TaskTurns", "becomeDone", "(LTaskTurns$Task;)V"⟩, 10), (⟨"TaskTurns", "ageTasks", "()V"⟩, 10), (⟨"TaskTurns", "countGoingOn", "()I"⟩, 10), (⟨"TaskTurnsModel", "isTask", "(I)Z"⟩, 38), (⟨"TaskTurnsModel", "oneTurn", "()V"⟩, 38), (⟨"TaskTurnsModel", "pick", "()I"⟩, 38), (⟨"TaskTurnsModel", "acts", "(I)V"⟩, 38)]
theorem lw_r1 : ∀ q ∈ lw_privs_1, lw_okq q := List.forall_mem_cons.mpr ⟨lw_p0, List.forall_mem_cons.mpr ⟨lw_p1, List.forall_mem_cons.mpr ⟨lw_p2, List.forall_mem_cons.mpr ⟨lw_p3, List.forall_mem_cons.mpr ⟨lw_p4, List.forall_mem_cons.mpr ⟨lw_p5, List.forall_mem_cons.mpr ⟨lw_p6, List.forall_mem_cons.mpr ⟨lw_p7, List.forall_mem_cons.mpr ⟨lw_p8, List.forall_mem_cons.mpr ⟨lw_p9, List.forall_mem_cons.mpr ⟨lw_p10, List.forall_mem_cons.mpr ⟨lw_p11, List.forall_mem_cons.mpr ⟨lw_p12, List.forall_mem_cons.mpr ⟨lw_p13, List.forall_mem_cons.mpr ⟨lw_p14, List.forall_mem_cons.mpr ⟨lw_p15, fun _ h => absurd h List.not_mem_nil⟩⟩⟩⟩⟩⟩⟩⟩⟩⟩⟩⟩⟩⟩⟩⟩
theorem lw_p16 : lw_okq (⟨"TaskTurnsModel", "guard", "(II)I"⟩, 38) := ⟨⟨by decide +kernel, by decide +kernel⟩, List.mem_of_getElem? (i := 444) (by decide +kernel), List.mem_of_getElem? (i := 602) (by decide +kernel), List.mem_of_getElem? (i := 603) (by decide +kernel)⟩
theorem lw_p17 : lw_okq (⟨"TaskTurnsModel", "simple", "(II)I"⟩, 38) := ⟨⟨by decide +kernel, by decide +kernel⟩, List.mem_of_getElem? (i := 444) (by decide +kernel), List.mem_of_getElem? (i := 606) (by decide +kernel), List.mem_of_getElem? (i := 607) (by decide +kernel)⟩
theorem lw_p18 : lw_okq (⟨"TaskTurnsModel", "rowAct", "(III)I"⟩, 38) := ⟨⟨by decide +kernel, by decide +kernel⟩, List.mem_of_getElem? (i := 444) (by decide +kernel), List.mem_of_getElem? (i := 610) (by decide +kernel), List.mem_of_getElem? (i := 611) (by decide +kernel)⟩
theorem lw_p19 : lw_okq (⟨"TaskTurnsModel", "takeAct", "(I)I"⟩, 38) := ⟨⟨by decide +kernel, by decide +kernel⟩, List.mem_of_getElem? (i := 444) (by decide +kernel), List.mem_of_getElem? (i := 614) (by decide +kernel), List.mem_of_getElem? (i := 615) (by decide +kernel)⟩
theorem lw_p20 : lw_okq (⟨"TaskTurnsModel", "sendAct", "(III)I"⟩, 38) := ⟨⟨by decide +kernel, by decide +kernel⟩, List.mem_of_getElem? (i := 444) (by decide +kernel), List.mem_of_getElem? (i := 618) (by decide +kernel), List.mem_of_getElem? (i := 619) (by decide +kernel)⟩
theorem lw_p21 : lw_okq (⟨"TaskTurnsModel", "mark", "(I)V"⟩, 38) := ⟨⟨by decide +kernel, by decide +kernel⟩, List.mem_of_getElem? (i := 444) (by decide +kernel), List.mem_of_getElem? (i := 625) (by decide +kernel), List.mem_of_getElem? (i := 626) (by decide +kernel)⟩
theorem lw_p22 : lw_okq (⟨"TaskTurnsModel", "copyAct", "(II)I"⟩, 38) := ⟨⟨by decide +kernel, by decide +kernel⟩, List.mem_of_getElem? (i := 444) (by decide +kernel), List.mem_of_getElem? (i := 629) (by decide +kernel), List.mem_of_getElem? (i := 630) (by decide +kernel)⟩
theorem lw_p23 : lw_okq (⟨"TaskTurnsModel", "boxAct", "(IIII)I"⟩, 38) := ⟨⟨by decide +kernel, by decide +kernel⟩, List.mem_of_getElem? (i := 444) (by decide +kernel), List.mem_of_getElem? (i := 633) (by decide +kernel), List.mem_of_getElem? (i := 634) (by decide +kernel)⟩
theorem lw_p24 : lw_okq (⟨"TaskTurnsModel", "fails", "(II)V"⟩, 38) := ⟨⟨by decide +kernel, by decide +kernel⟩, List.mem_of_getElem? (i := 444) (by decide +kernel), List.mem_of_getElem? (i := 637) (by decide +kernel), List.mem_of_getElem? (i := 638) (by decide +kernel)⟩
theorem lw_p25 : lw_okq (⟨"TaskTurnsModel", "back", "(I)V"⟩, 38) := ⟨⟨by decide +kernel, by decide +kernel⟩, List.mem_of_getElem? (i := 444) (by decide +kernel), List.mem_of_getElem? (i := 641) (by decide +kernel), List.mem_of_getElem? (i := 642) (by decide +kernel)⟩
theorem lw_p26 : lw_okq (⟨"TaskTurnsModel", "maybeDone", "(I)V"⟩, 38) := ⟨⟨by decide +kernel, by decide +kernel⟩, List.mem_of_getElem? (i := 444) (by decide +kernel), List.mem_of_getElem? (i := 645) (by decide +kernel), List.mem_of_getElem? (i := 646) (by decide +kernel)⟩
def lw_privs_2 : List (MethodName × Nat) := [(⟨"TaskTurnsModel", "guard", "(II)I"⟩, 38), (⟨"TaskTurnsModel", "simple", "(II)I"⟩, 38), (⟨"TaskTurnsModel", "rowAct", "(III)I"⟩, 38), (⟨"TaskTurnsModel", "takeAct", "(I)I"⟩, 38), (⟨"TaskTurnsModel", "sendAct", "(III)I"⟩, 38), (⟨"TaskTurnsModel", "mark", "(I)V"⟩, 38), (⟨"TaskTurnsModel", "copyAct", "(II)I"⟩, 38), (⟨"TaskTurnsModel", "boxAct", "(IIII)I"⟩, 38), (⟨"TaskTurnsModel", "fails", "(II)V"⟩, 38), (⟨"TaskTurnsModel", "back", "(I)V"⟩, 38), (⟨"TaskTurnsModel", "maybeDone", "(I)V"⟩, 38)]
theorem lw_r2 : ∀ q ∈ lw_privs_2, lw_okq q := List.forall_mem_cons.mpr ⟨lw_p16, List.forall_mem_cons.mpr ⟨lw_p17, List.forall_mem_cons.mpr ⟨lw_p18, List.forall_mem_cons.mpr ⟨lw_p19, List.forall_mem_cons.mpr ⟨lw_p20, List.forall_mem_cons.mpr ⟨lw_p21, List.forall_mem_cons.mpr ⟨lw_p22, List.forall_mem_cons.mpr ⟨lw_p23, List.forall_mem_cons.mpr ⟨lw_p24, List.forall_mem_cons.mpr ⟨lw_p25, List.forall_mem_cons.mpr ⟨lw_p26, fun _ h => absurd h List.not_mem_nil⟩⟩⟩⟩⟩⟩⟩⟩⟩⟩⟩
def lw_privs : List (MethodName × Nat) := lw_privs_1 ++ (lw_privs_2)
def lw_tbl : List Cond := k2_sels lw_privs ++ tables_1
theorem lw_privs_ok : ∀ q ∈ lw_privs, lw_okq q := by
  show ∀ q ∈ lw_privs_1 ++ (lw_privs_2), lw_okq q
  exact List.forall_mem_append.mpr ⟨lw_r1, lw_r2⟩
end
section
def RX0 : String := "TaskTurns$Acts"
def TX0 : u_T := fun k => match k with
  | 0 => ("TaskTurns$Acts", "kinds", "[I", true)
  | 1 => ("TaskTurns$Acts", "firsts", "[I", true)
  | 2 => ("TaskTurns$Acts", "seconds", "[I", true)
  | _ => ("TaskTurns$Acts", "size", "I", false)
def tyX0 : Nat → FieldType := fun k => match k with
  | 0 => .array .int
  | 1 => .array .int
  | 2 => .array .int
  | _ => .int
abbrev wsX00 : List Cond := u_ws RX0 TX0 4
theorem nmX0 : ∀ a, a < 4 → ∀ b, b < 4 → a ≠ b → (TX0 a).2.1 ≠ (TX0 b).2.1 := by decide +kernel
theorem tyX0_ok : ∀ k, k < 4 → parseFieldDescriptor (TX0 k).2.2.1 = some (tyX0 k) := by decide +kernel
abbrev cX0_init : ByteArray := prog_2_method_1_code
def yX0_init : MethodName := ⟨RX0, "<init>", "()V"⟩
abbrev cX0_append : ByteArray := prog_2_method_2_code
def yX0_append : MethodName := ⟨RX0, "append", "(III)I"⟩
def RX1 : String := "TaskTurns$Box"
def TX1 : u_T := fun k => match k with
  | 0 => ("TaskTurns$Box", "places", "[I", true)
  | _ => ("TaskTurns$Box", "kind", "I", false)
def tyX1 : Nat → FieldType := fun k => match k with
  | 0 => .array .int
  | _ => .int
abbrev wsX10 : List Cond := u_ws RX1 TX1 2
theorem nmX1 : ∀ a, a < 2 → ∀ b, b < 2 → a ≠ b → (TX1 a).2.1 ≠ (TX1 b).2.1 := by decide +kernel
theorem tyX1_ok : ∀ k, k < 2 → parseFieldDescriptor (TX1 k).2.2.1 = some (tyX1 k) := by decide +kernel
abbrev cX1_init : ByteArray := prog_3_method_1_code
def yX1_init : MethodName := ⟨RX1, "<init>", "()V"⟩
abbrev cX1_isNothing : ByteArray := prog_3_method_2_code
def yX1_isNothing : MethodName := ⟨RX1, "isNothing", "()Z"⟩
abbrev cX1_has : ByteArray := prog_3_method_3_code
def yX1_has : MethodName := ⟨RX1, "has", "(I)Z"⟩
abbrev cX1_renew : ByteArray := prog_3_method_4_code
def yX1_renew : MethodName := ⟨RX1, "renew", "(I)V"⟩
abbrev cX1_lookAt : ByteArray := prog_3_method_5_code
def yX1_lookAt : MethodName := ⟨RX1, "lookAt", "(II)I"⟩
abbrev cX1_put : ByteArray := prog_3_method_6_code
def yX1_put : MethodName := ⟨RX1, "put", "(III)I"⟩
def RX2 : String := "TaskTurns$Letters"
def TX2 : u_T := fun k => match k with
  | 0 => ("TaskTurns$Letters", "values", "[I", true)
  | _ => ("TaskTurns$Letters", "size", "I", false)
def tyX2 : Nat → FieldType := fun k => match k with
  | 0 => .array .int
  | _ => .int
abbrev wsX20 : List Cond := u_ws RX2 TX2 2
theorem nmX2 : ∀ a, a < 2 → ∀ b, b < 2 → a ≠ b → (TX2 a).2.1 ≠ (TX2 b).2.1 := by decide +kernel
theorem tyX2_ok : ∀ k, k < 2 → parseFieldDescriptor (TX2 k).2.2.1 = some (tyX2 k) := by decide +kernel
abbrev cX2_init : ByteArray := prog_4_method_1_code
def yX2_init : MethodName := ⟨RX2, "<init>", "()V"⟩
abbrev cX2_isFull : ByteArray := prog_4_method_2_code
def yX2_isFull : MethodName := ⟨RX2, "isFull", "()Z"⟩
abbrev cX2_has : ByteArray := prog_4_method_3_code
def yX2_has : MethodName := ⟨RX2, "has", "(I)Z"⟩
abbrev cX2_append : ByteArray := prog_4_method_4_code
def yX2_append : MethodName := ⟨RX2, "append", "(I)V"⟩
abbrev cX2_removeEldest : ByteArray := prog_4_method_5_code
def yX2_removeEldest : MethodName := ⟨RX2, "removeEldest", "()I"⟩
def RX3 : String := "TaskTurns$Mark"
def TX3 : u_T := fun k => match k with
  | 0 => ("TaskTurns$Mark", "row", "LTaskTurns$Row;", true)
  | 1 => ("TaskTurns$Mark", "sum", "I", false)
  | _ => ("TaskTurns$Mark", "next", "I", false)
def tyX3 : Nat → FieldType := fun k => match k with
  | 0 => .object "TaskTurns$Row"
  | 1 => .int
  | _ => .int
abbrev wsX30 : List Cond := u_ws RX3 TX3 3
theorem nmX3 : ∀ a, a < 3 → ∀ b, b < 3 → a ≠ b → (TX3 a).2.1 ≠ (TX3 b).2.1 := by decide +kernel
theorem tyX3_ok : ∀ k, k < 3 → parseFieldDescriptor (TX3 k).2.2.1 = some (tyX3 k) := by decide +kernel
abbrev cX3_init : ByteArray := prog_5_method_1_code
def yX3_init : MethodName := ⟨RX3, "<init>", "()V"⟩
def RX4 : String := "TaskTurns$Row"
def TX4 : u_T := fun k => match k with
  | 0 => ("TaskTurns$Row", "ints", "[I", true)
  | _ => ("TaskTurns$Row", "length", "I", false)
def tyX4 : Nat → FieldType := fun k => match k with
  | 0 => .array .int
  | _ => .int
abbrev wsX40 : List Cond := u_ws RX4 TX4 2
theorem nmX4 : ∀ a, a < 2 → ∀ b, b < 2 → a ≠ b → (TX4 a).2.1 ≠ (TX4 b).2.1 := by decide +kernel
theorem tyX4_ok : ∀ k, k < 2 → parseFieldDescriptor (TX4 k).2.2.1 = some (tyX4 k) := by decide +kernel
abbrev cX4_init : ByteArray := prog_6_method_1_code
def yX4_init : MethodName := ⟨RX4, "<init>", "()V"⟩
abbrev cX4_isNothing : ByteArray := prog_6_method_2_code
def yX4_isNothing : MethodName := ⟨RX4, "isNothing", "()Z"⟩
abbrev cX4_has : ByteArray := prog_6_method_3_code
def yX4_has : MethodName := ⟨RX4, "has", "(I)Z"⟩
abbrev cX4_renew : ByteArray := prog_6_method_4_code
def yX4_renew : MethodName := ⟨RX4, "renew", "(I)V"⟩
abbrev cX4_copyFrom : ByteArray := prog_6_method_5_code
def yX4_copyFrom : MethodName := ⟨RX4, "copyFrom", "(LTaskTurns$Row;)V"⟩
def RX5 : String := "TaskTurns$Task"
def TX5 : u_T := fun k => match k with
  | 0 => ("TaskTurns$Task", "number", "I", true)
  | 1 => ("TaskTurns$Task", "sort", "I", true)
  | 2 => ("TaskTurns$Task", "rank", "I", true)
  | 3 => ("TaskTurns$Task", "acts", "LTaskTurns$Acts;", true)
  | 4 => ("TaskTurns$Task", "letters", "LTaskTurns$Letters;", true)
  | 5 => ("TaskTurns$Task", "row", "LTaskTurns$Row;", true)
  | 6 => ("TaskTurns$Task", "box", "LTaskTurns$Box;", true)
  | 7 => ("TaskTurns$Task", "mark", "LTaskTurns$Mark;", true)
  | 8 => ("TaskTurns$Task", "state", "I", false)
  | 9 => ("TaskTurns$Task", "age", "I", false)
  | 10 => ("TaskTurns$Task", "sum", "I", false)
  | 11 => ("TaskTurns$Task", "next", "I", false)
  | 12 => ("TaskTurns$Task", "waitLeft", "I", false)
  | 13 => ("TaskTurns$Task", "lastTurn", "I", false)
  | 14 => ("TaskTurns$Task", "didActs", "Z", false)
  | 15 => ("TaskTurns$Task", "failures", "I", false)
  | 16 => ("TaskTurns$Task", "latestFailure", "I", false)
  | 17 => ("TaskTurns$Task", "failedAct", "I", false)
  | _ => ("TaskTurns$Task", "backs", "I", false)
def tyX5 : Nat → FieldType := fun k => match k with
  | 0 => .int
  | 1 => .int
  | 2 => .int
  | 3 => .object "TaskTurns$Acts"
  | 4 => .object "TaskTurns$Letters"
  | 5 => .object "TaskTurns$Row"
  | 6 => .object "TaskTurns$Box"
  | 7 => .object "TaskTurns$Mark"
  | 8 => .int
  | 9 => .int
  | 10 => .int
  | 11 => .int
  | 12 => .int
  | 13 => .int
  | 14 => .boolean
  | 15 => .int
  | 16 => .int
  | 17 => .int
  | _ => .int
abbrev wsX50 : List Cond := u_ws RX5 TX5 19
theorem nmX5 : ∀ a, a < 19 → ∀ b, b < 19 → a ≠ b → (TX5 a).2.1 ≠ (TX5 b).2.1 := by decide +kernel
theorem tyX5_ok : ∀ k, k < 19 → parseFieldDescriptor (TX5 k).2.2.1 = some (tyX5 k) := by decide +kernel
abbrev cX5_init : ByteArray := prog_7_method_1_code
def yX5_init : MethodName := ⟨RX5, "<init>", "(III)V"⟩
abbrev cX5_isOver : ByteArray := prog_7_method_2_code
def yX5_isOver : MethodName := ⟨RX5, "isOver", "()Z"⟩
abbrev cX5_isReadyIn : ByteArray := prog_7_method_3_code
def yX5_isReadyIn : MethodName := ⟨RX5, "isReadyIn", "(I)Z"⟩
abbrev cX5_tell : ByteArray := prog_7_method_4_code
def yX5_tell : MethodName := ⟨RX5, "tell", "(I)I"⟩
abbrev cX5_wake : ByteArray := prog_7_method_5_code
def yX5_wake : MethodName := ⟨RX5, "wake", "()V"⟩
abbrev cX5_fail : ByteArray := prog_7_method_6_code
def yX5_fail : MethodName := ⟨RX5, "fail", "(I)V"⟩
abbrev cX5_backsAllowed : ByteArray := prog_7_method_7_code
def yX5_backsAllowed : MethodName := ⟨RX5, "backsAllowed", "()I"⟩
abbrev cX5_goBack : ByteArray := prog_7_method_8_code
def yX5_goBack : MethodName := ⟨RX5, "goBack", "()V"⟩
abbrev cX5_setMark : ByteArray := prog_7_method_9_code
def yX5_setMark : MethodName := ⟨RX5, "setMark", "()I"⟩
abbrev cX5_add : ByteArray := prog_7_method_10_code
def yX5_add : MethodName := ⟨RX5, "add", "(I)I"⟩
abbrev cX5_divide : ByteArray := prog_7_method_11_code
def yX5_divide : MethodName := ⟨RX5, "divide", "(I)I"⟩
abbrev cX5_makeRow : ByteArray := prog_7_method_12_code
def yX5_makeRow : MethodName := ⟨RX5, "makeRow", "(I)I"⟩
abbrev cX5_put : ByteArray := prog_7_method_13_code
def yX5_put : MethodName := ⟨RX5, "put", "(I)I"⟩
abbrev cX5_get : ByteArray := prog_7_method_14_code
def yX5_get : MethodName := ⟨RX5, "get", "(I)I"⟩
abbrev cX5_takeLetter : ByteArray := prog_7_method_15_code
def yX5_takeLetter : MethodName := ⟨RX5, "takeLetter", "(Z)I"⟩
abbrev cX5_waitFor : ByteArray := prog_7_method_16_code
def yX5_waitFor : MethodName := ⟨RX5, "waitFor", "(I)I"⟩
abbrev cX5_makeBox : ByteArray := prog_7_method_17_code
def yX5_makeBox : MethodName := ⟨RX5, "makeBox", "(I)I"⟩
abbrev cX5_copyToBox : ByteArray := prog_7_method_18_code
def yX5_copyToBox : MethodName := ⟨RX5, "copyToBox", "(I)I"⟩
def RX6 : String := "TaskTurns"
def TX6 : u_T := fun k => match k with
  | 0 => ("TaskTurns", "tasks", "[LTaskTurns$Task;", true)
  | 1 => ("TaskTurns", "doneOrder", "[I", true)
  | 2 => ("TaskTurns", "taskCount", "I", false)
  | 3 => ("TaskTurns", "doneCount", "I", false)
  | 4 => ("TaskTurns", "workerCount", "I", false)
  | 5 => ("TaskTurns", "turnsDone", "I", false)
  | 6 => ("TaskTurns", "actsDone", "I", false)
  | 7 => ("TaskTurns", "lettersLost", "I", false)
  | 8 => ("TaskTurns", "guardsLeft", "I", false)
  | _ => ("TaskTurns", "failuresSeen", "I", false)
def tyX6 : Nat → FieldType := fun k => match k with
  | 0 => .array (.object "TaskTurns$Task")
  | 1 => .array .int
  | 2 => .int
  | 3 => .int
  | 4 => .int
  | 5 => .int
  | 6 => .int
  | 7 => .int
  | 8 => .int
  | _ => .int
abbrev wsX60 : List Cond := u_ws RX6 TX6 10
theorem nmX6 : ∀ a, a < 10 → ∀ b, b < 10 → a ≠ b → (TX6 a).2.1 ≠ (TX6 b).2.1 := by decide +kernel
theorem tyX6_ok : ∀ k, k < 10 → parseFieldDescriptor (TX6 k).2.2.1 = some (tyX6 k) := by decide +kernel
abbrev cX6_init : ByteArray := prog_1_method_1_code
def yX6_init : MethodName := ⟨RX6, "<init>", "()V"⟩
abbrev cX6_task : ByteArray := prog_1_method_2_code
def yX6_task : MethodName := ⟨RX6, "task", "(II)I"⟩
abbrev cX6_act : ByteArray := prog_1_method_3_code
def yX6_act : MethodName := ⟨RX6, "act", "(IIII)I"⟩
abbrev cX6_workers : ByteArray := prog_1_method_4_code
def yX6_workers : MethodName := ⟨RX6, "workers", "(I)I"⟩
abbrev cX6_turn : ByteArray := prog_1_method_5_code
def yX6_turn : MethodName := ⟨RX6, "turn", "(I)I"⟩
abbrev cX6_letter : ByteArray := prog_1_method_6_code
def yX6_letter : MethodName := ⟨RX6, "letter", "(II)I"⟩
abbrev cX6_stop : ByteArray := prog_1_method_7_code
def yX6_stop : MethodName := ⟨RX6, "stop", "(I)I"⟩
abbrev cX6_again : ByteArray := prog_1_method_8_code
def yX6_again : MethodName := ⟨RX6, "again", "(I)I"⟩
abbrev cX6_of : ByteArray := prog_1_method_9_code
def yX6_of : MethodName := ⟨RX6, "of", "(II)I"⟩
abbrev cX6_at : ByteArray := prog_1_method_10_code
def yX6_at : MethodName := ⟨RX6, "at", "(IZI)I"⟩
abbrev cX6_letterAt : ByteArray := prog_1_method_11_code
def yX6_letterAt : MethodName := ⟨RX6, "letterAt", "(II)I"⟩
abbrev cX6_count : ByteArray := prog_1_method_12_code
def yX6_count : MethodName := ⟨RX6, "count", "(I)I"⟩
abbrev cX6_done : ByteArray := prog_1_method_13_code
def yX6_done : MethodName := ⟨RX6, "done", "(I)I"⟩
abbrev cX6_find : ByteArray := prog_1_method_14_code
def yX6_find : MethodName := ⟨RX6, "find", "(I)LTaskTurns$Task;"⟩
abbrev cX6_countGoingOn : ByteArray := prog_1_method_15_code
def yX6_countGoingOn : MethodName := ⟨RX6, "countGoingOn", "()I"⟩
abbrev cX6_doTurn : ByteArray := prog_1_method_16_code
def yX6_doTurn : MethodName := ⟨RX6, "doTurn", "()V"⟩
abbrev cX6_wakeTasks : ByteArray := prog_1_method_17_code
def yX6_wakeTasks : MethodName := ⟨RX6, "wakeTasks", "()V"⟩
abbrev cX6_ageTasks : ByteArray := prog_1_method_18_code
def yX6_ageTasks : MethodName := ⟨RX6, "ageTasks", "()V"⟩
abbrev cX6_findNextToWork : ByteArray := prog_1_method_19_code
def yX6_findNextToWork : MethodName := ⟨RX6, "findNextToWork", "()LTaskTurns$Task;"⟩
abbrev cX6_giveTurn : ByteArray := prog_1_method_20_code
def yX6_giveTurn : MethodName := ⟨RX6, "giveTurn", "(LTaskTurns$Task;)V"⟩
abbrev cX6_becomeDone : ByteArray := prog_1_method_21_code
def yX6_becomeDone : MethodName := ⟨RX6, "becomeDone", "(LTaskTurns$Task;)V"⟩
abbrev cX6_doGuard : ByteArray := prog_1_method_22_code
def yX6_doGuard : MethodName := ⟨RX6, "doGuard", "(LTaskTurns$Task;)I"⟩
abbrev cX6_doAct : ByteArray := prog_1_method_23_code
def yX6_doAct : MethodName := ⟨RX6, "doAct", "(LTaskTurns$Task;Z)I"⟩
abbrev cX6_send : ByteArray := prog_1_method_24_code
def yX6_send : MethodName := ⟨RX6, "send", "(II)I"⟩
abbrev cX6_ask : ByteArray := prog_1_method_25_code
def yX6_ask : MethodName := ⟨RX6, "ask", "(LTaskTurns$Task;I)I"⟩
def RX7 : String := "TaskTurnsModel"
def TX7 : u_T := fun k => match k with
  | 0 => ("TaskTurnsModel", "tasks", "I", false)
  | 1 => ("TaskTurnsModel", "sort", "[I", true)
  | 2 => ("TaskTurnsModel", "rank", "[I", true)
  | 3 => ("TaskTurnsModel", "age", "[I", true)
  | 4 => ("TaskTurnsModel", "state", "[I", true)
  | 5 => ("TaskTurnsModel", "actMany", "[I", true)
  | 6 => ("TaskTurnsModel", "kind", "[I", true)
  | 7 => ("TaskTurnsModel", "first", "[I", true)
  | 8 => ("TaskTurnsModel", "second", "[I", true)
  | 9 => ("TaskTurnsModel", "next", "[I", true)
  | 10 => ("TaskTurnsModel", "sum", "[I", true)
  | 11 => ("TaskTurnsModel", "rowSize", "[I", true)
  | 12 => ("TaskTurnsModel", "row", "[I", true)
  | 13 => ("TaskTurnsModel", "markSum", "[I", true)
  | 14 => ("TaskTurnsModel", "markNext", "[I", true)
  | 15 => ("TaskTurnsModel", "markSize", "[I", true)
  | 16 => ("TaskTurnsModel", "markRow", "[I", true)
  | 17 => ("TaskTurnsModel", "boxSort", "[I", true)
  | 18 => ("TaskTurnsModel", "box", "[I", true)
  | 19 => ("TaskTurnsModel", "letterMany", "[I", true)
  | 20 => ("TaskTurnsModel", "letters", "[I", true)
  | 21 => ("TaskTurnsModel", "wakes", "[J", true)
  | 22 => ("TaskTurnsModel", "failures", "[I", true)
  | 23 => ("TaskTurnsModel", "latest", "[I", true)
  | 24 => ("TaskTurnsModel", "latestAct", "[I", true)
  | 25 => ("TaskTurnsModel", "backs", "[I", true)
  | 26 => ("TaskTurnsModel", "hasActed", "[Z", true)
  | 27 => ("TaskTurnsModel", "hadTurn", "[Z", true)
  | 28 => ("TaskTurnsModel", "doneRow", "[I", true)
  | 29 => ("TaskTurnsModel", "dones", "I", false)
  | 30 => ("TaskTurnsModel", "workers", "I", false)
  | 31 => ("TaskTurnsModel", "turns", "I", false)
  | 32 => ("TaskTurnsModel", "acts", "I", false)
  | 33 => ("TaskTurnsModel", "lost", "I", false)
  | 34 => ("TaskTurnsModel", "left", "I", false)
  | 35 => ("TaskTurnsModel", "allFailures", "I", false)
  | 36 => ("TaskTurnsModel", "waitTold", "I", false)
  | _ => ("TaskTurnsModel", "isGuarded", "Z", false)
def tyX7 : Nat → FieldType := fun k => match k with
  | 0 => .int
  | 1 => .array .int
  | 2 => .array .int
  | 3 => .array .int
  | 4 => .array .int
  | 5 => .array .int
  | 6 => .array .int
  | 7 => .array .int
  | 8 => .array .int
  | 9 => .array .int
  | 10 => .array .int
  | 11 => .array .int
  | 12 => .array .int
  | 13 => .array .int
  | 14 => .array .int
  | 15 => .array .int
  | 16 => .array .int
  | 17 => .array .int
  | 18 => .array .int
  | 19 => .array .int
  | 20 => .array .int
  | 21 => .array .long
  | 22 => .array .int
  | 23 => .array .int
  | 24 => .array .int
  | 25 => .array .int
  | 26 => .array .boolean
  | 27 => .array .boolean
  | 28 => .array .int
  | 29 => .int
  | 30 => .int
  | 31 => .int
  | 32 => .int
  | 33 => .int
  | 34 => .int
  | 35 => .int
  | 36 => .int
  | _ => .boolean
abbrev wsX70 : List Cond := u_ws RX7 TX7 38
theorem nmX7 : ∀ a, a < 38 → ∀ b, b < 38 → a ≠ b → (TX7 a).2.1 ≠ (TX7 b).2.1 := by decide +kernel
theorem tyX7_ok : ∀ k, k < 38 → parseFieldDescriptor (TX7 k).2.2.1 = some (tyX7 k) := by decide +kernel
abbrev cX7_init : ByteArray := prog_9_method_1_code
def yX7_init : MethodName := ⟨RX7, "<init>", "()V"⟩
abbrev cX7_in : ByteArray := prog_9_method_2_code
def yX7_in : MethodName := ⟨RX7, "in", "(III)Z"⟩
abbrev cX7_isTask : ByteArray := prog_9_method_3_code
def yX7_isTask : MethodName := ⟨RX7, "isTask", "(I)Z"⟩
abbrev cX7_isOver : ByteArray := prog_9_method_4_code
def yX7_isOver : MethodName := ⟨RX7, "isOver", "(I)Z"⟩
abbrev cX7_task : ByteArray := prog_9_method_5_code
def yX7_task : MethodName := ⟨RX7, "task", "(II)I"⟩
abbrev cX7_act : ByteArray := prog_9_method_6_code
def yX7_act : MethodName := ⟨RX7, "act", "(IIII)I"⟩
abbrev cX7_workers : ByteArray := prog_9_method_7_code
def yX7_workers : MethodName := ⟨RX7, "workers", "(I)I"⟩
abbrev cX7_rowAct : ByteArray := prog_9_method_8_code
def yX7_rowAct : MethodName := ⟨RX7, "rowAct", "(III)I"⟩
abbrev cX7_takeAct : ByteArray := prog_9_method_9_code
def yX7_takeAct : MethodName := ⟨RX7, "takeAct", "(I)I"⟩
abbrev cX7_sendAct : ByteArray := prog_9_method_10_code
def yX7_sendAct : MethodName := ⟨RX7, "sendAct", "(III)I"⟩
abbrev cX7_mark : ByteArray := prog_9_method_11_code
def yX7_mark : MethodName := ⟨RX7, "mark", "(I)V"⟩
abbrev cX7_back : ByteArray := prog_9_method_12_code
def yX7_back : MethodName := ⟨RX7, "back", "(I)V"⟩
abbrev cX7_boxAct : ByteArray := prog_9_method_13_code
def yX7_boxAct : MethodName := ⟨RX7, "boxAct", "(IIII)I"⟩
abbrev cX7_copyAct : ByteArray := prog_9_method_14_code
def yX7_copyAct : MethodName := ⟨RX7, "copyAct", "(II)I"⟩
abbrev cX7_simple : ByteArray := prog_9_method_15_code
def yX7_simple : MethodName := ⟨RX7, "simple", "(II)I"⟩
abbrev cX7_guard : ByteArray := prog_9_method_16_code
def yX7_guard : MethodName := ⟨RX7, "guard", "(II)I"⟩
abbrev cX7_fails : ByteArray := prog_9_method_17_code
def yX7_fails : MethodName := ⟨RX7, "fails", "(II)V"⟩
abbrev cX7_acts : ByteArray := prog_9_method_18_code
def yX7_acts : MethodName := ⟨RX7, "acts", "(I)V"⟩
abbrev cX7_maybeDone : ByteArray := prog_9_method_19_code
def yX7_maybeDone : MethodName := ⟨RX7, "maybeDone", "(I)V"⟩
abbrev cX7_pick : ByteArray := prog_9_method_20_code
def yX7_pick : MethodName := ⟨RX7, "pick", "()I"⟩
abbrev cX7_oneTurn : ByteArray := prog_9_method_21_code
def yX7_oneTurn : MethodName := ⟨RX7, "oneTurn", "()V"⟩
abbrev cX7_turn : ByteArray := prog_9_method_22_code
def yX7_turn : MethodName := ⟨RX7, "turn", "(I)I"⟩
abbrev cX7_letter : ByteArray := prog_9_method_23_code
def yX7_letter : MethodName := ⟨RX7, "letter", "(II)I"⟩
abbrev cX7_stop : ByteArray := prog_9_method_24_code
def yX7_stop : MethodName := ⟨RX7, "stop", "(I)I"⟩
abbrev cX7_again : ByteArray := prog_9_method_25_code
def yX7_again : MethodName := ⟨RX7, "again", "(I)I"⟩
abbrev cX7_of : ByteArray := prog_9_method_26_code
def yX7_of : MethodName := ⟨RX7, "of", "(II)I"⟩
abbrev cX7_at : ByteArray := prog_9_method_27_code
def yX7_at : MethodName := ⟨RX7, "at", "(IZI)I"⟩
abbrev cX7_letterAt : ByteArray := prog_9_method_28_code
def yX7_letterAt : MethodName := ⟨RX7, "letterAt", "(II)I"⟩
abbrev cX7_count : ByteArray := prog_9_method_29_code
def yX7_count : MethodName := ⟨RX7, "count", "(I)I"⟩
abbrev cX7_done : ByteArray := prog_9_method_30_code
def yX7_done : MethodName := ⟨RX7, "done", "(I)I"⟩
def RJ9 : String := "java/lang/Math"
def TJ9 : u_T := fun k => match k with
  | _ => ("", "", "", false)
def tyJ9 : Nat → FieldType := fun k => match k with
  | _ => .int
abbrev wsJ90 : List Cond := u_ws RJ9 TJ9 0
theorem nmJ9 : ∀ a, a < 0 → ∀ b, b < 0 → a ≠ b → (TJ9 a).2.1 ≠ (TJ9 b).2.1 := by decide +kernel
theorem tyJ9_ok : ∀ k, k < 0 → parseFieldDescriptor (TJ9 k).2.2.1 = some (tyJ9 k) := by decide +kernel
abbrev cJ9_min_7cf53 : ByteArray := prog_10_method_69_code
def yJ9_min_7cf53 : MethodName := ⟨RJ9, "min", "(II)I"⟩
def RL : String := "TaskTurnsLaw"
abbrev cL_law : ByteArray := code
def yL_law : MethodName := ⟨RL, "law", "([I)Z"⟩
abbrev vwCl : List vw_C := [(RX0, TX0, 4), (RX1, TX1, 2), (RX2, TX2, 2), (RX3, TX3, 3), (RX4, TX4, 2), (RX5, TX5, 19), (RX6, TX6, 10), (RX7, TX7, 38)]
end
section
theorem dJ9_min_7cf53_0 : decode cJ9_min_7cf53 0 = .ok (.iload_n 0, 1) := by decide +kernel
theorem dJ9_min_7cf53_1 : decode cJ9_min_7cf53 1 = .ok (.iload_n 1, 1) := by decide +kernel
theorem dJ9_min_7cf53_2 : decode cJ9_min_7cf53 2 = .ok (.if_icmp .gt 7, 3) := by decide +kernel
theorem dJ9_min_7cf53_5 : decode cJ9_min_7cf53 5 = .ok (.iload_n 0, 1) := by decide +kernel
theorem dJ9_min_7cf53_6 : decode cJ9_min_7cf53 6 = .ok (.goto 4, 3) := by decide +kernel
theorem dJ9_min_7cf53_9 : decode cJ9_min_7cf53 9 = .ok (.iload_n 1, 1) := by decide +kernel
theorem dJ9_min_7cf53_10 : decode cJ9_min_7cf53 10 = .ok (.ireturn, 1) := by decide +kernel
theorem dL_law_0 : decode cL_law 0 = .ok (.new 7, 3) := by decide +kernel
theorem dL_law_3 : decode cL_law 3 = .ok (.dup, 1) := by decide +kernel
theorem dL_law_4 : decode cL_law 4 = .ok (.invokespecial 9, 3) := by decide +kernel
theorem dL_law_7 : decode cL_law 7 = .ok (.astore_n 1, 1) := by decide +kernel
theorem dL_law_8 : decode cL_law 8 = .ok (.new 10, 3) := by decide +kernel
theorem dL_law_11 : decode cL_law 11 = .ok (.dup, 1) := by decide +kernel
theorem dL_law_12 : decode cL_law 12 = .ok (.invokespecial 12, 3) := by decide +kernel
theorem dL_law_15 : decode cL_law 15 = .ok (.astore_n 2, 1) := by decide +kernel
theorem dL_law_16 : decode cL_law 16 = .ok (.iconst 0, 1) := by decide +kernel
theorem dL_law_17 : decode cL_law 17 = .ok (.istore_n 3, 1) := by decide +kernel
theorem dL_law_18 : decode cL_law 18 = .ok (.iload_n 3, 1) := by decide +kernel
theorem dL_law_19 : decode cL_law 19 = .ok (.aload_n 0, 1) := by decide +kernel
theorem dL_law_20 : decode cL_law 20 = .ok (.arraylength, 1) := by decide +kernel
theorem dL_law_21 : decode cL_law 21 = .ok (.iconst 5, 1) := by decide +kernel
theorem dL_law_22 : decode cL_law 22 = .ok (.isub, 1) := by decide +kernel
theorem dL_law_23 : decode cL_law 23 = .ok (.if_icmp .gt 461, 3) := by decide +kernel
theorem dL_law_26 : decode cL_law 26 = .ok (.aload_n 0, 1) := by decide +kernel
theorem dL_law_27 : decode cL_law 27 = .ok (.iload_n 3, 1) := by decide +kernel
theorem dL_law_28 : decode cL_law 28 = .ok (.iaload, 1) := by decide +kernel
theorem dL_law_29 : decode cL_law 29 = .ok (.bipush 15, 2) := by decide +kernel
theorem dL_law_31 : decode cL_law 31 = .ok (.iand, 1) := by decide +kernel
theorem dL_law_32 : decode cL_law 32 = .ok (.tableswitch 446 0 11 #[64, 97, 150, 173, 196, 229, 252, 275, 308, 367, 400, 423], 64) := by decide +kernel
theorem dL_law_96 : decode cL_law 96 = .ok (.aload_n 1, 1) := by decide +kernel
theorem dL_law_97 : decode cL_law 97 = .ok (.aload_n 0, 1) := by decide +kernel
theorem dL_law_98 : decode cL_law 98 = .ok (.iload_n 3, 1) := by decide +kernel
theorem dL_law_99 : decode cL_law 99 = .ok (.iconst 1, 1) := by decide +kernel
theorem dL_law_100 : decode cL_law 100 = .ok (.iadd, 1) := by decide +kernel
theorem dL_law_101 : decode cL_law 101 = .ok (.iaload, 1) := by decide +kernel
theorem dL_law_102 : decode cL_law 102 = .ok (.aload_n 0, 1) := by decide +kernel
theorem dL_law_103 : decode cL_law 103 = .ok (.iload_n 3, 1) := by decide +kernel
theorem dL_law_104 : decode cL_law 104 = .ok (.iconst 2, 1) := by decide +kernel
theorem dL_law_105 : decode cL_law 105 = .ok (.iadd, 1) := by decide +kernel
theorem dL_law_106 : decode cL_law 106 = .ok (.iaload, 1) := by decide +kernel
theorem dL_law_107 : decode cL_law 107 = .ok (.invokevirtual 13, 3) := by decide +kernel
theorem dL_law_110 : decode cL_law 110 = .ok (.aload_n 2, 1) := by decide +kernel
theorem dL_law_111 : decode cL_law 111 = .ok (.aload_n 0, 1) := by decide +kernel
theorem dL_law_112 : decode cL_law 112 = .ok (.iload_n 3, 1) := by decide +kernel
theorem dL_law_113 : decode cL_law 113 = .ok (.iconst 1, 1) := by decide +kernel
theorem dL_law_114 : decode cL_law 114 = .ok (.iadd, 1) := by decide +kernel
theorem dL_law_115 : decode cL_law 115 = .ok (.iaload, 1) := by decide +kernel
theorem dL_law_116 : decode cL_law 116 = .ok (.aload_n 0, 1) := by decide +kernel
theorem dL_law_117 : decode cL_law 117 = .ok (.iload_n 3, 1) := by decide +kernel
theorem dL_law_118 : decode cL_law 118 = .ok (.iconst 2, 1) := by decide +kernel
theorem dL_law_119 : decode cL_law 119 = .ok (.iadd, 1) := by decide +kernel
theorem dL_law_120 : decode cL_law 120 = .ok (.iaload, 1) := by decide +kernel
theorem dL_law_121 : decode cL_law 121 = .ok (.invokevirtual 17, 3) := by decide +kernel
theorem dL_law_124 : decode cL_law 124 = .ok (.if_icmp .eq 354, 3) := by decide +kernel
theorem dL_law_127 : decode cL_law 127 = .ok (.iconst 0, 1) := by decide +kernel
theorem dL_law_128 : decode cL_law 128 = .ok (.ireturn, 1) := by decide +kernel
theorem dL_law_129 : decode cL_law 129 = .ok (.aload_n 1, 1) := by decide +kernel
theorem dL_law_130 : decode cL_law 130 = .ok (.aload_n 0, 1) := by decide +kernel
theorem dL_law_131 : decode cL_law 131 = .ok (.iload_n 3, 1) := by decide +kernel
theorem dL_law_132 : decode cL_law 132 = .ok (.iconst 1, 1) := by decide +kernel
theorem dL_law_133 : decode cL_law 133 = .ok (.iadd, 1) := by decide +kernel
theorem dL_law_134 : decode cL_law 134 = .ok (.iaload, 1) := by decide +kernel
theorem dL_law_135 : decode cL_law 135 = .ok (.aload_n 0, 1) := by decide +kernel
theorem dL_law_136 : decode cL_law 136 = .ok (.iload_n 3, 1) := by decide +kernel
theorem dL_law_137 : decode cL_law 137 = .ok (.iconst 2, 1) := by decide +kernel
theorem dL_law_138 : decode cL_law 138 = .ok (.iadd, 1) := by decide +kernel
theorem dL_law_139 : decode cL_law 139 = .ok (.iaload, 1) := by decide +kernel
theorem dL_law_140 : decode cL_law 140 = .ok (.aload_n 0, 1) := by decide +kernel
theorem dL_law_141 : decode cL_law 141 = .ok (.iload_n 3, 1) := by decide +kernel
theorem dL_law_142 : decode cL_law 142 = .ok (.iconst 3, 1) := by decide +kernel
theorem dL_law_143 : decode cL_law 143 = .ok (.iadd, 1) := by decide +kernel
theorem dL_law_144 : decode cL_law 144 = .ok (.iaload, 1) := by decide +kernel
theorem dL_law_145 : decode cL_law 145 = .ok (.aload_n 0, 1) := by decide +kernel
theorem dL_law_146 : decode cL_law 146 = .ok (.iload_n 3, 1) := by decide +kernel
theorem dL_law_147 : decode cL_law 147 = .ok (.iconst 4, 1) := by decide +kernel
theorem dL_law_148 : decode cL_law 148 = .ok (.iadd, 1) := by decide +kernel
theorem dL_law_149 : decode cL_law 149 = .ok (.iaload, 1) := by decide +kernel
theorem dL_law_150 : decode cL_law 150 = .ok (.invokevirtual 18, 3) := by decide +kernel
theorem dL_law_153 : decode cL_law 153 = .ok (.aload_n 2, 1) := by decide +kernel
theorem dL_law_154 : decode cL_law 154 = .ok (.aload_n 0, 1) := by decide +kernel
theorem dL_law_155 : decode cL_law 155 = .ok (.iload_n 3, 1) := by decide +kernel
theorem dL_law_156 : decode cL_law 156 = .ok (.iconst 1, 1) := by decide +kernel
theorem dL_law_157 : decode cL_law 157 = .ok (.iadd, 1) := by decide +kernel
theorem dL_law_158 : decode cL_law 158 = .ok (.iaload, 1) := by decide +kernel
theorem dL_law_159 : decode cL_law 159 = .ok (.aload_n 0, 1) := by decide +kernel
theorem dL_law_160 : decode cL_law 160 = .ok (.iload_n 3, 1) := by decide +kernel
theorem dL_law_161 : decode cL_law 161 = .ok (.iconst 2, 1) := by decide +kernel
theorem dL_law_162 : decode cL_law 162 = .ok (.iadd, 1) := by decide +kernel
theorem dL_law_163 : decode cL_law 163 = .ok (.iaload, 1) := by decide +kernel
theorem dL_law_164 : decode cL_law 164 = .ok (.aload_n 0, 1) := by decide +kernel
theorem dL_law_165 : decode cL_law 165 = .ok (.iload_n 3, 1) := by decide +kernel
theorem dL_law_166 : decode cL_law 166 = .ok (.iconst 3, 1) := by decide +kernel
theorem dL_law_167 : decode cL_law 167 = .ok (.iadd, 1) := by decide +kernel
theorem dL_law_168 : decode cL_law 168 = .ok (.iaload, 1) := by decide +kernel
theorem dL_law_169 : decode cL_law 169 = .ok (.aload_n 0, 1) := by decide +kernel
theorem dL_law_170 : decode cL_law 170 = .ok (.iload_n 3, 1) := by decide +kernel
theorem dL_law_171 : decode cL_law 171 = .ok (.iconst 4, 1) := by decide +kernel
theorem dL_law_172 : decode cL_law 172 = .ok (.iadd, 1) := by decide +kernel
theorem dL_law_173 : decode cL_law 173 = .ok (.iaload, 1) := by decide +kernel
theorem dL_law_174 : decode cL_law 174 = .ok (.invokevirtual 22, 3) := by decide +kernel
theorem dL_law_177 : decode cL_law 177 = .ok (.if_icmp .eq 301, 3) := by decide +kernel
theorem dL_law_180 : decode cL_law 180 = .ok (.iconst 0, 1) := by decide +kernel
theorem dL_law_181 : decode cL_law 181 = .ok (.ireturn, 1) := by decide +kernel
theorem dL_law_182 : decode cL_law 182 = .ok (.aload_n 1, 1) := by decide +kernel
theorem dL_law_183 : decode cL_law 183 = .ok (.aload_n 0, 1) := by decide +kernel
theorem dL_law_184 : decode cL_law 184 = .ok (.iload_n 3, 1) := by decide +kernel
theorem dL_law_185 : decode cL_law 185 = .ok (.iconst 1, 1) := by decide +kernel
theorem dL_law_186 : decode cL_law 186 = .ok (.iadd, 1) := by decide +kernel
theorem dL_law_187 : decode cL_law 187 = .ok (.iaload, 1) := by decide +kernel
theorem dL_law_188 : decode cL_law 188 = .ok (.invokevirtual 23, 3) := by decide +kernel
theorem dL_law_191 : decode cL_law 191 = .ok (.aload_n 2, 1) := by decide +kernel
theorem dL_law_192 : decode cL_law 192 = .ok (.aload_n 0, 1) := by decide +kernel
theorem dL_law_193 : decode cL_law 193 = .ok (.iload_n 3, 1) := by decide +kernel
theorem dL_law_194 : decode cL_law 194 = .ok (.iconst 1, 1) := by decide +kernel
theorem dL_law_195 : decode cL_law 195 = .ok (.iadd, 1) := by decide +kernel
theorem dL_law_196 : decode cL_law 196 = .ok (.iaload, 1) := by decide +kernel
theorem dL_law_197 : decode cL_law 197 = .ok (.invokevirtual 27, 3) := by decide +kernel
theorem dL_law_200 : decode cL_law 200 = .ok (.if_icmp .eq 278, 3) := by decide +kernel
theorem dL_law_203 : decode cL_law 203 = .ok (.iconst 0, 1) := by decide +kernel
theorem dL_law_204 : decode cL_law 204 = .ok (.ireturn, 1) := by decide +kernel
theorem dL_law_205 : decode cL_law 205 = .ok (.aload_n 1, 1) := by decide +kernel
theorem dL_law_206 : decode cL_law 206 = .ok (.aload_n 0, 1) := by decide +kernel
theorem dL_law_207 : decode cL_law 207 = .ok (.iload_n 3, 1) := by decide +kernel
theorem dL_law_208 : decode cL_law 208 = .ok (.iconst 1, 1) := by decide +kernel
theorem dL_law_209 : decode cL_law 209 = .ok (.iadd, 1) := by decide +kernel
theorem dL_law_210 : decode cL_law 210 = .ok (.iaload, 1) := by decide +kernel
theorem dL_law_211 : decode cL_law 211 = .ok (.invokevirtual 28, 3) := by decide +kernel
theorem dL_law_214 : decode cL_law 214 = .ok (.aload_n 2, 1) := by decide +kernel
theorem dL_law_215 : decode cL_law 215 = .ok (.aload_n 0, 1) := by decide +kernel
theorem dL_law_216 : decode cL_law 216 = .ok (.iload_n 3, 1) := by decide +kernel
theorem dL_law_217 : decode cL_law 217 = .ok (.iconst 1, 1) := by decide +kernel
theorem dL_law_218 : decode cL_law 218 = .ok (.iadd, 1) := by decide +kernel
theorem dL_law_219 : decode cL_law 219 = .ok (.iaload, 1) := by decide +kernel
theorem dL_law_220 : decode cL_law 220 = .ok (.invokevirtual 31, 3) := by decide +kernel
theorem dL_law_223 : decode cL_law 223 = .ok (.if_icmp .eq 255, 3) := by decide +kernel
theorem dL_law_226 : decode cL_law 226 = .ok (.iconst 0, 1) := by decide +kernel
theorem dL_law_227 : decode cL_law 227 = .ok (.ireturn, 1) := by decide +kernel
theorem dL_law_228 : decode cL_law 228 = .ok (.aload_n 1, 1) := by decide +kernel
theorem dL_law_229 : decode cL_law 229 = .ok (.aload_n 0, 1) := by decide +kernel
theorem dL_law_230 : decode cL_law 230 = .ok (.iload_n 3, 1) := by decide +kernel
theorem dL_law_231 : decode cL_law 231 = .ok (.iconst 1, 1) := by decide +kernel
theorem dL_law_232 : decode cL_law 232 = .ok (.iadd, 1) := by decide +kernel
theorem dL_law_233 : decode cL_law 233 = .ok (.iaload, 1) := by decide +kernel
theorem dL_law_234 : decode cL_law 234 = .ok (.aload_n 0, 1) := by decide +kernel
theorem dL_law_235 : decode cL_law 235 = .ok (.iload_n 3, 1) := by decide +kernel
theorem dL_law_236 : decode cL_law 236 = .ok (.iconst 2, 1) := by decide +kernel
theorem dL_law_237 : decode cL_law 237 = .ok (.iadd, 1) := by decide +kernel
theorem dL_law_238 : decode cL_law 238 = .ok (.iaload, 1) := by decide +kernel
theorem dL_law_239 : decode cL_law 239 = .ok (.invokevirtual 32, 3) := by decide +kernel
theorem dL_law_242 : decode cL_law 242 = .ok (.aload_n 2, 1) := by decide +kernel
theorem dL_law_243 : decode cL_law 243 = .ok (.aload_n 0, 1) := by decide +kernel
theorem dL_law_244 : decode cL_law 244 = .ok (.iload_n 3, 1) := by decide +kernel
theorem dL_law_245 : decode cL_law 245 = .ok (.iconst 1, 1) := by decide +kernel
theorem dL_law_246 : decode cL_law 246 = .ok (.iadd, 1) := by decide +kernel
theorem dL_law_247 : decode cL_law 247 = .ok (.iaload, 1) := by decide +kernel
theorem dL_law_248 : decode cL_law 248 = .ok (.aload_n 0, 1) := by decide +kernel
theorem dL_law_249 : decode cL_law 249 = .ok (.iload_n 3, 1) := by decide +kernel
theorem dL_law_250 : decode cL_law 250 = .ok (.iconst 2, 1) := by decide +kernel
theorem dL_law_251 : decode cL_law 251 = .ok (.iadd, 1) := by decide +kernel
theorem dL_law_252 : decode cL_law 252 = .ok (.iaload, 1) := by decide +kernel
theorem dL_law_253 : decode cL_law 253 = .ok (.invokevirtual 35, 3) := by decide +kernel
theorem dL_law_256 : decode cL_law 256 = .ok (.if_icmp .eq 222, 3) := by decide +kernel
theorem dL_law_259 : decode cL_law 259 = .ok (.iconst 0, 1) := by decide +kernel
theorem dL_law_260 : decode cL_law 260 = .ok (.ireturn, 1) := by decide +kernel
theorem dL_law_261 : decode cL_law 261 = .ok (.aload_n 1, 1) := by decide +kernel
theorem dL_law_262 : decode cL_law 262 = .ok (.aload_n 0, 1) := by decide +kernel
theorem dL_law_263 : decode cL_law 263 = .ok (.iload_n 3, 1) := by decide +kernel
theorem dL_law_264 : decode cL_law 264 = .ok (.iconst 1, 1) := by decide +kernel
theorem dL_law_265 : decode cL_law 265 = .ok (.iadd, 1) := by decide +kernel
theorem dL_law_266 : decode cL_law 266 = .ok (.iaload, 1) := by decide +kernel
theorem dL_law_267 : decode cL_law 267 = .ok (.invokevirtual 36, 3) := by decide +kernel
theorem dL_law_270 : decode cL_law 270 = .ok (.aload_n 2, 1) := by decide +kernel
theorem dL_law_271 : decode cL_law 271 = .ok (.aload_n 0, 1) := by decide +kernel
theorem dL_law_272 : decode cL_law 272 = .ok (.iload_n 3, 1) := by decide +kernel
theorem dL_law_273 : decode cL_law 273 = .ok (.iconst 1, 1) := by decide +kernel
theorem dL_law_274 : decode cL_law 274 = .ok (.iadd, 1) := by decide +kernel
theorem dL_law_275 : decode cL_law 275 = .ok (.iaload, 1) := by decide +kernel
theorem dL_law_276 : decode cL_law 276 = .ok (.invokevirtual 39, 3) := by decide +kernel
theorem dL_law_279 : decode cL_law 279 = .ok (.if_icmp .eq 199, 3) := by decide +kernel
theorem dL_law_282 : decode cL_law 282 = .ok (.iconst 0, 1) := by decide +kernel
theorem dL_law_283 : decode cL_law 283 = .ok (.ireturn, 1) := by decide +kernel
theorem dL_law_284 : decode cL_law 284 = .ok (.aload_n 1, 1) := by decide +kernel
theorem dL_law_285 : decode cL_law 285 = .ok (.aload_n 0, 1) := by decide +kernel
theorem dL_law_286 : decode cL_law 286 = .ok (.iload_n 3, 1) := by decide +kernel
theorem dL_law_287 : decode cL_law 287 = .ok (.iconst 1, 1) := by decide +kernel
theorem dL_law_288 : decode cL_law 288 = .ok (.iadd, 1) := by decide +kernel
theorem dL_law_289 : decode cL_law 289 = .ok (.iaload, 1) := by decide +kernel
theorem dL_law_290 : decode cL_law 290 = .ok (.invokevirtual 40, 3) := by decide +kernel
theorem dL_law_293 : decode cL_law 293 = .ok (.aload_n 2, 1) := by decide +kernel
theorem dL_law_294 : decode cL_law 294 = .ok (.aload_n 0, 1) := by decide +kernel
theorem dL_law_295 : decode cL_law 295 = .ok (.iload_n 3, 1) := by decide +kernel
theorem dL_law_296 : decode cL_law 296 = .ok (.iconst 1, 1) := by decide +kernel
theorem dL_law_297 : decode cL_law 297 = .ok (.iadd, 1) := by decide +kernel
theorem dL_law_298 : decode cL_law 298 = .ok (.iaload, 1) := by decide +kernel
theorem dL_law_299 : decode cL_law 299 = .ok (.invokevirtual 43, 3) := by decide +kernel
theorem dL_law_302 : decode cL_law 302 = .ok (.if_icmp .eq 176, 3) := by decide +kernel
theorem dL_law_305 : decode cL_law 305 = .ok (.iconst 0, 1) := by decide +kernel
theorem dL_law_306 : decode cL_law 306 = .ok (.ireturn, 1) := by decide +kernel
theorem dL_law_307 : decode cL_law 307 = .ok (.aload_n 1, 1) := by decide +kernel
theorem dL_law_308 : decode cL_law 308 = .ok (.aload_n 0, 1) := by decide +kernel
theorem dL_law_309 : decode cL_law 309 = .ok (.iload_n 3, 1) := by decide +kernel
theorem dL_law_310 : decode cL_law 310 = .ok (.iconst 1, 1) := by decide +kernel
theorem dL_law_311 : decode cL_law 311 = .ok (.iadd, 1) := by decide +kernel
theorem dL_law_312 : decode cL_law 312 = .ok (.iaload, 1) := by decide +kernel
theorem dL_law_313 : decode cL_law 313 = .ok (.aload_n 0, 1) := by decide +kernel
theorem dL_law_314 : decode cL_law 314 = .ok (.iload_n 3, 1) := by decide +kernel
theorem dL_law_315 : decode cL_law 315 = .ok (.iconst 2, 1) := by decide +kernel
theorem dL_law_316 : decode cL_law 316 = .ok (.iadd, 1) := by decide +kernel
theorem dL_law_317 : decode cL_law 317 = .ok (.iaload, 1) := by decide +kernel
theorem dL_law_318 : decode cL_law 318 = .ok (.invokevirtual 44, 3) := by decide +kernel
theorem dL_law_321 : decode cL_law 321 = .ok (.aload_n 2, 1) := by decide +kernel
theorem dL_law_322 : decode cL_law 322 = .ok (.aload_n 0, 1) := by decide +kernel
theorem dL_law_323 : decode cL_law 323 = .ok (.iload_n 3, 1) := by decide +kernel
theorem dL_law_324 : decode cL_law 324 = .ok (.iconst 1, 1) := by decide +kernel
theorem dL_law_325 : decode cL_law 325 = .ok (.iadd, 1) := by decide +kernel
theorem dL_law_326 : decode cL_law 326 = .ok (.iaload, 1) := by decide +kernel
theorem dL_law_327 : decode cL_law 327 = .ok (.aload_n 0, 1) := by decide +kernel
theorem dL_law_328 : decode cL_law 328 = .ok (.iload_n 3, 1) := by decide +kernel
theorem dL_law_329 : decode cL_law 329 = .ok (.iconst 2, 1) := by decide +kernel
theorem dL_law_330 : decode cL_law 330 = .ok (.iadd, 1) := by decide +kernel
theorem dL_law_331 : decode cL_law 331 = .ok (.iaload, 1) := by decide +kernel
theorem dL_law_332 : decode cL_law 332 = .ok (.invokevirtual 47, 3) := by decide +kernel
theorem dL_law_335 : decode cL_law 335 = .ok (.if_icmp .eq 143, 3) := by decide +kernel
theorem dL_law_338 : decode cL_law 338 = .ok (.iconst 0, 1) := by decide +kernel
theorem dL_law_339 : decode cL_law 339 = .ok (.ireturn, 1) := by decide +kernel
theorem dL_law_340 : decode cL_law 340 = .ok (.aload_n 1, 1) := by decide +kernel
theorem dL_law_341 : decode cL_law 341 = .ok (.aload_n 0, 1) := by decide +kernel
theorem dL_law_342 : decode cL_law 342 = .ok (.iload_n 3, 1) := by decide +kernel
theorem dL_law_343 : decode cL_law 343 = .ok (.iconst 1, 1) := by decide +kernel
theorem dL_law_344 : decode cL_law 344 = .ok (.iadd, 1) := by decide +kernel
theorem dL_law_345 : decode cL_law 345 = .ok (.iaload, 1) := by decide +kernel
theorem dL_law_346 : decode cL_law 346 = .ok (.aload_n 0, 1) := by decide +kernel
theorem dL_law_347 : decode cL_law 347 = .ok (.iload_n 3, 1) := by decide +kernel
theorem dL_law_348 : decode cL_law 348 = .ok (.iconst 2, 1) := by decide +kernel
theorem dL_law_349 : decode cL_law 349 = .ok (.iadd, 1) := by decide +kernel
theorem dL_law_350 : decode cL_law 350 = .ok (.iaload, 1) := by decide +kernel
theorem dL_law_351 : decode cL_law 351 = .ok (.ifCond .eq 7, 3) := by decide +kernel
theorem dL_law_354 : decode cL_law 354 = .ok (.iconst 1, 1) := by decide +kernel
theorem dL_law_355 : decode cL_law 355 = .ok (.goto 4, 3) := by decide +kernel
theorem dL_law_358 : decode cL_law 358 = .ok (.iconst 0, 1) := by decide +kernel
theorem dL_law_359 : decode cL_law 359 = .ok (.aload_n 0, 1) := by decide +kernel
theorem dL_law_360 : decode cL_law 360 = .ok (.iload_n 3, 1) := by decide +kernel
theorem dL_law_361 : decode cL_law 361 = .ok (.iconst 3, 1) := by decide +kernel
theorem dL_law_362 : decode cL_law 362 = .ok (.iadd, 1) := by decide +kernel
theorem dL_law_363 : decode cL_law 363 = .ok (.iaload, 1) := by decide +kernel
theorem dL_law_364 : decode cL_law 364 = .ok (.invokevirtual 48, 3) := by decide +kernel
theorem dL_law_367 : decode cL_law 367 = .ok (.aload_n 2, 1) := by decide +kernel
theorem dL_law_368 : decode cL_law 368 = .ok (.aload_n 0, 1) := by decide +kernel
theorem dL_law_369 : decode cL_law 369 = .ok (.iload_n 3, 1) := by decide +kernel
theorem dL_law_370 : decode cL_law 370 = .ok (.iconst 1, 1) := by decide +kernel
theorem dL_law_371 : decode cL_law 371 = .ok (.iadd, 1) := by decide +kernel
theorem dL_law_372 : decode cL_law 372 = .ok (.iaload, 1) := by decide +kernel
theorem dL_law_373 : decode cL_law 373 = .ok (.aload_n 0, 1) := by decide +kernel
theorem dL_law_374 : decode cL_law 374 = .ok (.iload_n 3, 1) := by decide +kernel
theorem dL_law_375 : decode cL_law 375 = .ok (.iconst 2, 1) := by decide +kernel
theorem dL_law_376 : decode cL_law 376 = .ok (.iadd, 1) := by decide +kernel
theorem dL_law_377 : decode cL_law 377 = .ok (.iaload, 1) := by decide +kernel
theorem dL_law_378 : decode cL_law 378 = .ok (.ifCond .eq 7, 3) := by decide +kernel
theorem dL_law_381 : decode cL_law 381 = .ok (.iconst 1, 1) := by decide +kernel
theorem dL_law_382 : decode cL_law 382 = .ok (.goto 4, 3) := by decide +kernel
theorem dL_law_385 : decode cL_law 385 = .ok (.iconst 0, 1) := by decide +kernel
theorem dL_law_386 : decode cL_law 386 = .ok (.aload_n 0, 1) := by decide +kernel
theorem dL_law_387 : decode cL_law 387 = .ok (.iload_n 3, 1) := by decide +kernel
theorem dL_law_388 : decode cL_law 388 = .ok (.iconst 3, 1) := by decide +kernel
theorem dL_law_389 : decode cL_law 389 = .ok (.iadd, 1) := by decide +kernel
theorem dL_law_390 : decode cL_law 390 = .ok (.iaload, 1) := by decide +kernel
theorem dL_law_391 : decode cL_law 391 = .ok (.invokevirtual 52, 3) := by decide +kernel
theorem dL_law_394 : decode cL_law 394 = .ok (.if_icmp .eq 84, 3) := by decide +kernel
theorem dL_law_397 : decode cL_law 397 = .ok (.iconst 0, 1) := by decide +kernel
theorem dL_law_398 : decode cL_law 398 = .ok (.ireturn, 1) := by decide +kernel
theorem dL_law_399 : decode cL_law 399 = .ok (.aload_n 1, 1) := by decide +kernel
theorem dL_law_400 : decode cL_law 400 = .ok (.aload_n 0, 1) := by decide +kernel
theorem dL_law_401 : decode cL_law 401 = .ok (.iload_n 3, 1) := by decide +kernel
theorem dL_law_402 : decode cL_law 402 = .ok (.iconst 1, 1) := by decide +kernel
theorem dL_law_403 : decode cL_law 403 = .ok (.iadd, 1) := by decide +kernel
theorem dL_law_404 : decode cL_law 404 = .ok (.iaload, 1) := by decide +kernel
theorem dL_law_405 : decode cL_law 405 = .ok (.aload_n 0, 1) := by decide +kernel
theorem dL_law_406 : decode cL_law 406 = .ok (.iload_n 3, 1) := by decide +kernel
theorem dL_law_407 : decode cL_law 407 = .ok (.iconst 2, 1) := by decide +kernel
theorem dL_law_408 : decode cL_law 408 = .ok (.iadd, 1) := by decide +kernel
theorem dL_law_409 : decode cL_law 409 = .ok (.iaload, 1) := by decide +kernel
theorem dL_law_410 : decode cL_law 410 = .ok (.invokevirtual 53, 3) := by decide +kernel
theorem dL_law_413 : decode cL_law 413 = .ok (.aload_n 2, 1) := by decide +kernel
theorem dL_law_414 : decode cL_law 414 = .ok (.aload_n 0, 1) := by decide +kernel
theorem dL_law_415 : decode cL_law 415 = .ok (.iload_n 3, 1) := by decide +kernel
theorem dL_law_416 : decode cL_law 416 = .ok (.iconst 1, 1) := by decide +kernel
theorem dL_law_417 : decode cL_law 417 = .ok (.iadd, 1) := by decide +kernel
theorem dL_law_418 : decode cL_law 418 = .ok (.iaload, 1) := by decide +kernel
theorem dL_law_419 : decode cL_law 419 = .ok (.aload_n 0, 1) := by decide +kernel
theorem dL_law_420 : decode cL_law 420 = .ok (.iload_n 3, 1) := by decide +kernel
theorem dL_law_421 : decode cL_law 421 = .ok (.iconst 2, 1) := by decide +kernel
theorem dL_law_422 : decode cL_law 422 = .ok (.iadd, 1) := by decide +kernel
theorem dL_law_423 : decode cL_law 423 = .ok (.iaload, 1) := by decide +kernel
theorem dL_law_424 : decode cL_law 424 = .ok (.invokevirtual 56, 3) := by decide +kernel
theorem dL_law_427 : decode cL_law 427 = .ok (.if_icmp .eq 51, 3) := by decide +kernel
theorem dL_law_430 : decode cL_law 430 = .ok (.iconst 0, 1) := by decide +kernel
theorem dL_law_431 : decode cL_law 431 = .ok (.ireturn, 1) := by decide +kernel
theorem dL_law_432 : decode cL_law 432 = .ok (.aload_n 1, 1) := by decide +kernel
theorem dL_law_433 : decode cL_law 433 = .ok (.aload_n 0, 1) := by decide +kernel
theorem dL_law_434 : decode cL_law 434 = .ok (.iload_n 3, 1) := by decide +kernel
theorem dL_law_435 : decode cL_law 435 = .ok (.iconst 1, 1) := by decide +kernel
theorem dL_law_436 : decode cL_law 436 = .ok (.iadd, 1) := by decide +kernel
theorem dL_law_437 : decode cL_law 437 = .ok (.iaload, 1) := by decide +kernel
theorem dL_law_438 : decode cL_law 438 = .ok (.invokevirtual 57, 3) := by decide +kernel
theorem dL_law_441 : decode cL_law 441 = .ok (.aload_n 2, 1) := by decide +kernel
theorem dL_law_442 : decode cL_law 442 = .ok (.aload_n 0, 1) := by decide +kernel
theorem dL_law_443 : decode cL_law 443 = .ok (.iload_n 3, 1) := by decide +kernel
theorem dL_law_444 : decode cL_law 444 = .ok (.iconst 1, 1) := by decide +kernel
theorem dL_law_445 : decode cL_law 445 = .ok (.iadd, 1) := by decide +kernel
theorem dL_law_446 : decode cL_law 446 = .ok (.iaload, 1) := by decide +kernel
theorem dL_law_447 : decode cL_law 447 = .ok (.invokevirtual 60, 3) := by decide +kernel
theorem dL_law_450 : decode cL_law 450 = .ok (.if_icmp .eq 28, 3) := by decide +kernel
theorem dL_law_453 : decode cL_law 453 = .ok (.iconst 0, 1) := by decide +kernel
theorem dL_law_454 : decode cL_law 454 = .ok (.ireturn, 1) := by decide +kernel
theorem dL_law_455 : decode cL_law 455 = .ok (.aload_n 1, 1) := by decide +kernel
theorem dL_law_456 : decode cL_law 456 = .ok (.aload_n 0, 1) := by decide +kernel
theorem dL_law_457 : decode cL_law 457 = .ok (.iload_n 3, 1) := by decide +kernel
theorem dL_law_458 : decode cL_law 458 = .ok (.iconst 1, 1) := by decide +kernel
theorem dL_law_459 : decode cL_law 459 = .ok (.iadd, 1) := by decide +kernel
theorem dL_law_460 : decode cL_law 460 = .ok (.iaload, 1) := by decide +kernel
theorem dL_law_461 : decode cL_law 461 = .ok (.invokevirtual 61, 3) := by decide +kernel
theorem dL_law_464 : decode cL_law 464 = .ok (.aload_n 2, 1) := by decide +kernel
theorem dL_law_465 : decode cL_law 465 = .ok (.aload_n 0, 1) := by decide +kernel
theorem dL_law_466 : decode cL_law 466 = .ok (.iload_n 3, 1) := by decide +kernel
theorem dL_law_467 : decode cL_law 467 = .ok (.iconst 1, 1) := by decide +kernel
theorem dL_law_468 : decode cL_law 468 = .ok (.iadd, 1) := by decide +kernel
theorem dL_law_469 : decode cL_law 469 = .ok (.iaload, 1) := by decide +kernel
theorem dL_law_470 : decode cL_law 470 = .ok (.invokevirtual 64, 3) := by decide +kernel
theorem dL_law_473 : decode cL_law 473 = .ok (.if_icmp .eq 5, 3) := by decide +kernel
theorem dL_law_476 : decode cL_law 476 = .ok (.iconst 0, 1) := by decide +kernel
theorem dL_law_477 : decode cL_law 477 = .ok (.ireturn, 1) := by decide +kernel
theorem dL_law_478 : decode cL_law 478 = .ok (.iinc 3 5, 3) := by decide +kernel
theorem dL_law_481 : decode cL_law 481 = .ok (.goto (-463), 3) := by decide +kernel
theorem dL_law_484 : decode cL_law 484 = .ok (.iconst 1, 1) := by decide +kernel
theorem dL_law_485 : decode cL_law 485 = .ok (.ireturn, 1) := by decide +kernel
theorem dX0_init_0 : decode cX0_init 0 = .ok (.aload_n 0, 1) := by decide +kernel
theorem dX0_init_1 : decode cX0_init 1 = .ok (.invokespecial 3, 3) := by decide +kernel
theorem dX0_init_4 : decode cX0_init 4 = .ok (.aload_n 0, 1) := by decide +kernel
theorem dX0_init_5 : decode cX0_init 5 = .ok (.bipush 16, 2) := by decide +kernel
theorem dX0_init_7 : decode cX0_init 7 = .ok (.newarray .int, 2) := by decide +kernel
theorem dX0_init_9 : decode cX0_init 9 = .ok (.putfield 9, 3) := by decide +kernel
theorem dX0_init_12 : decode cX0_init 12 = .ok (.aload_n 0, 1) := by decide +kernel
theorem dX0_init_13 : decode cX0_init 13 = .ok (.bipush 16, 2) := by decide +kernel
theorem dX0_init_15 : decode cX0_init 15 = .ok (.newarray .int, 2) := by decide +kernel
theorem dX0_init_17 : decode cX0_init 17 = .ok (.putfield 15, 3) := by decide +kernel
theorem dX0_init_20 : decode cX0_init 20 = .ok (.aload_n 0, 1) := by decide +kernel
theorem dX0_init_21 : decode cX0_init 21 = .ok (.bipush 16, 2) := by decide +kernel
theorem dX0_init_23 : decode cX0_init 23 = .ok (.newarray .int, 2) := by decide +kernel
theorem dX0_init_25 : decode cX0_init 25 = .ok (.putfield 18, 3) := by decide +kernel
theorem dX0_init_28 : decode cX0_init 28 = .ok (.return_, 1) := by decide +kernel
theorem dX0_append_0 : decode cX0_append 0 = .ok (.aload_n 0, 1) := by decide +kernel
theorem dX0_append_1 : decode cX0_append 1 = .ok (.getfield 21, 3) := by decide +kernel
theorem dX0_append_4 : decode cX0_append 4 = .ok (.bipush 16, 2) := by decide +kernel
theorem dX0_append_6 : decode cX0_append 6 = .ok (.if_icmp .lt 6, 3) := by decide +kernel
theorem dX0_append_9 : decode cX0_append 9 = .ok (.bipush (-3), 2) := by decide +kernel
theorem dX0_append_11 : decode cX0_append 11 = .ok (.ireturn, 1) := by decide +kernel
theorem dX0_append_12 : decode cX0_append 12 = .ok (.aload_n 0, 1) := by decide +kernel
theorem dX0_append_13 : decode cX0_append 13 = .ok (.getfield 21, 3) := by decide +kernel
theorem dX0_append_16 : decode cX0_append 16 = .ok (.istore 4, 2) := by decide +kernel
theorem dX0_append_18 : decode cX0_append 18 = .ok (.aload_n 0, 1) := by decide +kernel
theorem dX0_append_19 : decode cX0_append 19 = .ok (.getfield 9, 3) := by decide +kernel
theorem dX0_append_22 : decode cX0_append 22 = .ok (.iload 4, 2) := by decide +kernel
theorem dX0_append_24 : decode cX0_append 24 = .ok (.iload_n 1, 1) := by decide +kernel
theorem dX0_append_25 : decode cX0_append 25 = .ok (.iastore, 1) := by decide +kernel
theorem dX0_append_26 : decode cX0_append 26 = .ok (.aload_n 0, 1) := by decide +kernel
theorem dX0_append_27 : decode cX0_append 27 = .ok (.getfield 15, 3) := by decide +kernel
theorem dX0_append_30 : decode cX0_append 30 = .ok (.iload 4, 2) := by decide +kernel
theorem dX0_append_32 : decode cX0_append 32 = .ok (.iload_n 2, 1) := by decide +kernel
theorem dX0_append_33 : decode cX0_append 33 = .ok (.iastore, 1) := by decide +kernel
theorem dX0_append_34 : decode cX0_append 34 = .ok (.aload_n 0, 1) := by decide +kernel
theorem dX0_append_35 : decode cX0_append 35 = .ok (.getfield 18, 3) := by decide +kernel
theorem dX0_append_38 : decode cX0_append 38 = .ok (.iload 4, 2) := by decide +kernel
theorem dX0_append_40 : decode cX0_append 40 = .ok (.iload_n 3, 1) := by decide +kernel
theorem dX0_append_41 : decode cX0_append 41 = .ok (.iastore, 1) := by decide +kernel
theorem dX0_append_42 : decode cX0_append 42 = .ok (.aload_n 0, 1) := by decide +kernel
theorem dX0_append_43 : decode cX0_append 43 = .ok (.dup, 1) := by decide +kernel
theorem dX0_append_44 : decode cX0_append 44 = .ok (.getfield 21, 3) := by decide +kernel
theorem dX0_append_47 : decode cX0_append 47 = .ok (.iconst 1, 1) := by decide +kernel
theorem dX0_append_48 : decode cX0_append 48 = .ok (.iadd, 1) := by decide +kernel
theorem dX0_append_49 : decode cX0_append 49 = .ok (.putfield 21, 3) := by decide +kernel
theorem dX0_append_52 : decode cX0_append 52 = .ok (.iload 4, 2) := by decide +kernel
theorem dX0_append_54 : decode cX0_append 54 = .ok (.ireturn, 1) := by decide +kernel
theorem dX1_init_0 : decode cX1_init 0 = .ok (.aload_n 0, 1) := by decide +kernel
theorem dX1_init_1 : decode cX1_init 1 = .ok (.invokespecial 3, 3) := by decide +kernel
theorem dX1_init_4 : decode cX1_init 4 = .ok (.aload_n 0, 1) := by decide +kernel
theorem dX1_init_5 : decode cX1_init 5 = .ok (.iconst 3, 1) := by decide +kernel
theorem dX1_init_6 : decode cX1_init 6 = .ok (.newarray .int, 2) := by decide +kernel
theorem dX1_init_8 : decode cX1_init 8 = .ok (.putfield 9, 3) := by decide +kernel
theorem dX1_init_11 : decode cX1_init 11 = .ok (.aload_n 0, 1) := by decide +kernel
theorem dX1_init_12 : decode cX1_init 12 = .ok (.bipush (-4), 2) := by decide +kernel
theorem dX1_init_14 : decode cX1_init 14 = .ok (.putfield 15, 3) := by decide +kernel
theorem dX1_init_17 : decode cX1_init 17 = .ok (.return_, 1) := by decide +kernel
theorem dX1_isNothing_0 : decode cX1_isNothing 0 = .ok (.aload_n 0, 1) := by decide +kernel
theorem dX1_isNothing_1 : decode cX1_isNothing 1 = .ok (.getfield 15, 3) := by decide +kernel
theorem dX1_isNothing_4 : decode cX1_isNothing 4 = .ok (.bipush (-4), 2) := by decide +kernel
theorem dX1_isNothing_6 : decode cX1_isNothing 6 = .ok (.if_icmp .ne 7, 3) := by decide +kernel
theorem dX1_isNothing_9 : decode cX1_isNothing 9 = .ok (.iconst 1, 1) := by decide +kernel
theorem dX1_isNothing_10 : decode cX1_isNothing 10 = .ok (.goto 4, 3) := by decide +kernel
theorem dX1_isNothing_13 : decode cX1_isNothing 13 = .ok (.iconst 0, 1) := by decide +kernel
theorem dX1_isNothing_14 : decode cX1_isNothing 14 = .ok (.ireturn, 1) := by decide +kernel
theorem dX1_has_0 : decode cX1_has 0 = .ok (.aload_n 0, 1) := by decide +kernel
theorem dX1_has_1 : decode cX1_has 1 = .ok (.getfield 15, 3) := by decide +kernel
theorem dX1_has_4 : decode cX1_has 4 = .ok (.bipush (-4), 2) := by decide +kernel
theorem dX1_has_6 : decode cX1_has 6 = .ok (.if_icmp .eq 16, 3) := by decide +kernel
theorem dX1_has_9 : decode cX1_has 9 = .ok (.iload_n 1, 1) := by decide +kernel
theorem dX1_has_10 : decode cX1_has 10 = .ok (.ifCond .lt 12, 3) := by decide +kernel
theorem dX1_has_13 : decode cX1_has 13 = .ok (.iload_n 1, 1) := by decide +kernel
theorem dX1_has_14 : decode cX1_has 14 = .ok (.iconst 3, 1) := by decide +kernel
theorem dX1_has_15 : decode cX1_has 15 = .ok (.if_icmp .ge 7, 3) := by decide +kernel
theorem dX1_has_18 : decode cX1_has 18 = .ok (.iconst 1, 1) := by decide +kernel
theorem dX1_has_19 : decode cX1_has 19 = .ok (.goto 4, 3) := by decide +kernel
theorem dX1_has_22 : decode cX1_has 22 = .ok (.iconst 0, 1) := by decide +kernel
theorem dX1_has_23 : decode cX1_has 23 = .ok (.ireturn, 1) := by decide +kernel
theorem dX1_renew_0 : decode cX1_renew 0 = .ok (.aload_n 0, 1) := by decide +kernel
theorem dX1_renew_1 : decode cX1_renew 1 = .ok (.iload_n 1, 1) := by decide +kernel
theorem dX1_renew_2 : decode cX1_renew 2 = .ok (.ifCond .eq 8, 3) := by decide +kernel
theorem dX1_renew_5 : decode cX1_renew 5 = .ok (.iload_n 1, 1) := by decide +kernel
theorem dX1_renew_6 : decode cX1_renew 6 = .ok (.iconst 1, 1) := by decide +kernel
theorem dX1_renew_7 : decode cX1_renew 7 = .ok (.if_icmp .ne 7, 3) := by decide +kernel
theorem dX1_renew_10 : decode cX1_renew 10 = .ok (.iload_n 1, 1) := by decide +kernel
theorem dX1_renew_11 : decode cX1_renew 11 = .ok (.goto 5, 3) := by decide +kernel
theorem dX1_renew_14 : decode cX1_renew 14 = .ok (.bipush (-4), 2) := by decide +kernel
theorem dX1_renew_16 : decode cX1_renew 16 = .ok (.putfield 15, 3) := by decide +kernel
theorem dX1_renew_19 : decode cX1_renew 19 = .ok (.iconst 0, 1) := by decide +kernel
theorem dX1_renew_20 : decode cX1_renew 20 = .ok (.istore_n 2, 1) := by decide +kernel
theorem dX1_renew_21 : decode cX1_renew 21 = .ok (.iload_n 2, 1) := by decide +kernel
theorem dX1_renew_22 : decode cX1_renew 22 = .ok (.iconst 3, 1) := by decide +kernel
theorem dX1_renew_23 : decode cX1_renew 23 = .ok (.if_icmp .ge 29, 3) := by decide +kernel
theorem dX1_renew_26 : decode cX1_renew 26 = .ok (.aload_n 0, 1) := by decide +kernel
theorem dX1_renew_27 : decode cX1_renew 27 = .ok (.getfield 9, 3) := by decide +kernel
theorem dX1_renew_30 : decode cX1_renew 30 = .ok (.iload_n 2, 1) := by decide +kernel
theorem dX1_renew_31 : decode cX1_renew 31 = .ok (.aload_n 0, 1) := by decide +kernel
theorem dX1_renew_32 : decode cX1_renew 32 = .ok (.getfield 15, 3) := by decide +kernel
theorem dX1_renew_35 : decode cX1_renew 35 = .ok (.iconst 1, 1) := by decide +kernel
theorem dX1_renew_36 : decode cX1_renew 36 = .ok (.if_icmp .ne 8, 3) := by decide +kernel
theorem dX1_renew_39 : decode cX1_renew 39 = .ok (.bipush (-4), 2) := by decide +kernel
theorem dX1_renew_41 : decode cX1_renew 41 = .ok (.goto 4, 3) := by decide +kernel
theorem dX1_renew_44 : decode cX1_renew 44 = .ok (.iconst 0, 1) := by decide +kernel
theorem dX1_renew_45 : decode cX1_renew 45 = .ok (.iastore, 1) := by decide +kernel
theorem dX1_renew_46 : decode cX1_renew 46 = .ok (.iinc 2 1, 3) := by decide +kernel
theorem dX1_renew_49 : decode cX1_renew 49 = .ok (.goto (-28), 3) := by decide +kernel
theorem dX1_renew_52 : decode cX1_renew 52 = .ok (.return_, 1) := by decide +kernel
theorem dX1_lookAt_0 : decode cX1_lookAt 0 = .ok (.aload_n 0, 1) := by decide +kernel
theorem dX1_lookAt_1 : decode cX1_lookAt 1 = .ok (.getfield 15, 3) := by decide +kernel
theorem dX1_lookAt_4 : decode cX1_lookAt 4 = .ok (.iload_n 1, 1) := by decide +kernel
theorem dX1_lookAt_5 : decode cX1_lookAt 5 = .ok (.if_icmp .eq 14, 3) := by decide +kernel
theorem dX1_lookAt_8 : decode cX1_lookAt 8 = .ok (.aload_n 0, 1) := by decide +kernel
theorem dX1_lookAt_9 : decode cX1_lookAt 9 = .ok (.getfield 15, 3) := by decide +kernel
theorem dX1_lookAt_12 : decode cX1_lookAt 12 = .ok (.bipush (-4), 2) := by decide +kernel
theorem dX1_lookAt_14 : decode cX1_lookAt 14 = .ok (.if_icmp .eq 5, 3) := by decide +kernel
theorem dX1_lookAt_17 : decode cX1_lookAt 17 = .ok (.iconst 4, 1) := by decide +kernel
theorem dX1_lookAt_18 : decode cX1_lookAt 18 = .ok (.ireturn, 1) := by decide +kernel
theorem dX1_lookAt_19 : decode cX1_lookAt 19 = .ok (.aload_n 0, 1) := by decide +kernel
theorem dX1_lookAt_20 : decode cX1_lookAt 20 = .ok (.getfield 15, 3) := by decide +kernel
theorem dX1_lookAt_23 : decode cX1_lookAt 23 = .ok (.bipush (-4), 2) := by decide +kernel
theorem dX1_lookAt_25 : decode cX1_lookAt 25 = .ok (.if_icmp .ne 5, 3) := by decide +kernel
theorem dX1_lookAt_28 : decode cX1_lookAt 28 = .ok (.iconst 1, 1) := by decide +kernel
theorem dX1_lookAt_29 : decode cX1_lookAt 29 = .ok (.ireturn, 1) := by decide +kernel
theorem dX1_lookAt_30 : decode cX1_lookAt 30 = .ok (.iload_n 2, 1) := by decide +kernel
theorem dX1_lookAt_31 : decode cX1_lookAt 31 = .ok (.ifCond .lt 12, 3) := by decide +kernel
theorem dX1_lookAt_34 : decode cX1_lookAt 34 = .ok (.iload_n 2, 1) := by decide +kernel
theorem dX1_lookAt_35 : decode cX1_lookAt 35 = .ok (.iconst 3, 1) := by decide +kernel
theorem dX1_lookAt_36 : decode cX1_lookAt 36 = .ok (.if_icmp .ge 7, 3) := by decide +kernel
theorem dX1_lookAt_39 : decode cX1_lookAt 39 = .ok (.iconst 0, 1) := by decide +kernel
theorem dX1_lookAt_40 : decode cX1_lookAt 40 = .ok (.goto 4, 3) := by decide +kernel
theorem dX1_lookAt_43 : decode cX1_lookAt 43 = .ok (.iconst 2, 1) := by decide +kernel
theorem dX1_lookAt_44 : decode cX1_lookAt 44 = .ok (.ireturn, 1) := by decide +kernel
theorem dX1_put_0 : decode cX1_put 0 = .ok (.aload_n 0, 1) := by decide +kernel
theorem dX1_put_1 : decode cX1_put 1 = .ok (.iload_n 1, 1) := by decide +kernel
theorem dX1_put_2 : decode cX1_put 2 = .ok (.iload_n 2, 1) := by decide +kernel
theorem dX1_put_3 : decode cX1_put 3 = .ok (.invokevirtual 19, 3) := by decide +kernel
theorem dX1_put_6 : decode cX1_put 6 = .ok (.istore 4, 2) := by decide +kernel
theorem dX1_put_8 : decode cX1_put 8 = .ok (.iload 4, 2) := by decide +kernel
theorem dX1_put_10 : decode cX1_put 10 = .ok (.ifCond .ne 10, 3) := by decide +kernel
theorem dX1_put_13 : decode cX1_put 13 = .ok (.aload_n 0, 1) := by decide +kernel
theorem dX1_put_14 : decode cX1_put 14 = .ok (.getfield 9, 3) := by decide +kernel
theorem dX1_put_17 : decode cX1_put 17 = .ok (.iload_n 2, 1) := by decide +kernel
theorem dX1_put_18 : decode cX1_put 18 = .ok (.iload_n 3, 1) := by decide +kernel
theorem dX1_put_19 : decode cX1_put 19 = .ok (.iastore, 1) := by decide +kernel
theorem dX1_put_20 : decode cX1_put 20 = .ok (.iload 4, 2) := by decide +kernel
theorem dX1_put_22 : decode cX1_put 22 = .ok (.ireturn, 1) := by decide +kernel
theorem dX2_init_0 : decode cX2_init 0 = .ok (.aload_n 0, 1) := by decide +kernel
theorem dX2_init_1 : decode cX2_init 1 = .ok (.invokespecial 3, 3) := by decide +kernel
theorem dX2_init_4 : decode cX2_init 4 = .ok (.aload_n 0, 1) := by decide +kernel
theorem dX2_init_5 : decode cX2_init 5 = .ok (.bipush 6, 2) := by decide +kernel
theorem dX2_init_7 : decode cX2_init 7 = .ok (.newarray .int, 2) := by decide +kernel
theorem dX2_init_9 : decode cX2_init 9 = .ok (.putfield 9, 3) := by decide +kernel
theorem dX2_init_12 : decode cX2_init 12 = .ok (.return_, 1) := by decide +kernel
theorem dX2_isFull_0 : decode cX2_isFull 0 = .ok (.aload_n 0, 1) := by decide +kernel
theorem dX2_isFull_1 : decode cX2_isFull 1 = .ok (.getfield 15, 3) := by decide +kernel
theorem dX2_isFull_4 : decode cX2_isFull 4 = .ok (.bipush 6, 2) := by decide +kernel
theorem dX2_isFull_6 : decode cX2_isFull 6 = .ok (.if_icmp .lt 7, 3) := by decide +kernel
theorem dX2_isFull_9 : decode cX2_isFull 9 = .ok (.iconst 1, 1) := by decide +kernel
theorem dX2_isFull_10 : decode cX2_isFull 10 = .ok (.goto 4, 3) := by decide +kernel
theorem dX2_isFull_13 : decode cX2_isFull 13 = .ok (.iconst 0, 1) := by decide +kernel
theorem dX2_isFull_14 : decode cX2_isFull 14 = .ok (.ireturn, 1) := by decide +kernel
theorem dX2_has_0 : decode cX2_has 0 = .ok (.iload_n 1, 1) := by decide +kernel
theorem dX2_has_1 : decode cX2_has 1 = .ok (.ifCond .lt 15, 3) := by decide +kernel
theorem dX2_has_4 : decode cX2_has 4 = .ok (.iload_n 1, 1) := by decide +kernel
theorem dX2_has_5 : decode cX2_has 5 = .ok (.aload_n 0, 1) := by decide +kernel
theorem dX2_has_6 : decode cX2_has 6 = .ok (.getfield 15, 3) := by decide +kernel
theorem dX2_has_9 : decode cX2_has 9 = .ok (.if_icmp .ge 7, 3) := by decide +kernel
theorem dX2_has_12 : decode cX2_has 12 = .ok (.iconst 1, 1) := by decide +kernel
theorem dX2_has_13 : decode cX2_has 13 = .ok (.goto 4, 3) := by decide +kernel
theorem dX2_has_16 : decode cX2_has 16 = .ok (.iconst 0, 1) := by decide +kernel
theorem dX2_has_17 : decode cX2_has 17 = .ok (.ireturn, 1) := by decide +kernel
theorem dX2_append_0 : decode cX2_append 0 = .ok (.aload_n 0, 1) := by decide +kernel
theorem dX2_append_1 : decode cX2_append 1 = .ok (.getfield 15, 3) := by decide +kernel
theorem dX2_append_4 : decode cX2_append 4 = .ok (.bipush 6, 2) := by decide +kernel
theorem dX2_append_6 : decode cX2_append 6 = .ok (.if_icmp .ge 23, 3) := by decide +kernel
theorem dX2_append_9 : decode cX2_append 9 = .ok (.aload_n 0, 1) := by decide +kernel
theorem dX2_append_10 : decode cX2_append 10 = .ok (.getfield 9, 3) := by decide +kernel
theorem dX2_append_13 : decode cX2_append 13 = .ok (.aload_n 0, 1) := by decide +kernel
theorem dX2_append_14 : decode cX2_append 14 = .ok (.getfield 15, 3) := by decide +kernel
theorem dX2_append_17 : decode cX2_append 17 = .ok (.iload_n 1, 1) := by decide +kernel
theorem dX2_append_18 : decode cX2_append 18 = .ok (.iastore, 1) := by decide +kernel
theorem dX2_append_19 : decode cX2_append 19 = .ok (.aload_n 0, 1) := by decide +kernel
theorem dX2_append_20 : decode cX2_append 20 = .ok (.dup, 1) := by decide +kernel
theorem dX2_append_21 : decode cX2_append 21 = .ok (.getfield 15, 3) := by decide +kernel
theorem dX2_append_24 : decode cX2_append 24 = .ok (.iconst 1, 1) := by decide +kernel
theorem dX2_append_25 : decode cX2_append 25 = .ok (.iadd, 1) := by decide +kernel
theorem dX2_append_26 : decode cX2_append 26 = .ok (.putfield 15, 3) := by decide +kernel
theorem dX2_append_29 : decode cX2_append 29 = .ok (.return_, 1) := by decide +kernel
theorem dX2_removeEldest_0 : decode cX2_removeEldest 0 = .ok (.aload_n 0, 1) := by decide +kernel
theorem dX2_removeEldest_1 : decode cX2_removeEldest 1 = .ok (.getfield 15, 3) := by decide +kernel
theorem dX2_removeEldest_4 : decode cX2_removeEldest 4 = .ok (.ifCond .gt 5, 3) := by decide +kernel
theorem dX2_removeEldest_7 : decode cX2_removeEldest 7 = .ok (.iconst 0, 1) := by decide +kernel
theorem dX2_removeEldest_8 : decode cX2_removeEldest 8 = .ok (.ireturn, 1) := by decide +kernel
theorem dX2_removeEldest_9 : decode cX2_removeEldest 9 = .ok (.aload_n 0, 1) := by decide +kernel
theorem dX2_removeEldest_10 : decode cX2_removeEldest 10 = .ok (.getfield 9, 3) := by decide +kernel
theorem dX2_removeEldest_13 : decode cX2_removeEldest 13 = .ok (.iconst 0, 1) := by decide +kernel
theorem dX2_removeEldest_14 : decode cX2_removeEldest 14 = .ok (.iaload, 1) := by decide +kernel
theorem dX2_removeEldest_15 : decode cX2_removeEldest 15 = .ok (.istore_n 1, 1) := by decide +kernel
theorem dX2_removeEldest_16 : decode cX2_removeEldest 16 = .ok (.aload_n 0, 1) := by decide +kernel
theorem dX2_removeEldest_17 : decode cX2_removeEldest 17 = .ok (.dup, 1) := by decide +kernel
theorem dX2_removeEldest_18 : decode cX2_removeEldest 18 = .ok (.getfield 15, 3) := by decide +kernel
theorem dX2_removeEldest_21 : decode cX2_removeEldest 21 = .ok (.iconst 1, 1) := by decide +kernel
theorem dX2_removeEldest_22 : decode cX2_removeEldest 22 = .ok (.isub, 1) := by decide +kernel
theorem dX2_removeEldest_23 : decode cX2_removeEldest 23 = .ok (.putfield 15, 3) := by decide +kernel
theorem dX2_removeEldest_26 : decode cX2_removeEldest 26 = .ok (.iconst 0, 1) := by decide +kernel
theorem dX2_removeEldest_27 : decode cX2_removeEldest 27 = .ok (.istore_n 2, 1) := by decide +kernel
theorem dX2_removeEldest_28 : decode cX2_removeEldest 28 = .ok (.iload_n 2, 1) := by decide +kernel
theorem dX2_removeEldest_29 : decode cX2_removeEldest 29 = .ok (.aload_n 0, 1) := by decide +kernel
theorem dX2_removeEldest_30 : decode cX2_removeEldest 30 = .ok (.getfield 15, 3) := by decide +kernel
theorem dX2_removeEldest_33 : decode cX2_removeEldest 33 = .ok (.if_icmp .ge 23, 3) := by decide +kernel
theorem dX2_removeEldest_36 : decode cX2_removeEldest 36 = .ok (.aload_n 0, 1) := by decide +kernel
theorem dX2_removeEldest_37 : decode cX2_removeEldest 37 = .ok (.getfield 9, 3) := by decide +kernel
theorem dX2_removeEldest_40 : decode cX2_removeEldest 40 = .ok (.iload_n 2, 1) := by decide +kernel
theorem dX2_removeEldest_41 : decode cX2_removeEldest 41 = .ok (.aload_n 0, 1) := by decide +kernel
theorem dX2_removeEldest_42 : decode cX2_removeEldest 42 = .ok (.getfield 9, 3) := by decide +kernel
theorem dX2_removeEldest_45 : decode cX2_removeEldest 45 = .ok (.iload_n 2, 1) := by decide +kernel
theorem dX2_removeEldest_46 : decode cX2_removeEldest 46 = .ok (.iconst 1, 1) := by decide +kernel
theorem dX2_removeEldest_47 : decode cX2_removeEldest 47 = .ok (.iadd, 1) := by decide +kernel
theorem dX2_removeEldest_48 : decode cX2_removeEldest 48 = .ok (.iaload, 1) := by decide +kernel
theorem dX2_removeEldest_49 : decode cX2_removeEldest 49 = .ok (.iastore, 1) := by decide +kernel
theorem dX2_removeEldest_50 : decode cX2_removeEldest 50 = .ok (.iinc 2 1, 3) := by decide +kernel
theorem dX2_removeEldest_53 : decode cX2_removeEldest 53 = .ok (.goto (-25), 3) := by decide +kernel
theorem dX2_removeEldest_56 : decode cX2_removeEldest 56 = .ok (.iload_n 1, 1) := by decide +kernel
theorem dX2_removeEldest_57 : decode cX2_removeEldest 57 = .ok (.ireturn, 1) := by decide +kernel
theorem dX3_init_0 : decode cX3_init 0 = .ok (.aload_n 0, 1) := by decide +kernel
theorem dX3_init_1 : decode cX3_init 1 = .ok (.invokespecial 1, 3) := by decide +kernel
theorem dX3_init_4 : decode cX3_init 4 = .ok (.aload_n 0, 1) := by decide +kernel
theorem dX3_init_5 : decode cX3_init 5 = .ok (.new 7, 3) := by decide +kernel
theorem dX3_init_8 : decode cX3_init 8 = .ok (.dup, 1) := by decide +kernel
theorem dX3_init_9 : decode cX3_init 9 = .ok (.invokespecial 9, 3) := by decide +kernel
theorem dX3_init_12 : decode cX3_init 12 = .ok (.putfield 10, 3) := by decide +kernel
theorem dX3_init_15 : decode cX3_init 15 = .ok (.return_, 1) := by decide +kernel
theorem dX4_init_0 : decode cX4_init 0 = .ok (.aload_n 0, 1) := by decide +kernel
theorem dX4_init_1 : decode cX4_init 1 = .ok (.invokespecial 3, 3) := by decide +kernel
theorem dX4_init_4 : decode cX4_init 4 = .ok (.aload_n 0, 1) := by decide +kernel
theorem dX4_init_5 : decode cX4_init 5 = .ok (.bipush 40, 2) := by decide +kernel
theorem dX4_init_7 : decode cX4_init 7 = .ok (.newarray .int, 2) := by decide +kernel
theorem dX4_init_9 : decode cX4_init 9 = .ok (.putfield 9, 3) := by decide +kernel
theorem dX4_init_12 : decode cX4_init 12 = .ok (.aload_n 0, 1) := by decide +kernel
theorem dX4_init_13 : decode cX4_init 13 = .ok (.bipush (-4), 2) := by decide +kernel
theorem dX4_init_15 : decode cX4_init 15 = .ok (.putfield 15, 3) := by decide +kernel
theorem dX4_init_18 : decode cX4_init 18 = .ok (.return_, 1) := by decide +kernel
theorem dX4_isNothing_0 : decode cX4_isNothing 0 = .ok (.aload_n 0, 1) := by decide +kernel
theorem dX4_isNothing_1 : decode cX4_isNothing 1 = .ok (.getfield 15, 3) := by decide +kernel
theorem dX4_isNothing_4 : decode cX4_isNothing 4 = .ok (.bipush (-4), 2) := by decide +kernel
theorem dX4_isNothing_6 : decode cX4_isNothing 6 = .ok (.if_icmp .ne 7, 3) := by decide +kernel
theorem dX4_isNothing_9 : decode cX4_isNothing 9 = .ok (.iconst 1, 1) := by decide +kernel
theorem dX4_isNothing_10 : decode cX4_isNothing 10 = .ok (.goto 4, 3) := by decide +kernel
theorem dX4_isNothing_13 : decode cX4_isNothing 13 = .ok (.iconst 0, 1) := by decide +kernel
theorem dX4_isNothing_14 : decode cX4_isNothing 14 = .ok (.ireturn, 1) := by decide +kernel
theorem dX4_has_0 : decode cX4_has 0 = .ok (.iload_n 1, 1) := by decide +kernel
theorem dX4_has_1 : decode cX4_has 1 = .ok (.ifCond .lt 21, 3) := by decide +kernel
theorem dX4_has_4 : decode cX4_has 4 = .ok (.iload_n 1, 1) := by decide +kernel
theorem dX4_has_5 : decode cX4_has 5 = .ok (.aload_n 0, 1) := by decide +kernel
theorem dX4_has_6 : decode cX4_has 6 = .ok (.getfield 15, 3) := by decide +kernel
theorem dX4_has_9 : decode cX4_has 9 = .ok (.if_icmp .ge 13, 3) := by decide +kernel
theorem dX4_has_12 : decode cX4_has 12 = .ok (.iload_n 1, 1) := by decide +kernel
theorem dX4_has_13 : decode cX4_has 13 = .ok (.bipush 40, 2) := by decide +kernel
theorem dX4_has_15 : decode cX4_has 15 = .ok (.if_icmp .ge 7, 3) := by decide +kernel
theorem dX4_has_18 : decode cX4_has 18 = .ok (.iconst 1, 1) := by decide +kernel
theorem dX4_has_19 : decode cX4_has 19 = .ok (.goto 4, 3) := by decide +kernel
theorem dX4_has_22 : decode cX4_has 22 = .ok (.iconst 0, 1) := by decide +kernel
theorem dX4_has_23 : decode cX4_has 23 = .ok (.ireturn, 1) := by decide +kernel
theorem dX4_renew_0 : decode cX4_renew 0 = .ok (.iconst 0, 1) := by decide +kernel
theorem dX4_renew_1 : decode cX4_renew 1 = .ok (.istore_n 2, 1) := by decide +kernel
theorem dX4_renew_2 : decode cX4_renew 2 = .ok (.iload_n 2, 1) := by decide +kernel
theorem dX4_renew_3 : decode cX4_renew 3 = .ok (.bipush 40, 2) := by decide +kernel
theorem dX4_renew_5 : decode cX4_renew 5 = .ok (.if_icmp .ge 16, 3) := by decide +kernel
theorem dX4_renew_8 : decode cX4_renew 8 = .ok (.aload_n 0, 1) := by decide +kernel
theorem dX4_renew_9 : decode cX4_renew 9 = .ok (.getfield 9, 3) := by decide +kernel
theorem dX4_renew_12 : decode cX4_renew 12 = .ok (.iload_n 2, 1) := by decide +kernel
theorem dX4_renew_13 : decode cX4_renew 13 = .ok (.iconst 0, 1) := by decide +kernel
theorem dX4_renew_14 : decode cX4_renew 14 = .ok (.iastore, 1) := by decide +kernel
theorem dX4_renew_15 : decode cX4_renew 15 = .ok (.iinc 2 1, 3) := by decide +kernel
theorem dX4_renew_18 : decode cX4_renew 18 = .ok (.goto (-16), 3) := by decide +kernel
theorem dX4_renew_21 : decode cX4_renew 21 = .ok (.aload_n 0, 1) := by decide +kernel
theorem dX4_renew_22 : decode cX4_renew 22 = .ok (.iload_n 1, 1) := by decide +kernel
theorem dX4_renew_23 : decode cX4_renew 23 = .ok (.putfield 15, 3) := by decide +kernel
theorem dX4_renew_26 : decode cX4_renew 26 = .ok (.return_, 1) := by decide +kernel
theorem dX4_copyFrom_0 : decode cX4_copyFrom 0 = .ok (.iconst 0, 1) := by decide +kernel
theorem dX4_copyFrom_1 : decode cX4_copyFrom 1 = .ok (.istore_n 2, 1) := by decide +kernel
theorem dX4_copyFrom_2 : decode cX4_copyFrom 2 = .ok (.iload_n 2, 1) := by decide +kernel
theorem dX4_copyFrom_3 : decode cX4_copyFrom 3 = .ok (.bipush 40, 2) := by decide +kernel
theorem dX4_copyFrom_5 : decode cX4_copyFrom 5 = .ok (.if_icmp .ge 21, 3) := by decide +kernel
theorem dX4_copyFrom_8 : decode cX4_copyFrom 8 = .ok (.aload_n 0, 1) := by decide +kernel
theorem dX4_copyFrom_9 : decode cX4_copyFrom 9 = .ok (.getfield 9, 3) := by decide +kernel
theorem dX4_copyFrom_12 : decode cX4_copyFrom 12 = .ok (.iload_n 2, 1) := by decide +kernel
theorem dX4_copyFrom_13 : decode cX4_copyFrom 13 = .ok (.aload_n 1, 1) := by decide +kernel
theorem dX4_copyFrom_14 : decode cX4_copyFrom 14 = .ok (.getfield 9, 3) := by decide +kernel
theorem dX4_copyFrom_17 : decode cX4_copyFrom 17 = .ok (.iload_n 2, 1) := by decide +kernel
theorem dX4_copyFrom_18 : decode cX4_copyFrom 18 = .ok (.iaload, 1) := by decide +kernel
theorem dX4_copyFrom_19 : decode cX4_copyFrom 19 = .ok (.iastore, 1) := by decide +kernel
theorem dX4_copyFrom_20 : decode cX4_copyFrom 20 = .ok (.iinc 2 1, 3) := by decide +kernel
theorem dX4_copyFrom_23 : decode cX4_copyFrom 23 = .ok (.goto (-21), 3) := by decide +kernel
theorem dX4_copyFrom_26 : decode cX4_copyFrom 26 = .ok (.aload_n 0, 1) := by decide +kernel
theorem dX4_copyFrom_27 : decode cX4_copyFrom 27 = .ok (.aload_n 1, 1) := by decide +kernel
theorem dX4_copyFrom_28 : decode cX4_copyFrom 28 = .ok (.getfield 15, 3) := by decide +kernel
theorem dX4_copyFrom_31 : decode cX4_copyFrom 31 = .ok (.putfield 15, 3) := by decide +kernel
theorem dX4_copyFrom_34 : decode cX4_copyFrom 34 = .ok (.return_, 1) := by decide +kernel
theorem dX5_init_0 : decode cX5_init 0 = .ok (.aload_n 0, 1) := by decide +kernel
theorem dX5_init_1 : decode cX5_init 1 = .ok (.invokespecial 3, 3) := by decide +kernel
theorem dX5_init_4 : decode cX5_init 4 = .ok (.aload_n 0, 1) := by decide +kernel
theorem dX5_init_5 : decode cX5_init 5 = .ok (.iload_n 1, 1) := by decide +kernel
theorem dX5_init_6 : decode cX5_init 6 = .ok (.putfield 9, 3) := by decide +kernel
theorem dX5_init_9 : decode cX5_init 9 = .ok (.aload_n 0, 1) := by decide +kernel
theorem dX5_init_10 : decode cX5_init 10 = .ok (.iload_n 2, 1) := by decide +kernel
theorem dX5_init_11 : decode cX5_init 11 = .ok (.putfield 15, 3) := by decide +kernel
theorem dX5_init_14 : decode cX5_init 14 = .ok (.aload_n 0, 1) := by decide +kernel
theorem dX5_init_15 : decode cX5_init 15 = .ok (.iload_n 3, 1) := by decide +kernel
theorem dX5_init_16 : decode cX5_init 16 = .ok (.putfield 18, 3) := by decide +kernel
theorem dX5_init_19 : decode cX5_init 19 = .ok (.aload_n 0, 1) := by decide +kernel
theorem dX5_init_20 : decode cX5_init 20 = .ok (.new 21, 3) := by decide +kernel
theorem dX5_init_23 : decode cX5_init 23 = .ok (.dup, 1) := by decide +kernel
theorem dX5_init_24 : decode cX5_init 24 = .ok (.invokespecial 23, 3) := by decide +kernel
theorem dX5_init_27 : decode cX5_init 27 = .ok (.putfield 24, 3) := by decide +kernel
theorem dX5_init_30 : decode cX5_init 30 = .ok (.aload_n 0, 1) := by decide +kernel
theorem dX5_init_31 : decode cX5_init 31 = .ok (.new 28, 3) := by decide +kernel
theorem dX5_init_34 : decode cX5_init 34 = .ok (.dup, 1) := by decide +kernel
theorem dX5_init_35 : decode cX5_init 35 = .ok (.invokespecial 30, 3) := by decide +kernel
theorem dX5_init_38 : decode cX5_init 38 = .ok (.putfield 31, 3) := by decide +kernel
theorem dX5_init_41 : decode cX5_init 41 = .ok (.aload_n 0, 1) := by decide +kernel
theorem dX5_init_42 : decode cX5_init 42 = .ok (.new 35, 3) := by decide +kernel
theorem dX5_init_45 : decode cX5_init 45 = .ok (.dup, 1) := by decide +kernel
theorem dX5_init_46 : decode cX5_init 46 = .ok (.invokespecial 37, 3) := by decide +kernel
theorem dX5_init_49 : decode cX5_init 49 = .ok (.putfield 38, 3) := by decide +kernel
theorem dX5_init_52 : decode cX5_init 52 = .ok (.aload_n 0, 1) := by decide +kernel
theorem dX5_init_53 : decode cX5_init 53 = .ok (.new 42, 3) := by decide +kernel
theorem dX5_init_56 : decode cX5_init 56 = .ok (.dup, 1) := by decide +kernel
theorem dX5_init_57 : decode cX5_init 57 = .ok (.invokespecial 44, 3) := by decide +kernel
theorem dX5_init_60 : decode cX5_init 60 = .ok (.putfield 45, 3) := by decide +kernel
theorem dX5_init_63 : decode cX5_init 63 = .ok (.aload_n 0, 1) := by decide +kernel
theorem dX5_init_64 : decode cX5_init 64 = .ok (.new 49, 3) := by decide +kernel
theorem dX5_init_67 : decode cX5_init 67 = .ok (.dup, 1) := by decide +kernel
theorem dX5_init_68 : decode cX5_init 68 = .ok (.invokespecial 51, 3) := by decide +kernel
theorem dX5_init_71 : decode cX5_init 71 = .ok (.putfield 52, 3) := by decide +kernel
theorem dX5_init_74 : decode cX5_init 74 = .ok (.aload_n 0, 1) := by decide +kernel
theorem dX5_init_75 : decode cX5_init 75 = .ok (.iconst 0, 1) := by decide +kernel
theorem dX5_init_76 : decode cX5_init 76 = .ok (.putfield 56, 3) := by decide +kernel
theorem dX5_init_79 : decode cX5_init 79 = .ok (.aload_n 0, 1) := by decide +kernel
theorem dX5_init_80 : decode cX5_init 80 = .ok (.iconst 0, 1) := by decide +kernel
theorem dX5_init_81 : decode cX5_init 81 = .ok (.putfield 59, 3) := by decide +kernel
theorem dX5_init_84 : decode cX5_init 84 = .ok (.aload_n 0, 1) := by decide +kernel
theorem dX5_init_85 : decode cX5_init 85 = .ok (.bipush (-4), 2) := by decide +kernel
theorem dX5_init_87 : decode cX5_init 87 = .ok (.putfield 62, 3) := by decide +kernel
theorem dX5_init_90 : decode cX5_init 90 = .ok (.return_, 1) := by decide +kernel
theorem dX5_isOver_0 : decode cX5_isOver 0 = .ok (.aload_n 0, 1) := by decide +kernel
theorem dX5_isOver_1 : decode cX5_isOver 1 = .ok (.getfield 56, 3) := by decide +kernel
theorem dX5_isOver_4 : decode cX5_isOver 4 = .ok (.iconst 3, 1) := by decide +kernel
theorem dX5_isOver_5 : decode cX5_isOver 5 = .ok (.if_icmp .eq 19, 3) := by decide +kernel
theorem dX5_isOver_8 : decode cX5_isOver 8 = .ok (.aload_n 0, 1) := by decide +kernel
theorem dX5_isOver_9 : decode cX5_isOver 9 = .ok (.getfield 56, 3) := by decide +kernel
theorem dX5_isOver_12 : decode cX5_isOver 12 = .ok (.iconst 4, 1) := by decide +kernel
theorem dX5_isOver_13 : decode cX5_isOver 13 = .ok (.if_icmp .eq 11, 3) := by decide +kernel
theorem dX5_isOver_16 : decode cX5_isOver 16 = .ok (.aload_n 0, 1) := by decide +kernel
theorem dX5_isOver_17 : decode cX5_isOver 17 = .ok (.getfield 56, 3) := by decide +kernel
theorem dX5_isOver_20 : decode cX5_isOver 20 = .ok (.iconst 5, 1) := by decide +kernel
theorem dX5_isOver_21 : decode cX5_isOver 21 = .ok (.if_icmp .ne 7, 3) := by decide +kernel
theorem dX5_isOver_24 : decode cX5_isOver 24 = .ok (.iconst 1, 1) := by decide +kernel
theorem dX5_isOver_25 : decode cX5_isOver 25 = .ok (.goto 4, 3) := by decide +kernel
theorem dX5_isOver_28 : decode cX5_isOver 28 = .ok (.iconst 0, 1) := by decide +kernel
theorem dX5_isOver_29 : decode cX5_isOver 29 = .ok (.ireturn, 1) := by decide +kernel
theorem dX5_isReadyIn_0 : decode cX5_isReadyIn 0 = .ok (.aload_n 0, 1) := by decide +kernel
theorem dX5_isReadyIn_1 : decode cX5_isReadyIn 1 = .ok (.getfield 56, 3) := by decide +kernel
theorem dX5_isReadyIn_4 : decode cX5_isReadyIn 4 = .ok (.ifCond .ne 15, 3) := by decide +kernel
theorem dX5_isReadyIn_7 : decode cX5_isReadyIn 7 = .ok (.aload_n 0, 1) := by decide +kernel
theorem dX5_isReadyIn_8 : decode cX5_isReadyIn 8 = .ok (.getfield 65, 3) := by decide +kernel
theorem dX5_isReadyIn_11 : decode cX5_isReadyIn 11 = .ok (.iload_n 1, 1) := by decide +kernel
theorem dX5_isReadyIn_12 : decode cX5_isReadyIn 12 = .ok (.if_icmp .eq 7, 3) := by decide +kernel
theorem dX5_isReadyIn_15 : decode cX5_isReadyIn 15 = .ok (.iconst 1, 1) := by decide +kernel
theorem dX5_isReadyIn_16 : decode cX5_isReadyIn 16 = .ok (.goto 4, 3) := by decide +kernel
theorem dX5_isReadyIn_19 : decode cX5_isReadyIn 19 = .ok (.iconst 0, 1) := by decide +kernel
theorem dX5_isReadyIn_20 : decode cX5_isReadyIn 20 = .ok (.ireturn, 1) := by decide +kernel
theorem dX5_tell_0 : decode cX5_tell 0 = .ok (.iload_n 1, 1) := by decide +kernel
theorem dX5_tell_1 : decode cX5_tell 1 = .ok (.tableswitch 145 0 10 #[59, 66, 73, 80, 90, 97, 104, 111, 121, 131, 138], 59) := by decide +kernel
theorem dX5_tell_60 : decode cX5_tell 60 = .ok (.aload_n 0, 1) := by decide +kernel
theorem dX5_tell_61 : decode cX5_tell 61 = .ok (.getfield 56, 3) := by decide +kernel
theorem dX5_tell_64 : decode cX5_tell 64 = .ok (.goto 83, 3) := by decide +kernel
theorem dX5_tell_67 : decode cX5_tell 67 = .ok (.aload_n 0, 1) := by decide +kernel
theorem dX5_tell_68 : decode cX5_tell 68 = .ok (.getfield 68, 3) := by decide +kernel
theorem dX5_tell_71 : decode cX5_tell 71 = .ok (.goto 76, 3) := by decide +kernel
theorem dX5_tell_74 : decode cX5_tell 74 = .ok (.aload_n 0, 1) := by decide +kernel
theorem dX5_tell_75 : decode cX5_tell 75 = .ok (.getfield 71, 3) := by decide +kernel
theorem dX5_tell_78 : decode cX5_tell 78 = .ok (.goto 69, 3) := by decide +kernel
theorem dX5_tell_81 : decode cX5_tell 81 = .ok (.aload_n 0, 1) := by decide +kernel
theorem dX5_tell_82 : decode cX5_tell 82 = .ok (.getfield 31, 3) := by decide +kernel
theorem dX5_tell_85 : decode cX5_tell 85 = .ok (.getfield 74, 3) := by decide +kernel
theorem dX5_tell_88 : decode cX5_tell 88 = .ok (.goto 59, 3) := by decide +kernel
theorem dX5_tell_91 : decode cX5_tell 91 = .ok (.aload_n 0, 1) := by decide +kernel
theorem dX5_tell_92 : decode cX5_tell 92 = .ok (.getfield 77, 3) := by decide +kernel
theorem dX5_tell_95 : decode cX5_tell 95 = .ok (.goto 52, 3) := by decide +kernel
theorem dX5_tell_98 : decode cX5_tell 98 = .ok (.aload_n 0, 1) := by decide +kernel
theorem dX5_tell_99 : decode cX5_tell 99 = .ok (.getfield 80, 3) := by decide +kernel
theorem dX5_tell_102 : decode cX5_tell 102 = .ok (.goto 45, 3) := by decide +kernel
theorem dX5_tell_105 : decode cX5_tell 105 = .ok (.aload_n 0, 1) := by decide +kernel
theorem dX5_tell_106 : decode cX5_tell 106 = .ok (.getfield 59, 3) := by decide +kernel
theorem dX5_tell_109 : decode cX5_tell 109 = .ok (.goto 38, 3) := by decide +kernel
theorem dX5_tell_112 : decode cX5_tell 112 = .ok (.aload_n 0, 1) := by decide +kernel
theorem dX5_tell_113 : decode cX5_tell 113 = .ok (.getfield 38, 3) := by decide +kernel
theorem dX5_tell_116 : decode cX5_tell 116 = .ok (.getfield 83, 3) := by decide +kernel
theorem dX5_tell_119 : decode cX5_tell 119 = .ok (.goto 28, 3) := by decide +kernel
theorem dX5_tell_122 : decode cX5_tell 122 = .ok (.aload_n 0, 1) := by decide +kernel
theorem dX5_tell_123 : decode cX5_tell 123 = .ok (.getfield 45, 3) := by decide +kernel
theorem dX5_tell_126 : decode cX5_tell 126 = .ok (.getfield 86, 3) := by decide +kernel
theorem dX5_tell_129 : decode cX5_tell 129 = .ok (.goto 18, 3) := by decide +kernel
theorem dX5_tell_132 : decode cX5_tell 132 = .ok (.aload_n 0, 1) := by decide +kernel
theorem dX5_tell_133 : decode cX5_tell 133 = .ok (.getfield 89, 3) := by decide +kernel
theorem dX5_tell_136 : decode cX5_tell 136 = .ok (.goto 11, 3) := by decide +kernel
theorem dX5_tell_139 : decode cX5_tell 139 = .ok (.aload_n 0, 1) := by decide +kernel
theorem dX5_tell_140 : decode cX5_tell 140 = .ok (.getfield 62, 3) := by decide +kernel
theorem dX5_tell_143 : decode cX5_tell 143 = .ok (.goto 4, 3) := by decide +kernel
theorem dX5_tell_146 : decode cX5_tell 146 = .ok (.iconst (-1), 1) := by decide +kernel
theorem dX5_tell_147 : decode cX5_tell 147 = .ok (.ireturn, 1) := by decide +kernel
theorem dX5_wake_0 : decode cX5_wake 0 = .ok (.aload_n 0, 1) := by decide +kernel
theorem dX5_wake_1 : decode cX5_wake 1 = .ok (.getfield 56, 3) := by decide +kernel
theorem dX5_wake_4 : decode cX5_wake 4 = .ok (.iconst 1, 1) := by decide +kernel
theorem dX5_wake_5 : decode cX5_wake 5 = .ok (.if_icmp .ne 23, 3) := by decide +kernel
theorem dX5_wake_8 : decode cX5_wake 8 = .ok (.aload_n 0, 1) := by decide +kernel
theorem dX5_wake_9 : decode cX5_wake 9 = .ok (.getfield 92, 3) := by decide +kernel
theorem dX5_wake_12 : decode cX5_wake 12 = .ok (.ifCond .le 16, 3) := by decide +kernel
theorem dX5_wake_15 : decode cX5_wake 15 = .ok (.aload_n 0, 1) := by decide +kernel
theorem dX5_wake_16 : decode cX5_wake 16 = .ok (.dup, 1) := by decide +kernel
theorem dX5_wake_17 : decode cX5_wake 17 = .ok (.getfield 92, 3) := by decide +kernel
theorem dX5_wake_20 : decode cX5_wake 20 = .ok (.iconst 1, 1) := by decide +kernel
theorem dX5_wake_21 : decode cX5_wake 21 = .ok (.isub, 1) := by decide +kernel
theorem dX5_wake_22 : decode cX5_wake 22 = .ok (.putfield 92, 3) := by decide +kernel
theorem dX5_wake_25 : decode cX5_wake 25 = .ok (.goto 34, 3) := by decide +kernel
theorem dX5_wake_28 : decode cX5_wake 28 = .ok (.aload_n 0, 1) := by decide +kernel
theorem dX5_wake_29 : decode cX5_wake 29 = .ok (.getfield 56, 3) := by decide +kernel
theorem dX5_wake_32 : decode cX5_wake 32 = .ok (.iconst 1, 1) := by decide +kernel
theorem dX5_wake_33 : decode cX5_wake 33 = .ok (.if_icmp .eq 21, 3) := by decide +kernel
theorem dX5_wake_36 : decode cX5_wake 36 = .ok (.aload_n 0, 1) := by decide +kernel
theorem dX5_wake_37 : decode cX5_wake 37 = .ok (.getfield 56, 3) := by decide +kernel
theorem dX5_wake_40 : decode cX5_wake 40 = .ok (.iconst 2, 1) := by decide +kernel
theorem dX5_wake_41 : decode cX5_wake 41 = .ok (.if_icmp .ne 18, 3) := by decide +kernel
theorem dX5_wake_44 : decode cX5_wake 44 = .ok (.aload_n 0, 1) := by decide +kernel
theorem dX5_wake_45 : decode cX5_wake 45 = .ok (.getfield 31, 3) := by decide +kernel
theorem dX5_wake_48 : decode cX5_wake 48 = .ok (.getfield 74, 3) := by decide +kernel
theorem dX5_wake_51 : decode cX5_wake 51 = .ok (.ifCond .le 8, 3) := by decide +kernel
theorem dX5_wake_54 : decode cX5_wake 54 = .ok (.aload_n 0, 1) := by decide +kernel
theorem dX5_wake_55 : decode cX5_wake 55 = .ok (.iconst 0, 1) := by decide +kernel
theorem dX5_wake_56 : decode cX5_wake 56 = .ok (.putfield 56, 3) := by decide +kernel
theorem dX5_wake_59 : decode cX5_wake 59 = .ok (.return_, 1) := by decide +kernel
theorem dX5_fail_0 : decode cX5_fail 0 = .ok (.aload_n 0, 1) := by decide +kernel
theorem dX5_fail_1 : decode cX5_fail 1 = .ok (.dup, 1) := by decide +kernel
theorem dX5_fail_2 : decode cX5_fail 2 = .ok (.getfield 80, 3) := by decide +kernel
theorem dX5_fail_5 : decode cX5_fail 5 = .ok (.iconst 1, 1) := by decide +kernel
theorem dX5_fail_6 : decode cX5_fail 6 = .ok (.iadd, 1) := by decide +kernel
theorem dX5_fail_7 : decode cX5_fail 7 = .ok (.putfield 80, 3) := by decide +kernel
theorem dX5_fail_10 : decode cX5_fail 10 = .ok (.aload_n 0, 1) := by decide +kernel
theorem dX5_fail_11 : decode cX5_fail 11 = .ok (.iload_n 1, 1) := by decide +kernel
theorem dX5_fail_12 : decode cX5_fail 12 = .ok (.putfield 59, 3) := by decide +kernel
theorem dX5_fail_15 : decode cX5_fail 15 = .ok (.aload_n 0, 1) := by decide +kernel
theorem dX5_fail_16 : decode cX5_fail 16 = .ok (.aload_n 0, 1) := by decide +kernel
theorem dX5_fail_17 : decode cX5_fail 17 = .ok (.getfield 71, 3) := by decide +kernel
theorem dX5_fail_20 : decode cX5_fail 20 = .ok (.putfield 62, 3) := by decide +kernel
theorem dX5_fail_23 : decode cX5_fail 23 = .ok (.aload_n 0, 1) := by decide +kernel
theorem dX5_fail_24 : decode cX5_fail 24 = .ok (.getfield 15, 3) := by decide +kernel
theorem dX5_fail_27 : decode cX5_fail 27 = .ok (.iconst 2, 1) := by decide +kernel
theorem dX5_fail_28 : decode cX5_fail 28 = .ok (.if_icmp .ge 11, 3) := by decide +kernel
theorem dX5_fail_31 : decode cX5_fail 31 = .ok (.aload_n 0, 1) := by decide +kernel
theorem dX5_fail_32 : decode cX5_fail 32 = .ok (.iconst 4, 1) := by decide +kernel
theorem dX5_fail_33 : decode cX5_fail 33 = .ok (.putfield 56, 3) := by decide +kernel
theorem dX5_fail_36 : decode cX5_fail 36 = .ok (.goto 41, 3) := by decide +kernel
theorem dX5_fail_39 : decode cX5_fail 39 = .ok (.aload_n 0, 1) := by decide +kernel
theorem dX5_fail_40 : decode cX5_fail 40 = .ok (.getfield 89, 3) := by decide +kernel
theorem dX5_fail_43 : decode cX5_fail 43 = .ok (.aload_n 0, 1) := by decide +kernel
theorem dX5_fail_44 : decode cX5_fail 44 = .ok (.invokevirtual 95, 3) := by decide +kernel
theorem dX5_fail_47 : decode cX5_fail 47 = .ok (.if_icmp .ge 20, 3) := by decide +kernel
theorem dX5_fail_50 : decode cX5_fail 50 = .ok (.aload_n 0, 1) := by decide +kernel
theorem dX5_fail_51 : decode cX5_fail 51 = .ok (.dup, 1) := by decide +kernel
theorem dX5_fail_52 : decode cX5_fail 52 = .ok (.getfield 89, 3) := by decide +kernel
theorem dX5_fail_55 : decode cX5_fail 55 = .ok (.iconst 1, 1) := by decide +kernel
theorem dX5_fail_56 : decode cX5_fail 56 = .ok (.iadd, 1) := by decide +kernel
theorem dX5_fail_57 : decode cX5_fail 57 = .ok (.putfield 89, 3) := by decide +kernel
theorem dX5_fail_60 : decode cX5_fail 60 = .ok (.aload_n 0, 1) := by decide +kernel
theorem dX5_fail_61 : decode cX5_fail 61 = .ok (.invokevirtual 99, 3) := by decide +kernel
theorem dX5_fail_64 : decode cX5_fail 64 = .ok (.goto 13, 3) := by decide +kernel
theorem dX5_fail_67 : decode cX5_fail 67 = .ok (.aload_n 0, 1) := by decide +kernel
theorem dX5_fail_68 : decode cX5_fail 68 = .ok (.dup, 1) := by decide +kernel
theorem dX5_fail_69 : decode cX5_fail 69 = .ok (.getfield 71, 3) := by decide +kernel
theorem dX5_fail_72 : decode cX5_fail 72 = .ok (.iconst 1, 1) := by decide +kernel
theorem dX5_fail_73 : decode cX5_fail 73 = .ok (.iadd, 1) := by decide +kernel
theorem dX5_fail_74 : decode cX5_fail 74 = .ok (.putfield 71, 3) := by decide +kernel
theorem dX5_fail_77 : decode cX5_fail 77 = .ok (.return_, 1) := by decide +kernel
theorem dX5_backsAllowed_0 : decode cX5_backsAllowed 0 = .ok (.aload_n 0, 1) := by decide +kernel
theorem dX5_backsAllowed_1 : decode cX5_backsAllowed 1 = .ok (.getfield 15, 3) := by decide +kernel
theorem dX5_backsAllowed_4 : decode cX5_backsAllowed 4 = .ok (.iconst 3, 1) := by decide +kernel
theorem dX5_backsAllowed_5 : decode cX5_backsAllowed 5 = .ok (.if_icmp .ne 7, 3) := by decide +kernel
theorem dX5_backsAllowed_8 : decode cX5_backsAllowed 8 = .ok (.iconst 3, 1) := by decide +kernel
theorem dX5_backsAllowed_9 : decode cX5_backsAllowed 9 = .ok (.goto 16, 3) := by decide +kernel
theorem dX5_backsAllowed_12 : decode cX5_backsAllowed 12 = .ok (.aload_n 0, 1) := by decide +kernel
theorem dX5_backsAllowed_13 : decode cX5_backsAllowed 13 = .ok (.getfield 15, 3) := by decide +kernel
theorem dX5_backsAllowed_16 : decode cX5_backsAllowed 16 = .ok (.iconst 4, 1) := by decide +kernel
theorem dX5_backsAllowed_17 : decode cX5_backsAllowed 17 = .ok (.if_icmp .ne 7, 3) := by decide +kernel
theorem dX5_backsAllowed_20 : decode cX5_backsAllowed 20 = .ok (.iconst 5, 1) := by decide +kernel
theorem dX5_backsAllowed_21 : decode cX5_backsAllowed 21 = .ok (.goto 4, 3) := by decide +kernel
theorem dX5_backsAllowed_24 : decode cX5_backsAllowed 24 = .ok (.iconst 0, 1) := by decide +kernel
theorem dX5_backsAllowed_25 : decode cX5_backsAllowed 25 = .ok (.ireturn, 1) := by decide +kernel
theorem dX5_goBack_0 : decode cX5_goBack 0 = .ok (.aload_n 0, 1) := by decide +kernel
theorem dX5_goBack_1 : decode cX5_goBack 1 = .ok (.aload_n 0, 1) := by decide +kernel
theorem dX5_goBack_2 : decode cX5_goBack 2 = .ok (.getfield 52, 3) := by decide +kernel
theorem dX5_goBack_5 : decode cX5_goBack 5 = .ok (.getfield 102, 3) := by decide +kernel
theorem dX5_goBack_8 : decode cX5_goBack 8 = .ok (.putfield 68, 3) := by decide +kernel
theorem dX5_goBack_11 : decode cX5_goBack 11 = .ok (.aload_n 0, 1) := by decide +kernel
theorem dX5_goBack_12 : decode cX5_goBack 12 = .ok (.getfield 38, 3) := by decide +kernel
theorem dX5_goBack_15 : decode cX5_goBack 15 = .ok (.aload_n 0, 1) := by decide +kernel
theorem dX5_goBack_16 : decode cX5_goBack 16 = .ok (.getfield 52, 3) := by decide +kernel
theorem dX5_goBack_19 : decode cX5_goBack 19 = .ok (.getfield 103, 3) := by decide +kernel
theorem dX5_goBack_22 : decode cX5_goBack 22 = .ok (.invokevirtual 104, 3) := by decide +kernel
theorem dX5_goBack_25 : decode cX5_goBack 25 = .ok (.aload_n 0, 1) := by decide +kernel
theorem dX5_goBack_26 : decode cX5_goBack 26 = .ok (.aload_n 0, 1) := by decide +kernel
theorem dX5_goBack_27 : decode cX5_goBack 27 = .ok (.getfield 52, 3) := by decide +kernel
theorem dX5_goBack_30 : decode cX5_goBack 30 = .ok (.getfield 108, 3) := by decide +kernel
theorem dX5_goBack_33 : decode cX5_goBack 33 = .ok (.putfield 71, 3) := by decide +kernel
theorem dX5_goBack_36 : decode cX5_goBack 36 = .ok (.return_, 1) := by decide +kernel
theorem dX5_setMark_0 : decode cX5_setMark 0 = .ok (.aload_n 0, 1) := by decide +kernel
theorem dX5_setMark_1 : decode cX5_setMark 1 = .ok (.getfield 52, 3) := by decide +kernel
theorem dX5_setMark_4 : decode cX5_setMark 4 = .ok (.aload_n 0, 1) := by decide +kernel
theorem dX5_setMark_5 : decode cX5_setMark 5 = .ok (.getfield 68, 3) := by decide +kernel
theorem dX5_setMark_8 : decode cX5_setMark 8 = .ok (.putfield 102, 3) := by decide +kernel
theorem dX5_setMark_11 : decode cX5_setMark 11 = .ok (.aload_n 0, 1) := by decide +kernel
theorem dX5_setMark_12 : decode cX5_setMark 12 = .ok (.getfield 52, 3) := by decide +kernel
theorem dX5_setMark_15 : decode cX5_setMark 15 = .ok (.getfield 103, 3) := by decide +kernel
theorem dX5_setMark_18 : decode cX5_setMark 18 = .ok (.aload_n 0, 1) := by decide +kernel
theorem dX5_setMark_19 : decode cX5_setMark 19 = .ok (.getfield 38, 3) := by decide +kernel
theorem dX5_setMark_22 : decode cX5_setMark 22 = .ok (.invokevirtual 104, 3) := by decide +kernel
theorem dX5_setMark_25 : decode cX5_setMark 25 = .ok (.aload_n 0, 1) := by decide +kernel
theorem dX5_setMark_26 : decode cX5_setMark 26 = .ok (.getfield 52, 3) := by decide +kernel
theorem dX5_setMark_29 : decode cX5_setMark 29 = .ok (.aload_n 0, 1) := by decide +kernel
theorem dX5_setMark_30 : decode cX5_setMark 30 = .ok (.getfield 71, 3) := by decide +kernel
theorem dX5_setMark_33 : decode cX5_setMark 33 = .ok (.iconst 1, 1) := by decide +kernel
theorem dX5_setMark_34 : decode cX5_setMark 34 = .ok (.iadd, 1) := by decide +kernel
theorem dX5_setMark_35 : decode cX5_setMark 35 = .ok (.putfield 108, 3) := by decide +kernel
theorem dX5_setMark_38 : decode cX5_setMark 38 = .ok (.iconst 0, 1) := by decide +kernel
theorem dX5_setMark_39 : decode cX5_setMark 39 = .ok (.ireturn, 1) := by decide +kernel
theorem dX5_add_0 : decode cX5_add 0 = .ok (.aload_n 0, 1) := by decide +kernel
theorem dX5_add_1 : decode cX5_add 1 = .ok (.dup, 1) := by decide +kernel
theorem dX5_add_2 : decode cX5_add 2 = .ok (.getfield 68, 3) := by decide +kernel
theorem dX5_add_5 : decode cX5_add 5 = .ok (.aload_n 0, 1) := by decide +kernel
theorem dX5_add_6 : decode cX5_add 6 = .ok (.getfield 15, 3) := by decide +kernel
theorem dX5_add_9 : decode cX5_add 9 = .ok (.iconst 1, 1) := by decide +kernel
theorem dX5_add_10 : decode cX5_add 10 = .ok (.if_icmp .eq 11, 3) := by decide +kernel
theorem dX5_add_13 : decode cX5_add 13 = .ok (.aload_n 0, 1) := by decide +kernel
theorem dX5_add_14 : decode cX5_add 14 = .ok (.getfield 15, 3) := by decide +kernel
theorem dX5_add_17 : decode cX5_add 17 = .ok (.iconst 4, 1) := by decide +kernel
theorem dX5_add_18 : decode cX5_add 18 = .ok (.if_icmp .ne 9, 3) := by decide +kernel
theorem dX5_add_21 : decode cX5_add 21 = .ok (.iconst 2, 1) := by decide +kernel
theorem dX5_add_22 : decode cX5_add 22 = .ok (.iload_n 1, 1) := by decide +kernel
theorem dX5_add_23 : decode cX5_add 23 = .ok (.imul, 1) := by decide +kernel
theorem dX5_add_24 : decode cX5_add 24 = .ok (.goto 4, 3) := by decide +kernel
theorem dX5_add_27 : decode cX5_add 27 = .ok (.iload_n 1, 1) := by decide +kernel
theorem dX5_add_28 : decode cX5_add 28 = .ok (.iadd, 1) := by decide +kernel
theorem dX5_add_29 : decode cX5_add 29 = .ok (.putfield 68, 3) := by decide +kernel
theorem dX5_add_32 : decode cX5_add 32 = .ok (.iconst 0, 1) := by decide +kernel
theorem dX5_add_33 : decode cX5_add 33 = .ok (.ireturn, 1) := by decide +kernel
theorem dX5_divide_0 : decode cX5_divide 0 = .ok (.iload_n 1, 1) := by decide +kernel
theorem dX5_divide_1 : decode cX5_divide 1 = .ok (.ifCond .ne 6, 3) := by decide +kernel
theorem dX5_divide_4 : decode cX5_divide 4 = .ok (.bipush 6, 2) := by decide +kernel
theorem dX5_divide_6 : decode cX5_divide 6 = .ok (.ireturn, 1) := by decide +kernel
theorem dX5_divide_7 : decode cX5_divide 7 = .ok (.aload_n 0, 1) := by decide +kernel
theorem dX5_divide_8 : decode cX5_divide 8 = .ok (.dup, 1) := by decide +kernel
theorem dX5_divide_9 : decode cX5_divide 9 = .ok (.getfield 68, 3) := by decide +kernel
theorem dX5_divide_12 : decode cX5_divide 12 = .ok (.iload_n 1, 1) := by decide +kernel
theorem dX5_divide_13 : decode cX5_divide 13 = .ok (.idiv, 1) := by decide +kernel
theorem dX5_divide_14 : decode cX5_divide 14 = .ok (.putfield 68, 3) := by decide +kernel
end
section
theorem dX5_divide_17 : decode cX5_divide 17 = .ok (.iconst 0, 1) := by decide +kernel
theorem dX5_divide_18 : decode cX5_divide 18 = .ok (.ireturn, 1) := by decide +kernel
theorem dX5_makeRow_0 : decode cX5_makeRow 0 = .ok (.iload_n 1, 1) := by decide +kernel
theorem dX5_makeRow_1 : decode cX5_makeRow 1 = .ok (.ifCond .ge 5, 3) := by decide +kernel
theorem dX5_makeRow_4 : decode cX5_makeRow 4 = .ok (.iconst 5, 1) := by decide +kernel
theorem dX5_makeRow_5 : decode cX5_makeRow 5 = .ok (.ireturn, 1) := by decide +kernel
theorem dX5_makeRow_6 : decode cX5_makeRow 6 = .ok (.aload_n 0, 1) := by decide +kernel
theorem dX5_makeRow_7 : decode cX5_makeRow 7 = .ok (.getfield 38, 3) := by decide +kernel
theorem dX5_makeRow_10 : decode cX5_makeRow 10 = .ok (.iload_n 1, 1) := by decide +kernel
theorem dX5_makeRow_11 : decode cX5_makeRow 11 = .ok (.invokevirtual 109, 3) := by decide +kernel
theorem dX5_makeRow_14 : decode cX5_makeRow 14 = .ok (.iconst 0, 1) := by decide +kernel
theorem dX5_makeRow_15 : decode cX5_makeRow 15 = .ok (.ireturn, 1) := by decide +kernel
theorem dX5_put_0 : decode cX5_put 0 = .ok (.aload_n 0, 1) := by decide +kernel
theorem dX5_put_1 : decode cX5_put 1 = .ok (.getfield 38, 3) := by decide +kernel
theorem dX5_put_4 : decode cX5_put 4 = .ok (.iload_n 1, 1) := by decide +kernel
theorem dX5_put_5 : decode cX5_put 5 = .ok (.invokevirtual 113, 3) := by decide +kernel
theorem dX5_put_8 : decode cX5_put 8 = .ok (.ifCond .eq 18, 3) := by decide +kernel
theorem dX5_put_11 : decode cX5_put 11 = .ok (.aload_n 0, 1) := by decide +kernel
theorem dX5_put_12 : decode cX5_put 12 = .ok (.getfield 38, 3) := by decide +kernel
theorem dX5_put_15 : decode cX5_put 15 = .ok (.getfield 117, 3) := by decide +kernel
theorem dX5_put_18 : decode cX5_put 18 = .ok (.iload_n 1, 1) := by decide +kernel
theorem dX5_put_19 : decode cX5_put 19 = .ok (.aload_n 0, 1) := by decide +kernel
theorem dX5_put_20 : decode cX5_put 20 = .ok (.getfield 68, 3) := by decide +kernel
theorem dX5_put_23 : decode cX5_put 23 = .ok (.iastore, 1) := by decide +kernel
theorem dX5_put_24 : decode cX5_put 24 = .ok (.iconst 0, 1) := by decide +kernel
theorem dX5_put_25 : decode cX5_put 25 = .ok (.ireturn, 1) := by decide +kernel
theorem dX5_put_26 : decode cX5_put 26 = .ok (.aload_n 0, 1) := by decide +kernel
theorem dX5_put_27 : decode cX5_put 27 = .ok (.getfield 38, 3) := by decide +kernel
theorem dX5_put_30 : decode cX5_put 30 = .ok (.invokevirtual 121, 3) := by decide +kernel
theorem dX5_put_33 : decode cX5_put 33 = .ok (.ifCond .eq 7, 3) := by decide +kernel
theorem dX5_put_36 : decode cX5_put 36 = .ok (.iconst 1, 1) := by decide +kernel
theorem dX5_put_37 : decode cX5_put 37 = .ok (.goto 4, 3) := by decide +kernel
theorem dX5_put_40 : decode cX5_put 40 = .ok (.iconst 2, 1) := by decide +kernel
theorem dX5_put_41 : decode cX5_put 41 = .ok (.ireturn, 1) := by decide +kernel
theorem dX5_get_0 : decode cX5_get 0 = .ok (.aload_n 0, 1) := by decide +kernel
theorem dX5_get_1 : decode cX5_get 1 = .ok (.getfield 38, 3) := by decide +kernel
theorem dX5_get_4 : decode cX5_get 4 = .ok (.iload_n 1, 1) := by decide +kernel
theorem dX5_get_5 : decode cX5_get 5 = .ok (.invokevirtual 113, 3) := by decide +kernel
theorem dX5_get_8 : decode cX5_get 8 = .ok (.ifCond .eq 23, 3) := by decide +kernel
theorem dX5_get_11 : decode cX5_get 11 = .ok (.aload_n 0, 1) := by decide +kernel
theorem dX5_get_12 : decode cX5_get 12 = .ok (.dup, 1) := by decide +kernel
theorem dX5_get_13 : decode cX5_get 13 = .ok (.getfield 68, 3) := by decide +kernel
theorem dX5_get_16 : decode cX5_get 16 = .ok (.aload_n 0, 1) := by decide +kernel
theorem dX5_get_17 : decode cX5_get 17 = .ok (.getfield 38, 3) := by decide +kernel
theorem dX5_get_20 : decode cX5_get 20 = .ok (.getfield 117, 3) := by decide +kernel
theorem dX5_get_23 : decode cX5_get 23 = .ok (.iload_n 1, 1) := by decide +kernel
theorem dX5_get_24 : decode cX5_get 24 = .ok (.iaload, 1) := by decide +kernel
theorem dX5_get_25 : decode cX5_get 25 = .ok (.iadd, 1) := by decide +kernel
theorem dX5_get_26 : decode cX5_get 26 = .ok (.putfield 68, 3) := by decide +kernel
theorem dX5_get_29 : decode cX5_get 29 = .ok (.iconst 0, 1) := by decide +kernel
theorem dX5_get_30 : decode cX5_get 30 = .ok (.ireturn, 1) := by decide +kernel
theorem dX5_get_31 : decode cX5_get 31 = .ok (.aload_n 0, 1) := by decide +kernel
theorem dX5_get_32 : decode cX5_get 32 = .ok (.getfield 38, 3) := by decide +kernel
theorem dX5_get_35 : decode cX5_get 35 = .ok (.invokevirtual 121, 3) := by decide +kernel
theorem dX5_get_38 : decode cX5_get 38 = .ok (.ifCond .eq 7, 3) := by decide +kernel
theorem dX5_get_41 : decode cX5_get 41 = .ok (.iconst 1, 1) := by decide +kernel
theorem dX5_get_42 : decode cX5_get 42 = .ok (.goto 4, 3) := by decide +kernel
theorem dX5_get_45 : decode cX5_get 45 = .ok (.iconst 2, 1) := by decide +kernel
theorem dX5_get_46 : decode cX5_get 46 = .ok (.ireturn, 1) := by decide +kernel
theorem dX5_takeLetter_0 : decode cX5_takeLetter 0 = .ok (.aload_n 0, 1) := by decide +kernel
theorem dX5_takeLetter_1 : decode cX5_takeLetter 1 = .ok (.getfield 31, 3) := by decide +kernel
theorem dX5_takeLetter_4 : decode cX5_takeLetter 4 = .ok (.getfield 74, 3) := by decide +kernel
theorem dX5_takeLetter_7 : decode cX5_takeLetter 7 = .ok (.ifCond .le 21, 3) := by decide +kernel
theorem dX5_takeLetter_10 : decode cX5_takeLetter 10 = .ok (.aload_n 0, 1) := by decide +kernel
theorem dX5_takeLetter_11 : decode cX5_takeLetter 11 = .ok (.dup, 1) := by decide +kernel
theorem dX5_takeLetter_12 : decode cX5_takeLetter 12 = .ok (.getfield 68, 3) := by decide +kernel
theorem dX5_takeLetter_15 : decode cX5_takeLetter 15 = .ok (.aload_n 0, 1) := by decide +kernel
theorem dX5_takeLetter_16 : decode cX5_takeLetter 16 = .ok (.getfield 31, 3) := by decide +kernel
theorem dX5_takeLetter_19 : decode cX5_takeLetter 19 = .ok (.invokevirtual 125, 3) := by decide +kernel
theorem dX5_takeLetter_22 : decode cX5_takeLetter 22 = .ok (.iadd, 1) := by decide +kernel
theorem dX5_takeLetter_23 : decode cX5_takeLetter 23 = .ok (.putfield 68, 3) := by decide +kernel
theorem dX5_takeLetter_26 : decode cX5_takeLetter 26 = .ok (.iconst 0, 1) := by decide +kernel
theorem dX5_takeLetter_27 : decode cX5_takeLetter 27 = .ok (.ireturn, 1) := by decide +kernel
theorem dX5_takeLetter_28 : decode cX5_takeLetter 28 = .ok (.iload_n 1, 1) := by decide +kernel
theorem dX5_takeLetter_29 : decode cX5_takeLetter 29 = .ok (.ifCond .eq 6, 3) := by decide +kernel
theorem dX5_takeLetter_32 : decode cX5_takeLetter 32 = .ok (.bipush 9, 2) := by decide +kernel
theorem dX5_takeLetter_34 : decode cX5_takeLetter 34 = .ok (.ireturn, 1) := by decide +kernel
theorem dX5_takeLetter_35 : decode cX5_takeLetter 35 = .ok (.aload_n 0, 1) := by decide +kernel
theorem dX5_takeLetter_36 : decode cX5_takeLetter 36 = .ok (.iconst 2, 1) := by decide +kernel
theorem dX5_takeLetter_37 : decode cX5_takeLetter 37 = .ok (.putfield 56, 3) := by decide +kernel
theorem dX5_takeLetter_40 : decode cX5_takeLetter 40 = .ok (.iconst 0, 1) := by decide +kernel
theorem dX5_takeLetter_41 : decode cX5_takeLetter 41 = .ok (.ireturn, 1) := by decide +kernel
theorem dX5_waitFor_0 : decode cX5_waitFor 0 = .ok (.iload_n 1, 1) := by decide +kernel
theorem dX5_waitFor_1 : decode cX5_waitFor 1 = .ok (.ifCond .le 8, 3) := by decide +kernel
theorem dX5_waitFor_4 : decode cX5_waitFor 4 = .ok (.aload_n 0, 1) := by decide +kernel
theorem dX5_waitFor_5 : decode cX5_waitFor 5 = .ok (.iload_n 1, 1) := by decide +kernel
theorem dX5_waitFor_6 : decode cX5_waitFor 6 = .ok (.putfield 92, 3) := by decide +kernel
theorem dX5_waitFor_9 : decode cX5_waitFor 9 = .ok (.iconst 0, 1) := by decide +kernel
theorem dX5_waitFor_10 : decode cX5_waitFor 10 = .ok (.ireturn, 1) := by decide +kernel
theorem dX5_makeBox_0 : decode cX5_makeBox 0 = .ok (.aload_n 0, 1) := by decide +kernel
theorem dX5_makeBox_1 : decode cX5_makeBox 1 = .ok (.getfield 45, 3) := by decide +kernel
theorem dX5_makeBox_4 : decode cX5_makeBox 4 = .ok (.iload_n 1, 1) := by decide +kernel
theorem dX5_makeBox_5 : decode cX5_makeBox 5 = .ok (.invokevirtual 128, 3) := by decide +kernel
theorem dX5_makeBox_8 : decode cX5_makeBox 8 = .ok (.iconst 0, 1) := by decide +kernel
theorem dX5_makeBox_9 : decode cX5_makeBox 9 = .ok (.ireturn, 1) := by decide +kernel
theorem dX5_copyToBox_0 : decode cX5_copyToBox 0 = .ok (.aload_n 0, 1) := by decide +kernel
theorem dX5_copyToBox_1 : decode cX5_copyToBox 1 = .ok (.getfield 38, 3) := by decide +kernel
theorem dX5_copyToBox_4 : decode cX5_copyToBox 4 = .ok (.invokevirtual 121, 3) := by decide +kernel
theorem dX5_copyToBox_7 : decode cX5_copyToBox 7 = .ok (.ifCond .ne 13, 3) := by decide +kernel
theorem dX5_copyToBox_10 : decode cX5_copyToBox 10 = .ok (.aload_n 0, 1) := by decide +kernel
theorem dX5_copyToBox_11 : decode cX5_copyToBox 11 = .ok (.getfield 45, 3) := by decide +kernel
theorem dX5_copyToBox_14 : decode cX5_copyToBox 14 = .ok (.invokevirtual 129, 3) := by decide +kernel
theorem dX5_copyToBox_17 : decode cX5_copyToBox 17 = .ok (.ifCond .eq 5, 3) := by decide +kernel
theorem dX5_copyToBox_20 : decode cX5_copyToBox 20 = .ok (.iconst 1, 1) := by decide +kernel
theorem dX5_copyToBox_21 : decode cX5_copyToBox 21 = .ok (.ireturn, 1) := by decide +kernel
theorem dX5_copyToBox_22 : decode cX5_copyToBox 22 = .ok (.aload_n 0, 1) := by decide +kernel
theorem dX5_copyToBox_23 : decode cX5_copyToBox 23 = .ok (.getfield 45, 3) := by decide +kernel
theorem dX5_copyToBox_26 : decode cX5_copyToBox 26 = .ok (.getfield 86, 3) := by decide +kernel
theorem dX5_copyToBox_29 : decode cX5_copyToBox 29 = .ok (.ifCond .eq 5, 3) := by decide +kernel
theorem dX5_copyToBox_32 : decode cX5_copyToBox 32 = .ok (.iconst 3, 1) := by decide +kernel
theorem dX5_copyToBox_33 : decode cX5_copyToBox 33 = .ok (.ireturn, 1) := by decide +kernel
theorem dX5_copyToBox_34 : decode cX5_copyToBox 34 = .ok (.iload_n 1, 1) := by decide +kernel
theorem dX5_copyToBox_35 : decode cX5_copyToBox 35 = .ok (.ifCond .lt 19, 3) := by decide +kernel
theorem dX5_copyToBox_38 : decode cX5_copyToBox 38 = .ok (.iload_n 1, 1) := by decide +kernel
theorem dX5_copyToBox_39 : decode cX5_copyToBox 39 = .ok (.aload_n 0, 1) := by decide +kernel
theorem dX5_copyToBox_40 : decode cX5_copyToBox 40 = .ok (.getfield 38, 3) := by decide +kernel
theorem dX5_copyToBox_43 : decode cX5_copyToBox 43 = .ok (.getfield 83, 3) := by decide +kernel
theorem dX5_copyToBox_46 : decode cX5_copyToBox 46 = .ok (.if_icmp .gt 8, 3) := by decide +kernel
theorem dX5_copyToBox_49 : decode cX5_copyToBox 49 = .ok (.iload_n 1, 1) := by decide +kernel
theorem dX5_copyToBox_50 : decode cX5_copyToBox 50 = .ok (.iconst 3, 1) := by decide +kernel
theorem dX5_copyToBox_51 : decode cX5_copyToBox 51 = .ok (.if_icmp .le 5, 3) := by decide +kernel
theorem dX5_copyToBox_54 : decode cX5_copyToBox 54 = .ok (.iconst 2, 1) := by decide +kernel
theorem dX5_copyToBox_55 : decode cX5_copyToBox 55 = .ok (.ireturn, 1) := by decide +kernel
theorem dX5_copyToBox_56 : decode cX5_copyToBox 56 = .ok (.iconst 0, 1) := by decide +kernel
theorem dX5_copyToBox_57 : decode cX5_copyToBox 57 = .ok (.istore_n 2, 1) := by decide +kernel
theorem dX5_copyToBox_58 : decode cX5_copyToBox 58 = .ok (.iload_n 2, 1) := by decide +kernel
theorem dX5_copyToBox_59 : decode cX5_copyToBox 59 = .ok (.iload_n 1, 1) := by decide +kernel
theorem dX5_copyToBox_60 : decode cX5_copyToBox 60 = .ok (.if_icmp .ge 27, 3) := by decide +kernel
theorem dX5_copyToBox_63 : decode cX5_copyToBox 63 = .ok (.aload_n 0, 1) := by decide +kernel
theorem dX5_copyToBox_64 : decode cX5_copyToBox 64 = .ok (.getfield 45, 3) := by decide +kernel
theorem dX5_copyToBox_67 : decode cX5_copyToBox 67 = .ok (.getfield 130, 3) := by decide +kernel
theorem dX5_copyToBox_70 : decode cX5_copyToBox 70 = .ok (.iload_n 2, 1) := by decide +kernel
theorem dX5_copyToBox_71 : decode cX5_copyToBox 71 = .ok (.aload_n 0, 1) := by decide +kernel
theorem dX5_copyToBox_72 : decode cX5_copyToBox 72 = .ok (.getfield 38, 3) := by decide +kernel
theorem dX5_copyToBox_75 : decode cX5_copyToBox 75 = .ok (.getfield 117, 3) := by decide +kernel
theorem dX5_copyToBox_78 : decode cX5_copyToBox 78 = .ok (.iload_n 2, 1) := by decide +kernel
theorem dX5_copyToBox_79 : decode cX5_copyToBox 79 = .ok (.iaload, 1) := by decide +kernel
theorem dX5_copyToBox_80 : decode cX5_copyToBox 80 = .ok (.iastore, 1) := by decide +kernel
theorem dX5_copyToBox_81 : decode cX5_copyToBox 81 = .ok (.iinc 2 1, 3) := by decide +kernel
theorem dX5_copyToBox_84 : decode cX5_copyToBox 84 = .ok (.goto (-26), 3) := by decide +kernel
theorem dX5_copyToBox_87 : decode cX5_copyToBox 87 = .ok (.iconst 0, 1) := by decide +kernel
theorem dX5_copyToBox_88 : decode cX5_copyToBox 88 = .ok (.ireturn, 1) := by decide +kernel
theorem dX6_init_0 : decode cX6_init 0 = .ok (.aload_n 0, 1) := by decide +kernel
theorem dX6_init_1 : decode cX6_init 1 = .ok (.invokespecial 1, 3) := by decide +kernel
theorem dX6_init_4 : decode cX6_init 4 = .ok (.aload_n 0, 1) := by decide +kernel
theorem dX6_init_5 : decode cX6_init 5 = .ok (.bipush 12, 2) := by decide +kernel
theorem dX6_init_7 : decode cX6_init 7 = .ok (.anewarray 9, 3) := by decide +kernel
theorem dX6_init_10 : decode cX6_init 10 = .ok (.putfield 11, 3) := by decide +kernel
theorem dX6_init_13 : decode cX6_init 13 = .ok (.aload_n 0, 1) := by decide +kernel
theorem dX6_init_14 : decode cX6_init 14 = .ok (.bipush 12, 2) := by decide +kernel
theorem dX6_init_16 : decode cX6_init 16 = .ok (.newarray .int, 2) := by decide +kernel
theorem dX6_init_18 : decode cX6_init 18 = .ok (.putfield 15, 3) := by decide +kernel
theorem dX6_init_21 : decode cX6_init 21 = .ok (.aload_n 0, 1) := by decide +kernel
theorem dX6_init_22 : decode cX6_init 22 = .ok (.iconst 1, 1) := by decide +kernel
theorem dX6_init_23 : decode cX6_init 23 = .ok (.putfield 19, 3) := by decide +kernel
theorem dX6_init_26 : decode cX6_init 26 = .ok (.return_, 1) := by decide +kernel
theorem dX6_task_0 : decode cX6_task 0 = .ok (.iload_n 1, 1) := by decide +kernel
theorem dX6_task_1 : decode cX6_task 1 = .ok (.ifCond .lt 18, 3) := by decide +kernel
theorem dX6_task_4 : decode cX6_task 4 = .ok (.iload_n 1, 1) := by decide +kernel
theorem dX6_task_5 : decode cX6_task 5 = .ok (.iconst 4, 1) := by decide +kernel
theorem dX6_task_6 : decode cX6_task 6 = .ok (.if_icmp .gt 13, 3) := by decide +kernel
theorem dX6_task_9 : decode cX6_task 9 = .ok (.iload_n 2, 1) := by decide +kernel
theorem dX6_task_10 : decode cX6_task 10 = .ok (.ifCond .lt 9, 3) := by decide +kernel
theorem dX6_task_13 : decode cX6_task 13 = .ok (.iload_n 2, 1) := by decide +kernel
theorem dX6_task_14 : decode cX6_task 14 = .ok (.bipush 9, 2) := by decide +kernel
theorem dX6_task_16 : decode cX6_task 16 = .ok (.if_icmp .le 5, 3) := by decide +kernel
theorem dX6_task_19 : decode cX6_task 19 = .ok (.iconst (-1), 1) := by decide +kernel
theorem dX6_task_20 : decode cX6_task 20 = .ok (.ireturn, 1) := by decide +kernel
theorem dX6_task_21 : decode cX6_task 21 = .ok (.aload_n 0, 1) := by decide +kernel
theorem dX6_task_22 : decode cX6_task 22 = .ok (.getfield 23, 3) := by decide +kernel
theorem dX6_task_25 : decode cX6_task 25 = .ok (.aload_n 0, 1) := by decide +kernel
theorem dX6_task_26 : decode cX6_task 26 = .ok (.getfield 11, 3) := by decide +kernel
theorem dX6_task_29 : decode cX6_task 29 = .ok (.arraylength, 1) := by decide +kernel
theorem dX6_task_30 : decode cX6_task 30 = .ok (.if_icmp .lt 6, 3) := by decide +kernel
theorem dX6_task_33 : decode cX6_task 33 = .ok (.bipush (-3), 2) := by decide +kernel
theorem dX6_task_35 : decode cX6_task 35 = .ok (.ireturn, 1) := by decide +kernel
theorem dX6_task_36 : decode cX6_task 36 = .ok (.aload_n 0, 1) := by decide +kernel
theorem dX6_task_37 : decode cX6_task 37 = .ok (.getfield 23, 3) := by decide +kernel
theorem dX6_task_40 : decode cX6_task 40 = .ok (.istore_n 3, 1) := by decide +kernel
theorem dX6_task_41 : decode cX6_task 41 = .ok (.aload_n 0, 1) := by decide +kernel
theorem dX6_task_42 : decode cX6_task 42 = .ok (.getfield 11, 3) := by decide +kernel
theorem dX6_task_45 : decode cX6_task 45 = .ok (.iload_n 3, 1) := by decide +kernel
theorem dX6_task_46 : decode cX6_task 46 = .ok (.new 9, 3) := by decide +kernel
theorem dX6_task_49 : decode cX6_task 49 = .ok (.dup, 1) := by decide +kernel
theorem dX6_task_50 : decode cX6_task 50 = .ok (.iload_n 3, 1) := by decide +kernel
theorem dX6_task_51 : decode cX6_task 51 = .ok (.iload_n 1, 1) := by decide +kernel
theorem dX6_task_52 : decode cX6_task 52 = .ok (.iload_n 2, 1) := by decide +kernel
theorem dX6_task_53 : decode cX6_task 53 = .ok (.invokespecial 26, 3) := by decide +kernel
theorem dX6_task_56 : decode cX6_task 56 = .ok (.aastore, 1) := by decide +kernel
theorem dX6_task_57 : decode cX6_task 57 = .ok (.aload_n 0, 1) := by decide +kernel
theorem dX6_task_58 : decode cX6_task 58 = .ok (.dup, 1) := by decide +kernel
theorem dX6_task_59 : decode cX6_task 59 = .ok (.getfield 23, 3) := by decide +kernel
theorem dX6_task_62 : decode cX6_task 62 = .ok (.iconst 1, 1) := by decide +kernel
theorem dX6_task_63 : decode cX6_task 63 = .ok (.iadd, 1) := by decide +kernel
theorem dX6_task_64 : decode cX6_task 64 = .ok (.putfield 23, 3) := by decide +kernel
theorem dX6_task_67 : decode cX6_task 67 = .ok (.iload_n 3, 1) := by decide +kernel
theorem dX6_task_68 : decode cX6_task 68 = .ok (.ireturn, 1) := by decide +kernel
theorem dX6_act_0 : decode cX6_act 0 = .ok (.aload_n 0, 1) := by decide +kernel
theorem dX6_act_1 : decode cX6_act 1 = .ok (.iload_n 1, 1) := by decide +kernel
theorem dX6_act_2 : decode cX6_act 2 = .ok (.invokevirtual 29, 3) := by decide +kernel
theorem dX6_act_5 : decode cX6_act 5 = .ok (.astore 5, 2) := by decide +kernel
theorem dX6_act_7 : decode cX6_act 7 = .ok (.aload 5, 2) := by decide +kernel
theorem dX6_act_9 : decode cX6_act 9 = .ok (.ifnull 24, 3) := by decide +kernel
theorem dX6_act_12 : decode cX6_act 12 = .ok (.iload_n 2, 1) := by decide +kernel
theorem dX6_act_13 : decode cX6_act 13 = .ok (.ifCond .lt 20, 3) := by decide +kernel
theorem dX6_act_16 : decode cX6_act 16 = .ok (.iload_n 2, 1) := by decide +kernel
theorem dX6_act_17 : decode cX6_act 17 = .ok (.bipush 15, 2) := by decide +kernel
theorem dX6_act_19 : decode cX6_act 19 = .ok (.if_icmp .gt 14, 3) := by decide +kernel
theorem dX6_act_22 : decode cX6_act 22 = .ok (.iload_n 2, 1) := by decide +kernel
theorem dX6_act_23 : decode cX6_act 23 = .ok (.iconst 2, 1) := by decide +kernel
theorem dX6_act_24 : decode cX6_act 24 = .ok (.if_icmp .ne 11, 3) := by decide +kernel
theorem dX6_act_27 : decode cX6_act 27 = .ok (.iload_n 3, 1) := by decide +kernel
theorem dX6_act_28 : decode cX6_act 28 = .ok (.bipush 40, 2) := by decide +kernel
theorem dX6_act_30 : decode cX6_act 30 = .ok (.if_icmp .le 5, 3) := by decide +kernel
theorem dX6_act_33 : decode cX6_act 33 = .ok (.iconst (-1), 1) := by decide +kernel
theorem dX6_act_34 : decode cX6_act 34 = .ok (.ireturn, 1) := by decide +kernel
theorem dX6_act_35 : decode cX6_act 35 = .ok (.aload 5, 2) := by decide +kernel
theorem dX6_act_37 : decode cX6_act 37 = .ok (.getfield 33, 3) := by decide +kernel
theorem dX6_act_40 : decode cX6_act 40 = .ok (.ifCond .ne 11, 3) := by decide +kernel
theorem dX6_act_43 : decode cX6_act 43 = .ok (.aload 5, 2) := by decide +kernel
theorem dX6_act_45 : decode cX6_act 45 = .ok (.getfield 36, 3) := by decide +kernel
theorem dX6_act_48 : decode cX6_act 48 = .ok (.ifCond .eq 6, 3) := by decide +kernel
theorem dX6_act_51 : decode cX6_act 51 = .ok (.bipush (-2), 2) := by decide +kernel
theorem dX6_act_53 : decode cX6_act 53 = .ok (.ireturn, 1) := by decide +kernel
theorem dX6_act_54 : decode cX6_act 54 = .ok (.aload 5, 2) := by decide +kernel
theorem dX6_act_56 : decode cX6_act 56 = .ok (.getfield 40, 3) := by decide +kernel
theorem dX6_act_59 : decode cX6_act 59 = .ok (.iload_n 2, 1) := by decide +kernel
theorem dX6_act_60 : decode cX6_act 60 = .ok (.iload_n 3, 1) := by decide +kernel
theorem dX6_act_61 : decode cX6_act 61 = .ok (.iload 4, 2) := by decide +kernel
theorem dX6_act_63 : decode cX6_act 63 = .ok (.invokevirtual 44, 3) := by decide +kernel
theorem dX6_act_66 : decode cX6_act 66 = .ok (.ireturn, 1) := by decide +kernel
theorem dX6_workers_0 : decode cX6_workers 0 = .ok (.iload_n 1, 1) := by decide +kernel
theorem dX6_workers_1 : decode cX6_workers 1 = .ok (.iconst 1, 1) := by decide +kernel
theorem dX6_workers_2 : decode cX6_workers 2 = .ok (.if_icmp .lt 8, 3) := by decide +kernel
theorem dX6_workers_5 : decode cX6_workers 5 = .ok (.iload_n 1, 1) := by decide +kernel
theorem dX6_workers_6 : decode cX6_workers 6 = .ok (.iconst 4, 1) := by decide +kernel
theorem dX6_workers_7 : decode cX6_workers 7 = .ok (.if_icmp .le 5, 3) := by decide +kernel
theorem dX6_workers_10 : decode cX6_workers 10 = .ok (.iconst (-1), 1) := by decide +kernel
theorem dX6_workers_11 : decode cX6_workers 11 = .ok (.ireturn, 1) := by decide +kernel
theorem dX6_workers_12 : decode cX6_workers 12 = .ok (.aload_n 0, 1) := by decide +kernel
theorem dX6_workers_13 : decode cX6_workers 13 = .ok (.getfield 19, 3) := by decide +kernel
theorem dX6_workers_16 : decode cX6_workers 16 = .ok (.istore_n 2, 1) := by decide +kernel
theorem dX6_workers_17 : decode cX6_workers 17 = .ok (.aload_n 0, 1) := by decide +kernel
theorem dX6_workers_18 : decode cX6_workers 18 = .ok (.iload_n 1, 1) := by decide +kernel
theorem dX6_workers_19 : decode cX6_workers 19 = .ok (.putfield 19, 3) := by decide +kernel
theorem dX6_workers_22 : decode cX6_workers 22 = .ok (.iload_n 2, 1) := by decide +kernel
theorem dX6_workers_23 : decode cX6_workers 23 = .ok (.ireturn, 1) := by decide +kernel
theorem dX6_turn_0 : decode cX6_turn 0 = .ok (.iload_n 1, 1) := by decide +kernel
theorem dX6_turn_1 : decode cX6_turn 1 = .ok (.iconst 1, 1) := by decide +kernel
theorem dX6_turn_2 : decode cX6_turn 2 = .ok (.if_icmp .lt 9, 3) := by decide +kernel
theorem dX6_turn_5 : decode cX6_turn 5 = .ok (.iload_n 1, 1) := by decide +kernel
theorem dX6_turn_6 : decode cX6_turn 6 = .ok (.bipush 50, 2) := by decide +kernel
theorem dX6_turn_8 : decode cX6_turn 8 = .ok (.if_icmp .le 5, 3) := by decide +kernel
theorem dX6_turn_11 : decode cX6_turn 11 = .ok (.iconst (-1), 1) := by decide +kernel
theorem dX6_turn_12 : decode cX6_turn 12 = .ok (.ireturn, 1) := by decide +kernel
theorem dX6_turn_13 : decode cX6_turn 13 = .ok (.aload_n 0, 1) := by decide +kernel
theorem dX6_turn_14 : decode cX6_turn 14 = .ok (.getfield 50, 3) := by decide +kernel
theorem dX6_turn_17 : decode cX6_turn 17 = .ok (.istore_n 2, 1) := by decide +kernel
theorem dX6_turn_18 : decode cX6_turn 18 = .ok (.iconst 0, 1) := by decide +kernel
theorem dX6_turn_19 : decode cX6_turn 19 = .ok (.istore_n 3, 1) := by decide +kernel
theorem dX6_turn_20 : decode cX6_turn 20 = .ok (.iconst 0, 1) := by decide +kernel
theorem dX6_turn_21 : decode cX6_turn 21 = .ok (.istore 4, 2) := by decide +kernel
theorem dX6_turn_23 : decode cX6_turn 23 = .ok (.iload 4, 2) := by decide +kernel
theorem dX6_turn_25 : decode cX6_turn 25 = .ok (.iload_n 1, 1) := by decide +kernel
theorem dX6_turn_26 : decode cX6_turn 26 = .ok (.if_icmp .ge 38, 3) := by decide +kernel
theorem dX6_turn_29 : decode cX6_turn 29 = .ok (.iload_n 3, 1) := by decide +kernel
theorem dX6_turn_30 : decode cX6_turn 30 = .ok (.ifCond .ne 34, 3) := by decide +kernel
theorem dX6_turn_33 : decode cX6_turn 33 = .ok (.aload_n 0, 1) := by decide +kernel
theorem dX6_turn_34 : decode cX6_turn 34 = .ok (.getfield 50, 3) := by decide +kernel
theorem dX6_turn_37 : decode cX6_turn 37 = .ok (.istore 5, 2) := by decide +kernel
theorem dX6_turn_39 : decode cX6_turn 39 = .ok (.aload_n 0, 1) := by decide +kernel
theorem dX6_turn_40 : decode cX6_turn 40 = .ok (.invokevirtual 53, 3) := by decide +kernel
theorem dX6_turn_43 : decode cX6_turn 43 = .ok (.aload_n 0, 1) := by decide +kernel
theorem dX6_turn_44 : decode cX6_turn 44 = .ok (.getfield 50, 3) := by decide +kernel
theorem dX6_turn_47 : decode cX6_turn 47 = .ok (.iload 5, 2) := by decide +kernel
theorem dX6_turn_49 : decode cX6_turn 49 = .ok (.if_icmp .ne 7, 3) := by decide +kernel
theorem dX6_turn_52 : decode cX6_turn 52 = .ok (.iconst 1, 1) := by decide +kernel
theorem dX6_turn_53 : decode cX6_turn 53 = .ok (.goto 4, 3) := by decide +kernel
theorem dX6_turn_56 : decode cX6_turn 56 = .ok (.iconst 0, 1) := by decide +kernel
theorem dX6_turn_57 : decode cX6_turn 57 = .ok (.istore_n 3, 1) := by decide +kernel
theorem dX6_turn_58 : decode cX6_turn 58 = .ok (.iinc 4 1, 3) := by decide +kernel
theorem dX6_turn_61 : decode cX6_turn 61 = .ok (.goto (-38), 3) := by decide +kernel
theorem dX6_turn_64 : decode cX6_turn 64 = .ok (.aload_n 0, 1) := by decide +kernel
theorem dX6_turn_65 : decode cX6_turn 65 = .ok (.getfield 50, 3) := by decide +kernel
theorem dX6_turn_68 : decode cX6_turn 68 = .ok (.iload_n 2, 1) := by decide +kernel
theorem dX6_turn_69 : decode cX6_turn 69 = .ok (.isub, 1) := by decide +kernel
theorem dX6_turn_70 : decode cX6_turn 70 = .ok (.ireturn, 1) := by decide +kernel
theorem dX6_letter_0 : decode cX6_letter 0 = .ok (.aload_n 0, 1) := by decide +kernel
theorem dX6_letter_1 : decode cX6_letter 1 = .ok (.iload_n 1, 1) := by decide +kernel
theorem dX6_letter_2 : decode cX6_letter 2 = .ok (.invokevirtual 29, 3) := by decide +kernel
theorem dX6_letter_5 : decode cX6_letter 5 = .ok (.astore_n 3, 1) := by decide +kernel
theorem dX6_letter_6 : decode cX6_letter 6 = .ok (.aload_n 3, 1) := by decide +kernel
theorem dX6_letter_7 : decode cX6_letter 7 = .ok (.ifnonnull 5, 3) := by decide +kernel
theorem dX6_letter_10 : decode cX6_letter 10 = .ok (.iconst (-1), 1) := by decide +kernel
theorem dX6_letter_11 : decode cX6_letter 11 = .ok (.ireturn, 1) := by decide +kernel
theorem dX6_letter_12 : decode cX6_letter 12 = .ok (.aload_n 3, 1) := by decide +kernel
theorem dX6_letter_13 : decode cX6_letter 13 = .ok (.invokevirtual 56, 3) := by decide +kernel
theorem dX6_letter_16 : decode cX6_letter 16 = .ok (.ifCond .eq 6, 3) := by decide +kernel
theorem dX6_letter_19 : decode cX6_letter 19 = .ok (.bipush (-2), 2) := by decide +kernel
theorem dX6_letter_21 : decode cX6_letter 21 = .ok (.ireturn, 1) := by decide +kernel
theorem dX6_letter_22 : decode cX6_letter 22 = .ok (.aload_n 3, 1) := by decide +kernel
theorem dX6_letter_23 : decode cX6_letter 23 = .ok (.getfield 60, 3) := by decide +kernel
theorem dX6_letter_26 : decode cX6_letter 26 = .ok (.invokevirtual 64, 3) := by decide +kernel
theorem dX6_letter_29 : decode cX6_letter 29 = .ok (.ifCond .eq 6, 3) := by decide +kernel
theorem dX6_letter_32 : decode cX6_letter 32 = .ok (.bipush (-3), 2) := by decide +kernel
theorem dX6_letter_34 : decode cX6_letter 34 = .ok (.ireturn, 1) := by decide +kernel
theorem dX6_letter_35 : decode cX6_letter 35 = .ok (.aload_n 3, 1) := by decide +kernel
theorem dX6_letter_36 : decode cX6_letter 36 = .ok (.getfield 60, 3) := by decide +kernel
theorem dX6_letter_39 : decode cX6_letter 39 = .ok (.iload_n 2, 1) := by decide +kernel
theorem dX6_letter_40 : decode cX6_letter 40 = .ok (.invokevirtual 69, 3) := by decide +kernel
theorem dX6_letter_43 : decode cX6_letter 43 = .ok (.aload_n 3, 1) := by decide +kernel
theorem dX6_letter_44 : decode cX6_letter 44 = .ok (.getfield 60, 3) := by decide +kernel
theorem dX6_letter_47 : decode cX6_letter 47 = .ok (.getfield 72, 3) := by decide +kernel
theorem dX6_letter_50 : decode cX6_letter 50 = .ok (.ireturn, 1) := by decide +kernel
theorem dX6_stop_0 : decode cX6_stop 0 = .ok (.aload_n 0, 1) := by decide +kernel
theorem dX6_stop_1 : decode cX6_stop 1 = .ok (.iload_n 1, 1) := by decide +kernel
theorem dX6_stop_2 : decode cX6_stop 2 = .ok (.invokevirtual 29, 3) := by decide +kernel
theorem dX6_stop_5 : decode cX6_stop 5 = .ok (.astore_n 2, 1) := by decide +kernel
theorem dX6_stop_6 : decode cX6_stop 6 = .ok (.aload_n 2, 1) := by decide +kernel
theorem dX6_stop_7 : decode cX6_stop 7 = .ok (.ifnonnull 5, 3) := by decide +kernel
theorem dX6_stop_10 : decode cX6_stop 10 = .ok (.iconst (-1), 1) := by decide +kernel
theorem dX6_stop_11 : decode cX6_stop 11 = .ok (.ireturn, 1) := by decide +kernel
theorem dX6_stop_12 : decode cX6_stop 12 = .ok (.aload_n 2, 1) := by decide +kernel
theorem dX6_stop_13 : decode cX6_stop 13 = .ok (.invokevirtual 56, 3) := by decide +kernel
theorem dX6_stop_16 : decode cX6_stop 16 = .ok (.ifCond .eq 6, 3) := by decide +kernel
theorem dX6_stop_19 : decode cX6_stop 19 = .ok (.bipush (-2), 2) := by decide +kernel
theorem dX6_stop_21 : decode cX6_stop 21 = .ok (.ireturn, 1) := by decide +kernel
theorem dX6_stop_22 : decode cX6_stop 22 = .ok (.aload_n 2, 1) := by decide +kernel
theorem dX6_stop_23 : decode cX6_stop 23 = .ok (.iconst 5, 1) := by decide +kernel
theorem dX6_stop_24 : decode cX6_stop 24 = .ok (.putfield 33, 3) := by decide +kernel
theorem dX6_stop_27 : decode cX6_stop 27 = .ok (.iconst 1, 1) := by decide +kernel
theorem dX6_stop_28 : decode cX6_stop 28 = .ok (.ireturn, 1) := by decide +kernel
theorem dX6_again_0 : decode cX6_again 0 = .ok (.aload_n 0, 1) := by decide +kernel
theorem dX6_again_1 : decode cX6_again 1 = .ok (.iload_n 1, 1) := by decide +kernel
theorem dX6_again_2 : decode cX6_again 2 = .ok (.invokevirtual 29, 3) := by decide +kernel
theorem dX6_again_5 : decode cX6_again 5 = .ok (.astore_n 2, 1) := by decide +kernel
theorem dX6_again_6 : decode cX6_again 6 = .ok (.aload_n 2, 1) := by decide +kernel
theorem dX6_again_7 : decode cX6_again 7 = .ok (.ifnonnull 5, 3) := by decide +kernel
theorem dX6_again_10 : decode cX6_again 10 = .ok (.iconst (-1), 1) := by decide +kernel
theorem dX6_again_11 : decode cX6_again 11 = .ok (.ireturn, 1) := by decide +kernel
theorem dX6_again_12 : decode cX6_again 12 = .ok (.aload_n 2, 1) := by decide +kernel
theorem dX6_again_13 : decode cX6_again 13 = .ok (.getfield 33, 3) := by decide +kernel
theorem dX6_again_16 : decode cX6_again 16 = .ok (.iconst 4, 1) := by decide +kernel
theorem dX6_again_17 : decode cX6_again 17 = .ok (.if_icmp .eq 14, 3) := by decide +kernel
theorem dX6_again_20 : decode cX6_again 20 = .ok (.aload_n 2, 1) := by decide +kernel
theorem dX6_again_21 : decode cX6_again 21 = .ok (.getfield 33, 3) := by decide +kernel
theorem dX6_again_24 : decode cX6_again 24 = .ok (.iconst 5, 1) := by decide +kernel
theorem dX6_again_25 : decode cX6_again 25 = .ok (.if_icmp .eq 6, 3) := by decide +kernel
theorem dX6_again_28 : decode cX6_again 28 = .ok (.bipush (-2), 2) := by decide +kernel
theorem dX6_again_30 : decode cX6_again 30 = .ok (.ireturn, 1) := by decide +kernel
theorem dX6_again_31 : decode cX6_again 31 = .ok (.aload_n 2, 1) := by decide +kernel
theorem dX6_again_32 : decode cX6_again 32 = .ok (.iconst 0, 1) := by decide +kernel
theorem dX6_again_33 : decode cX6_again 33 = .ok (.putfield 33, 3) := by decide +kernel
theorem dX6_again_36 : decode cX6_again 36 = .ok (.aload_n 2, 1) := by decide +kernel
theorem dX6_again_37 : decode cX6_again 37 = .ok (.invokevirtual 75, 3) := by decide +kernel
theorem dX6_again_40 : decode cX6_again 40 = .ok (.iconst 1, 1) := by decide +kernel
theorem dX6_again_41 : decode cX6_again 41 = .ok (.ireturn, 1) := by decide +kernel
theorem dX6_of_0 : decode cX6_of 0 = .ok (.aload_n 0, 1) := by decide +kernel
theorem dX6_of_1 : decode cX6_of 1 = .ok (.iload_n 1, 1) := by decide +kernel
theorem dX6_of_2 : decode cX6_of 2 = .ok (.invokevirtual 29, 3) := by decide +kernel
theorem dX6_of_5 : decode cX6_of 5 = .ok (.astore_n 3, 1) := by decide +kernel
theorem dX6_of_6 : decode cX6_of 6 = .ok (.aload_n 3, 1) := by decide +kernel
theorem dX6_of_7 : decode cX6_of 7 = .ok (.ifnonnull 7, 3) := by decide +kernel
theorem dX6_of_10 : decode cX6_of 10 = .ok (.iconst (-1), 1) := by decide +kernel
theorem dX6_of_11 : decode cX6_of 11 = .ok (.goto 8, 3) := by decide +kernel
theorem dX6_of_14 : decode cX6_of 14 = .ok (.aload_n 3, 1) := by decide +kernel
theorem dX6_of_15 : decode cX6_of 15 = .ok (.iload_n 2, 1) := by decide +kernel
theorem dX6_of_16 : decode cX6_of 16 = .ok (.invokevirtual 78, 3) := by decide +kernel
theorem dX6_of_19 : decode cX6_of 19 = .ok (.ireturn, 1) := by decide +kernel
theorem dX6_at_0 : decode cX6_at 0 = .ok (.aload_n 0, 1) := by decide +kernel
theorem dX6_at_1 : decode cX6_at 1 = .ok (.iload_n 1, 1) := by decide +kernel
theorem dX6_at_2 : decode cX6_at 2 = .ok (.invokevirtual 29, 3) := by decide +kernel
theorem dX6_at_5 : decode cX6_at 5 = .ok (.astore 4, 2) := by decide +kernel
theorem dX6_at_7 : decode cX6_at 7 = .ok (.aload 4, 2) := by decide +kernel
theorem dX6_at_9 : decode cX6_at 9 = .ok (.ifnonnull 5, 3) := by decide +kernel
theorem dX6_at_12 : decode cX6_at 12 = .ok (.iconst (-1), 1) := by decide +kernel
theorem dX6_at_13 : decode cX6_at 13 = .ok (.ireturn, 1) := by decide +kernel
theorem dX6_at_14 : decode cX6_at 14 = .ok (.iload_n 2, 1) := by decide +kernel
theorem dX6_at_15 : decode cX6_at 15 = .ok (.ifCond .eq 30, 3) := by decide +kernel
theorem dX6_at_18 : decode cX6_at 18 = .ok (.aload 4, 2) := by decide +kernel
theorem dX6_at_20 : decode cX6_at 20 = .ok (.getfield 82, 3) := by decide +kernel
theorem dX6_at_23 : decode cX6_at 23 = .ok (.iload_n 3, 1) := by decide +kernel
theorem dX6_at_24 : decode cX6_at 24 = .ok (.invokevirtual 86, 3) := by decide +kernel
theorem dX6_at_27 : decode cX6_at 27 = .ok (.ifCond .eq 16, 3) := by decide +kernel
theorem dX6_at_30 : decode cX6_at 30 = .ok (.aload 4, 2) := by decide +kernel
theorem dX6_at_32 : decode cX6_at 32 = .ok (.getfield 82, 3) := by decide +kernel
theorem dX6_at_35 : decode cX6_at 35 = .ok (.getfield 92, 3) := by decide +kernel
theorem dX6_at_38 : decode cX6_at 38 = .ok (.iload_n 3, 1) := by decide +kernel
theorem dX6_at_39 : decode cX6_at 39 = .ok (.iaload, 1) := by decide +kernel
theorem dX6_at_40 : decode cX6_at 40 = .ok (.goto 4, 3) := by decide +kernel
theorem dX6_at_43 : decode cX6_at 43 = .ok (.iconst (-1), 1) := by decide +kernel
theorem dX6_at_44 : decode cX6_at 44 = .ok (.ireturn, 1) := by decide +kernel
theorem dX6_at_45 : decode cX6_at 45 = .ok (.aload 4, 2) := by decide +kernel
theorem dX6_at_47 : decode cX6_at 47 = .ok (.getfield 95, 3) := by decide +kernel
theorem dX6_at_50 : decode cX6_at 50 = .ok (.iload_n 3, 1) := by decide +kernel
theorem dX6_at_51 : decode cX6_at 51 = .ok (.invokevirtual 99, 3) := by decide +kernel
theorem dX6_at_54 : decode cX6_at 54 = .ok (.ifCond .eq 16, 3) := by decide +kernel
theorem dX6_at_57 : decode cX6_at 57 = .ok (.aload 4, 2) := by decide +kernel
theorem dX6_at_59 : decode cX6_at 59 = .ok (.getfield 95, 3) := by decide +kernel
theorem dX6_at_62 : decode cX6_at 62 = .ok (.getfield 102, 3) := by decide +kernel
theorem dX6_at_65 : decode cX6_at 65 = .ok (.iload_n 3, 1) := by decide +kernel
theorem dX6_at_66 : decode cX6_at 66 = .ok (.iaload, 1) := by decide +kernel
theorem dX6_at_67 : decode cX6_at 67 = .ok (.goto 4, 3) := by decide +kernel
theorem dX6_at_70 : decode cX6_at 70 = .ok (.iconst (-1), 1) := by decide +kernel
theorem dX6_at_71 : decode cX6_at 71 = .ok (.ireturn, 1) := by decide +kernel
theorem dX6_letterAt_0 : decode cX6_letterAt 0 = .ok (.aload_n 0, 1) := by decide +kernel
theorem dX6_letterAt_1 : decode cX6_letterAt 1 = .ok (.iload_n 1, 1) := by decide +kernel
theorem dX6_letterAt_2 : decode cX6_letterAt 2 = .ok (.invokevirtual 29, 3) := by decide +kernel
theorem dX6_letterAt_5 : decode cX6_letterAt 5 = .ok (.astore_n 3, 1) := by decide +kernel
theorem dX6_letterAt_6 : decode cX6_letterAt 6 = .ok (.aload_n 3, 1) := by decide +kernel
theorem dX6_letterAt_7 : decode cX6_letterAt 7 = .ok (.ifnull 26, 3) := by decide +kernel
theorem dX6_letterAt_10 : decode cX6_letterAt 10 = .ok (.aload_n 3, 1) := by decide +kernel
theorem dX6_letterAt_11 : decode cX6_letterAt 11 = .ok (.getfield 60, 3) := by decide +kernel
theorem dX6_letterAt_14 : decode cX6_letterAt 14 = .ok (.iload_n 2, 1) := by decide +kernel
theorem dX6_letterAt_15 : decode cX6_letterAt 15 = .ok (.invokevirtual 105, 3) := by decide +kernel
theorem dX6_letterAt_18 : decode cX6_letterAt 18 = .ok (.ifCond .eq 15, 3) := by decide +kernel
theorem dX6_letterAt_21 : decode cX6_letterAt 21 = .ok (.aload_n 3, 1) := by decide +kernel
theorem dX6_letterAt_22 : decode cX6_letterAt 22 = .ok (.getfield 60, 3) := by decide +kernel
theorem dX6_letterAt_25 : decode cX6_letterAt 25 = .ok (.getfield 106, 3) := by decide +kernel
theorem dX6_letterAt_28 : decode cX6_letterAt 28 = .ok (.iload_n 2, 1) := by decide +kernel
theorem dX6_letterAt_29 : decode cX6_letterAt 29 = .ok (.iaload, 1) := by decide +kernel
theorem dX6_letterAt_30 : decode cX6_letterAt 30 = .ok (.goto 4, 3) := by decide +kernel
theorem dX6_letterAt_33 : decode cX6_letterAt 33 = .ok (.iconst (-1), 1) := by decide +kernel
theorem dX6_letterAt_34 : decode cX6_letterAt 34 = .ok (.ireturn, 1) := by decide +kernel
theorem dX6_count_0 : decode cX6_count 0 = .ok (.iload_n 1, 1) := by decide +kernel
theorem dX6_count_1 : decode cX6_count 1 = .ok (.tableswitch 92 0 6 #[43, 50, 57, 64, 71, 78, 85], 43) := by decide +kernel
theorem dX6_count_44 : decode cX6_count 44 = .ok (.aload_n 0, 1) := by decide +kernel
theorem dX6_count_45 : decode cX6_count 45 = .ok (.getfield 23, 3) := by decide +kernel
theorem dX6_count_48 : decode cX6_count 48 = .ok (.goto 46, 3) := by decide +kernel
theorem dX6_count_51 : decode cX6_count 51 = .ok (.aload_n 0, 1) := by decide +kernel
theorem dX6_count_52 : decode cX6_count 52 = .ok (.getfield 109, 3) := by decide +kernel
theorem dX6_count_55 : decode cX6_count 55 = .ok (.goto 39, 3) := by decide +kernel
theorem dX6_count_58 : decode cX6_count 58 = .ok (.aload_n 0, 1) := by decide +kernel
theorem dX6_count_59 : decode cX6_count 59 = .ok (.getfield 50, 3) := by decide +kernel
theorem dX6_count_62 : decode cX6_count 62 = .ok (.goto 32, 3) := by decide +kernel
theorem dX6_count_65 : decode cX6_count 65 = .ok (.aload_n 0, 1) := by decide +kernel
theorem dX6_count_66 : decode cX6_count 66 = .ok (.getfield 112, 3) := by decide +kernel
theorem dX6_count_69 : decode cX6_count 69 = .ok (.goto 25, 3) := by decide +kernel
theorem dX6_count_72 : decode cX6_count 72 = .ok (.aload_n 0, 1) := by decide +kernel
theorem dX6_count_73 : decode cX6_count 73 = .ok (.getfield 115, 3) := by decide +kernel
theorem dX6_count_76 : decode cX6_count 76 = .ok (.goto 18, 3) := by decide +kernel
theorem dX6_count_79 : decode cX6_count 79 = .ok (.aload_n 0, 1) := by decide +kernel
theorem dX6_count_80 : decode cX6_count 80 = .ok (.getfield 118, 3) := by decide +kernel
theorem dX6_count_83 : decode cX6_count 83 = .ok (.goto 11, 3) := by decide +kernel
theorem dX6_count_86 : decode cX6_count 86 = .ok (.aload_n 0, 1) := by decide +kernel
theorem dX6_count_87 : decode cX6_count 87 = .ok (.invokevirtual 121, 3) := by decide +kernel
theorem dX6_count_90 : decode cX6_count 90 = .ok (.goto 4, 3) := by decide +kernel
theorem dX6_count_93 : decode cX6_count 93 = .ok (.iconst (-1), 1) := by decide +kernel
theorem dX6_count_94 : decode cX6_count 94 = .ok (.ireturn, 1) := by decide +kernel
theorem dX6_done_0 : decode cX6_done 0 = .ok (.iload_n 1, 1) := by decide +kernel
theorem dX6_done_1 : decode cX6_done 1 = .ok (.ifCond .lt 29, 3) := by decide +kernel
theorem dX6_done_4 : decode cX6_done 4 = .ok (.iload_n 1, 1) := by decide +kernel
theorem dX6_done_5 : decode cX6_done 5 = .ok (.aload_n 0, 1) := by decide +kernel
theorem dX6_done_6 : decode cX6_done 6 = .ok (.getfield 125, 3) := by decide +kernel
theorem dX6_done_9 : decode cX6_done 9 = .ok (.if_icmp .ge 21, 3) := by decide +kernel
theorem dX6_done_12 : decode cX6_done 12 = .ok (.iload_n 1, 1) := by decide +kernel
theorem dX6_done_13 : decode cX6_done 13 = .ok (.aload_n 0, 1) := by decide +kernel
theorem dX6_done_14 : decode cX6_done 14 = .ok (.getfield 15, 3) := by decide +kernel
theorem dX6_done_17 : decode cX6_done 17 = .ok (.arraylength, 1) := by decide +kernel
theorem dX6_done_18 : decode cX6_done 18 = .ok (.if_icmp .ge 12, 3) := by decide +kernel
theorem dX6_done_21 : decode cX6_done 21 = .ok (.aload_n 0, 1) := by decide +kernel
theorem dX6_done_22 : decode cX6_done 22 = .ok (.getfield 15, 3) := by decide +kernel
theorem dX6_done_25 : decode cX6_done 25 = .ok (.iload_n 1, 1) := by decide +kernel
theorem dX6_done_26 : decode cX6_done 26 = .ok (.iaload, 1) := by decide +kernel
theorem dX6_done_27 : decode cX6_done 27 = .ok (.goto 5, 3) := by decide +kernel
theorem dX6_done_30 : decode cX6_done 30 = .ok (.bipush (-4), 2) := by decide +kernel
theorem dX6_done_32 : decode cX6_done 32 = .ok (.ireturn, 1) := by decide +kernel
theorem dX6_find_0 : decode cX6_find 0 = .ok (.iload_n 1, 1) := by decide +kernel
theorem dX6_find_1 : decode cX6_find 1 = .ok (.ifCond .lt 21, 3) := by decide +kernel
theorem dX6_find_4 : decode cX6_find 4 = .ok (.iload_n 1, 1) := by decide +kernel
theorem dX6_find_5 : decode cX6_find 5 = .ok (.aload_n 0, 1) := by decide +kernel
theorem dX6_find_6 : decode cX6_find 6 = .ok (.getfield 11, 3) := by decide +kernel
theorem dX6_find_9 : decode cX6_find 9 = .ok (.arraylength, 1) := by decide +kernel
theorem dX6_find_10 : decode cX6_find 10 = .ok (.if_icmp .ge 12, 3) := by decide +kernel
theorem dX6_find_13 : decode cX6_find 13 = .ok (.aload_n 0, 1) := by decide +kernel
theorem dX6_find_14 : decode cX6_find 14 = .ok (.getfield 11, 3) := by decide +kernel
theorem dX6_find_17 : decode cX6_find 17 = .ok (.iload_n 1, 1) := by decide +kernel
theorem dX6_find_18 : decode cX6_find 18 = .ok (.aaload, 1) := by decide +kernel
theorem dX6_find_19 : decode cX6_find 19 = .ok (.goto 4, 3) := by decide +kernel
theorem dX6_find_22 : decode cX6_find 22 = .ok (.aconst_null, 1) := by decide +kernel
theorem dX6_find_23 : decode cX6_find 23 = .ok (.areturn, 1) := by decide +kernel
theorem dX6_countGoingOn_0 : decode cX6_countGoingOn 0 = .ok (.iconst 0, 1) := by decide +kernel
theorem dX6_countGoingOn_1 : decode cX6_countGoingOn 1 = .ok (.istore_n 1, 1) := by decide +kernel
theorem dX6_countGoingOn_2 : decode cX6_countGoingOn 2 = .ok (.iconst 0, 1) := by decide +kernel
theorem dX6_countGoingOn_3 : decode cX6_countGoingOn 3 = .ok (.istore_n 2, 1) := by decide +kernel
theorem dX6_countGoingOn_4 : decode cX6_countGoingOn 4 = .ok (.iload_n 2, 1) := by decide +kernel
theorem dX6_countGoingOn_5 : decode cX6_countGoingOn 5 = .ok (.aload_n 0, 1) := by decide +kernel
theorem dX6_countGoingOn_6 : decode cX6_countGoingOn 6 = .ok (.getfield 11, 3) := by decide +kernel
theorem dX6_countGoingOn_9 : decode cX6_countGoingOn 9 = .ok (.arraylength, 1) := by decide +kernel
theorem dX6_countGoingOn_10 : decode cX6_countGoingOn 10 = .ok (.if_icmp .ge 30, 3) := by decide +kernel
theorem dX6_countGoingOn_13 : decode cX6_countGoingOn 13 = .ok (.aload_n 0, 1) := by decide +kernel
theorem dX6_countGoingOn_14 : decode cX6_countGoingOn 14 = .ok (.getfield 11, 3) := by decide +kernel
theorem dX6_countGoingOn_17 : decode cX6_countGoingOn 17 = .ok (.iload_n 2, 1) := by decide +kernel
theorem dX6_countGoingOn_18 : decode cX6_countGoingOn 18 = .ok (.aaload, 1) := by decide +kernel
theorem dX6_countGoingOn_19 : decode cX6_countGoingOn 19 = .ok (.astore_n 3, 1) := by decide +kernel
theorem dX6_countGoingOn_20 : decode cX6_countGoingOn 20 = .ok (.aload_n 3, 1) := by decide +kernel
theorem dX6_countGoingOn_21 : decode cX6_countGoingOn 21 = .ok (.ifnull 13, 3) := by decide +kernel
theorem dX6_countGoingOn_24 : decode cX6_countGoingOn 24 = .ok (.aload_n 3, 1) := by decide +kernel
theorem dX6_countGoingOn_25 : decode cX6_countGoingOn 25 = .ok (.invokevirtual 56, 3) := by decide +kernel
theorem dX6_countGoingOn_28 : decode cX6_countGoingOn 28 = .ok (.ifCond .ne 6, 3) := by decide +kernel
theorem dX6_countGoingOn_31 : decode cX6_countGoingOn 31 = .ok (.iinc 1 1, 3) := by decide +kernel
theorem dX6_countGoingOn_34 : decode cX6_countGoingOn 34 = .ok (.iinc 2 1, 3) := by decide +kernel
theorem dX6_countGoingOn_37 : decode cX6_countGoingOn 37 = .ok (.goto (-33), 3) := by decide +kernel
theorem dX6_countGoingOn_40 : decode cX6_countGoingOn 40 = .ok (.iload_n 1, 1) := by decide +kernel
theorem dX6_countGoingOn_41 : decode cX6_countGoingOn 41 = .ok (.ireturn, 1) := by decide +kernel
theorem dX6_doTurn_0 : decode cX6_doTurn 0 = .ok (.aload_n 0, 1) := by decide +kernel
theorem dX6_doTurn_1 : decode cX6_doTurn 1 = .ok (.dup, 1) := by decide +kernel
theorem dX6_doTurn_2 : decode cX6_doTurn 2 = .ok (.getfield 109, 3) := by decide +kernel
theorem dX6_doTurn_5 : decode cX6_doTurn 5 = .ok (.iconst 1, 1) := by decide +kernel
theorem dX6_doTurn_6 : decode cX6_doTurn 6 = .ok (.iadd, 1) := by decide +kernel
theorem dX6_doTurn_7 : decode cX6_doTurn 7 = .ok (.putfield 109, 3) := by decide +kernel
theorem dX6_doTurn_10 : decode cX6_doTurn 10 = .ok (.aload_n 0, 1) := by decide +kernel
theorem dX6_doTurn_11 : decode cX6_doTurn 11 = .ok (.invokevirtual 128, 3) := by decide +kernel
theorem dX6_doTurn_14 : decode cX6_doTurn 14 = .ok (.iconst 0, 1) := by decide +kernel
theorem dX6_doTurn_15 : decode cX6_doTurn 15 = .ok (.istore_n 1, 1) := by decide +kernel
theorem dX6_doTurn_16 : decode cX6_doTurn 16 = .ok (.iload_n 1, 1) := by decide +kernel
theorem dX6_doTurn_17 : decode cX6_doTurn 17 = .ok (.aload_n 0, 1) := by decide +kernel
theorem dX6_doTurn_18 : decode cX6_doTurn 18 = .ok (.getfield 19, 3) := by decide +kernel
theorem dX6_doTurn_21 : decode cX6_doTurn 21 = .ok (.if_icmp .ge 23, 3) := by decide +kernel
theorem dX6_doTurn_24 : decode cX6_doTurn 24 = .ok (.aload_n 0, 1) := by decide +kernel
theorem dX6_doTurn_25 : decode cX6_doTurn 25 = .ok (.invokevirtual 131, 3) := by decide +kernel
theorem dX6_doTurn_28 : decode cX6_doTurn 28 = .ok (.astore_n 2, 1) := by decide +kernel
theorem dX6_doTurn_29 : decode cX6_doTurn 29 = .ok (.aload_n 2, 1) := by decide +kernel
theorem dX6_doTurn_30 : decode cX6_doTurn 30 = .ok (.ifnull 8, 3) := by decide +kernel
theorem dX6_doTurn_33 : decode cX6_doTurn 33 = .ok (.aload_n 0, 1) := by decide +kernel
theorem dX6_doTurn_34 : decode cX6_doTurn 34 = .ok (.aload_n 2, 1) := by decide +kernel
theorem dX6_doTurn_35 : decode cX6_doTurn 35 = .ok (.invokevirtual 135, 3) := by decide +kernel
theorem dX6_doTurn_38 : decode cX6_doTurn 38 = .ok (.iinc 1 1, 3) := by decide +kernel
theorem dX6_doTurn_41 : decode cX6_doTurn 41 = .ok (.goto (-25), 3) := by decide +kernel
theorem dX6_doTurn_44 : decode cX6_doTurn 44 = .ok (.aload_n 0, 1) := by decide +kernel
theorem dX6_doTurn_45 : decode cX6_doTurn 45 = .ok (.invokevirtual 139, 3) := by decide +kernel
theorem dX6_doTurn_48 : decode cX6_doTurn 48 = .ok (.return_, 1) := by decide +kernel
theorem dX6_wakeTasks_0 : decode cX6_wakeTasks 0 = .ok (.iconst 0, 1) := by decide +kernel
theorem dX6_wakeTasks_1 : decode cX6_wakeTasks 1 = .ok (.istore_n 1, 1) := by decide +kernel
theorem dX6_wakeTasks_2 : decode cX6_wakeTasks 2 = .ok (.iload_n 1, 1) := by decide +kernel
theorem dX6_wakeTasks_3 : decode cX6_wakeTasks 3 = .ok (.aload_n 0, 1) := by decide +kernel
theorem dX6_wakeTasks_4 : decode cX6_wakeTasks 4 = .ok (.getfield 11, 3) := by decide +kernel
theorem dX6_wakeTasks_7 : decode cX6_wakeTasks 7 = .ok (.arraylength, 1) := by decide +kernel
theorem dX6_wakeTasks_8 : decode cX6_wakeTasks 8 = .ok (.if_icmp .ge 24, 3) := by decide +kernel
theorem dX6_wakeTasks_11 : decode cX6_wakeTasks 11 = .ok (.aload_n 0, 1) := by decide +kernel
theorem dX6_wakeTasks_12 : decode cX6_wakeTasks 12 = .ok (.getfield 11, 3) := by decide +kernel
theorem dX6_wakeTasks_15 : decode cX6_wakeTasks 15 = .ok (.iload_n 1, 1) := by decide +kernel
theorem dX6_wakeTasks_16 : decode cX6_wakeTasks 16 = .ok (.aaload, 1) := by decide +kernel
theorem dX6_wakeTasks_17 : decode cX6_wakeTasks 17 = .ok (.astore_n 2, 1) := by decide +kernel
theorem dX6_wakeTasks_18 : decode cX6_wakeTasks 18 = .ok (.aload_n 2, 1) := by decide +kernel
theorem dX6_wakeTasks_19 : decode cX6_wakeTasks 19 = .ok (.ifnull 7, 3) := by decide +kernel
theorem dX6_wakeTasks_22 : decode cX6_wakeTasks 22 = .ok (.aload_n 2, 1) := by decide +kernel
theorem dX6_wakeTasks_23 : decode cX6_wakeTasks 23 = .ok (.invokevirtual 142, 3) := by decide +kernel
theorem dX6_wakeTasks_26 : decode cX6_wakeTasks 26 = .ok (.iinc 1 1, 3) := by decide +kernel
theorem dX6_wakeTasks_29 : decode cX6_wakeTasks 29 = .ok (.goto (-27), 3) := by decide +kernel
theorem dX6_wakeTasks_32 : decode cX6_wakeTasks 32 = .ok (.return_, 1) := by decide +kernel
theorem dX6_ageTasks_0 : decode cX6_ageTasks 0 = .ok (.iconst 0, 1) := by decide +kernel
theorem dX6_ageTasks_1 : decode cX6_ageTasks 1 = .ok (.istore_n 1, 1) := by decide +kernel
theorem dX6_ageTasks_2 : decode cX6_ageTasks 2 = .ok (.iload_n 1, 1) := by decide +kernel
theorem dX6_ageTasks_3 : decode cX6_ageTasks 3 = .ok (.aload_n 0, 1) := by decide +kernel
theorem dX6_ageTasks_4 : decode cX6_ageTasks 4 = .ok (.getfield 11, 3) := by decide +kernel
theorem dX6_ageTasks_7 : decode cX6_ageTasks 7 = .ok (.arraylength, 1) := by decide +kernel
theorem dX6_ageTasks_8 : decode cX6_ageTasks 8 = .ok (.if_icmp .ge 41, 3) := by decide +kernel
theorem dX6_ageTasks_11 : decode cX6_ageTasks 11 = .ok (.aload_n 0, 1) := by decide +kernel
theorem dX6_ageTasks_12 : decode cX6_ageTasks 12 = .ok (.getfield 11, 3) := by decide +kernel
theorem dX6_ageTasks_15 : decode cX6_ageTasks 15 = .ok (.iload_n 1, 1) := by decide +kernel
theorem dX6_ageTasks_16 : decode cX6_ageTasks 16 = .ok (.aaload, 1) := by decide +kernel
theorem dX6_ageTasks_17 : decode cX6_ageTasks 17 = .ok (.astore_n 2, 1) := by decide +kernel
theorem dX6_ageTasks_18 : decode cX6_ageTasks 18 = .ok (.aload_n 2, 1) := by decide +kernel
theorem dX6_ageTasks_19 : decode cX6_ageTasks 19 = .ok (.ifnull 24, 3) := by decide +kernel
theorem dX6_ageTasks_22 : decode cX6_ageTasks 22 = .ok (.aload_n 2, 1) := by decide +kernel
theorem dX6_ageTasks_23 : decode cX6_ageTasks 23 = .ok (.aload_n 0, 1) := by decide +kernel
theorem dX6_ageTasks_24 : decode cX6_ageTasks 24 = .ok (.getfield 109, 3) := by decide +kernel
theorem dX6_ageTasks_27 : decode cX6_ageTasks 27 = .ok (.invokevirtual 145, 3) := by decide +kernel
theorem dX6_ageTasks_30 : decode cX6_ageTasks 30 = .ok (.ifCond .eq 13, 3) := by decide +kernel
theorem dX6_ageTasks_33 : decode cX6_ageTasks 33 = .ok (.aload_n 2, 1) := by decide +kernel
theorem dX6_ageTasks_34 : decode cX6_ageTasks 34 = .ok (.dup, 1) := by decide +kernel
theorem dX6_ageTasks_35 : decode cX6_ageTasks 35 = .ok (.getfield 148, 3) := by decide +kernel
theorem dX6_ageTasks_38 : decode cX6_ageTasks 38 = .ok (.iconst 1, 1) := by decide +kernel
theorem dX6_ageTasks_39 : decode cX6_ageTasks 39 = .ok (.iadd, 1) := by decide +kernel
theorem dX6_ageTasks_40 : decode cX6_ageTasks 40 = .ok (.putfield 148, 3) := by decide +kernel
theorem dX6_ageTasks_43 : decode cX6_ageTasks 43 = .ok (.iinc 1 1, 3) := by decide +kernel
theorem dX6_ageTasks_46 : decode cX6_ageTasks 46 = .ok (.goto (-44), 3) := by decide +kernel
theorem dX6_ageTasks_49 : decode cX6_ageTasks 49 = .ok (.return_, 1) := by decide +kernel
theorem dX6_findNextToWork_0 : decode cX6_findNextToWork 0 = .ok (.aconst_null, 1) := by decide +kernel
theorem dX6_findNextToWork_1 : decode cX6_findNextToWork 1 = .ok (.astore_n 1, 1) := by decide +kernel
theorem dX6_findNextToWork_2 : decode cX6_findNextToWork 2 = .ok (.iconst 0, 1) := by decide +kernel
theorem dX6_findNextToWork_3 : decode cX6_findNextToWork 3 = .ok (.istore_n 2, 1) := by decide +kernel
theorem dX6_findNextToWork_4 : decode cX6_findNextToWork 4 = .ok (.iload_n 2, 1) := by decide +kernel
theorem dX6_findNextToWork_5 : decode cX6_findNextToWork 5 = .ok (.aload_n 0, 1) := by decide +kernel
theorem dX6_findNextToWork_6 : decode cX6_findNextToWork 6 = .ok (.getfield 11, 3) := by decide +kernel
theorem dX6_findNextToWork_9 : decode cX6_findNextToWork 9 = .ok (.arraylength, 1) := by decide +kernel
theorem dX6_findNextToWork_10 : decode cX6_findNextToWork 10 = .ok (.if_icmp .ge 58, 3) := by decide +kernel
theorem dX6_findNextToWork_13 : decode cX6_findNextToWork 13 = .ok (.aload_n 0, 1) := by decide +kernel
theorem dX6_findNextToWork_14 : decode cX6_findNextToWork 14 = .ok (.getfield 11, 3) := by decide +kernel
theorem dX6_findNextToWork_17 : decode cX6_findNextToWork 17 = .ok (.iload_n 2, 1) := by decide +kernel
theorem dX6_findNextToWork_18 : decode cX6_findNextToWork 18 = .ok (.aaload, 1) := by decide +kernel
theorem dX6_findNextToWork_19 : decode cX6_findNextToWork 19 = .ok (.astore_n 3, 1) := by decide +kernel
theorem dX6_findNextToWork_20 : decode cX6_findNextToWork 20 = .ok (.aload_n 3, 1) := by decide +kernel
theorem dX6_findNextToWork_21 : decode cX6_findNextToWork 21 = .ok (.ifnull 41, 3) := by decide +kernel
theorem dX6_findNextToWork_24 : decode cX6_findNextToWork 24 = .ok (.aload_n 3, 1) := by decide +kernel
theorem dX6_findNextToWork_25 : decode cX6_findNextToWork 25 = .ok (.aload_n 0, 1) := by decide +kernel
theorem dX6_findNextToWork_26 : decode cX6_findNextToWork 26 = .ok (.getfield 109, 3) := by decide +kernel
theorem dX6_findNextToWork_29 : decode cX6_findNextToWork 29 = .ok (.invokevirtual 145, 3) := by decide +kernel
theorem dX6_findNextToWork_32 : decode cX6_findNextToWork 32 = .ok (.ifCond .eq 30, 3) := by decide +kernel
theorem dX6_findNextToWork_35 : decode cX6_findNextToWork 35 = .ok (.aload_n 1, 1) := by decide +kernel
theorem dX6_findNextToWork_36 : decode cX6_findNextToWork 36 = .ok (.ifnull 24, 3) := by decide +kernel
theorem dX6_findNextToWork_39 : decode cX6_findNextToWork 39 = .ok (.aload_n 3, 1) := by decide +kernel
theorem dX6_findNextToWork_40 : decode cX6_findNextToWork 40 = .ok (.getfield 151, 3) := by decide +kernel
theorem dX6_findNextToWork_43 : decode cX6_findNextToWork 43 = .ok (.aload_n 3, 1) := by decide +kernel
theorem dX6_findNextToWork_44 : decode cX6_findNextToWork 44 = .ok (.getfield 148, 3) := by decide +kernel
theorem dX6_findNextToWork_47 : decode cX6_findNextToWork 47 = .ok (.iadd, 1) := by decide +kernel
theorem dX6_findNextToWork_48 : decode cX6_findNextToWork 48 = .ok (.aload_n 1, 1) := by decide +kernel
theorem dX6_findNextToWork_49 : decode cX6_findNextToWork 49 = .ok (.getfield 151, 3) := by decide +kernel
theorem dX6_findNextToWork_52 : decode cX6_findNextToWork 52 = .ok (.aload_n 1, 1) := by decide +kernel
theorem dX6_findNextToWork_53 : decode cX6_findNextToWork 53 = .ok (.getfield 148, 3) := by decide +kernel
theorem dX6_findNextToWork_56 : decode cX6_findNextToWork 56 = .ok (.iadd, 1) := by decide +kernel
theorem dX6_findNextToWork_57 : decode cX6_findNextToWork 57 = .ok (.if_icmp .le 5, 3) := by decide +kernel
theorem dX6_findNextToWork_60 : decode cX6_findNextToWork 60 = .ok (.aload_n 3, 1) := by decide +kernel
theorem dX6_findNextToWork_61 : decode cX6_findNextToWork 61 = .ok (.astore_n 1, 1) := by decide +kernel
theorem dX6_findNextToWork_62 : decode cX6_findNextToWork 62 = .ok (.iinc 2 1, 3) := by decide +kernel
theorem dX6_findNextToWork_65 : decode cX6_findNextToWork 65 = .ok (.goto (-61), 3) := by decide +kernel
theorem dX6_findNextToWork_68 : decode cX6_findNextToWork 68 = .ok (.aload_n 1, 1) := by decide +kernel
theorem dX6_findNextToWork_69 : decode cX6_findNextToWork 69 = .ok (.areturn, 1) := by decide +kernel
theorem dX6_giveTurn_0 : decode cX6_giveTurn 0 = .ok (.aload_n 1, 1) := by decide +kernel
theorem dX6_giveTurn_1 : decode cX6_giveTurn 1 = .ok (.aload_n 0, 1) := by decide +kernel
theorem dX6_giveTurn_2 : decode cX6_giveTurn 2 = .ok (.getfield 109, 3) := by decide +kernel
theorem dX6_giveTurn_5 : decode cX6_giveTurn 5 = .ok (.putfield 154, 3) := by decide +kernel
theorem dX6_giveTurn_8 : decode cX6_giveTurn 8 = .ok (.aload_n 1, 1) := by decide +kernel
theorem dX6_giveTurn_9 : decode cX6_giveTurn 9 = .ok (.iconst 0, 1) := by decide +kernel
theorem dX6_giveTurn_10 : decode cX6_giveTurn 10 = .ok (.putfield 148, 3) := by decide +kernel
theorem dX6_giveTurn_13 : decode cX6_giveTurn 13 = .ok (.aload_n 1, 1) := by decide +kernel
theorem dX6_giveTurn_14 : decode cX6_giveTurn 14 = .ok (.iconst 0, 1) := by decide +kernel
theorem dX6_giveTurn_15 : decode cX6_giveTurn 15 = .ok (.putfield 157, 3) := by decide +kernel
theorem dX6_giveTurn_18 : decode cX6_giveTurn 18 = .ok (.aload_n 1, 1) := by decide +kernel
theorem dX6_giveTurn_19 : decode cX6_giveTurn 19 = .ok (.getfield 160, 3) := by decide +kernel
theorem dX6_giveTurn_22 : decode cX6_giveTurn 22 = .ok (.aload_n 1, 1) := by decide +kernel
theorem dX6_giveTurn_23 : decode cX6_giveTurn 23 = .ok (.getfield 40, 3) := by decide +kernel
theorem dX6_giveTurn_26 : decode cX6_giveTurn 26 = .ok (.getfield 163, 3) := by decide +kernel
theorem dX6_giveTurn_29 : decode cX6_giveTurn 29 = .ok (.if_icmp .ge 69, 3) := by decide +kernel
theorem dX6_giveTurn_32 : decode cX6_giveTurn 32 = .ok (.aload_n 1, 1) := by decide +kernel
theorem dX6_giveTurn_33 : decode cX6_giveTurn 33 = .ok (.getfield 40, 3) := by decide +kernel
theorem dX6_giveTurn_36 : decode cX6_giveTurn 36 = .ok (.getfield 164, 3) := by decide +kernel
theorem dX6_giveTurn_39 : decode cX6_giveTurn 39 = .ok (.aload_n 1, 1) := by decide +kernel
theorem dX6_giveTurn_40 : decode cX6_giveTurn 40 = .ok (.getfield 160, 3) := by decide +kernel
theorem dX6_giveTurn_43 : decode cX6_giveTurn 43 = .ok (.iaload, 1) := by decide +kernel
theorem dX6_giveTurn_44 : decode cX6_giveTurn 44 = .ok (.bipush 9, 2) := by decide +kernel
theorem dX6_giveTurn_46 : decode cX6_giveTurn 46 = .ok (.if_icmp .ne 11, 3) := by decide +kernel
theorem dX6_giveTurn_49 : decode cX6_giveTurn 49 = .ok (.aload_n 0, 1) := by decide +kernel
theorem dX6_giveTurn_50 : decode cX6_giveTurn 50 = .ok (.aload_n 1, 1) := by decide +kernel
theorem dX6_giveTurn_51 : decode cX6_giveTurn 51 = .ok (.invokevirtual 167, 3) := by decide +kernel
theorem dX6_giveTurn_54 : decode cX6_giveTurn 54 = .ok (.goto 9, 3) := by decide +kernel
theorem dX6_giveTurn_57 : decode cX6_giveTurn 57 = .ok (.aload_n 0, 1) := by decide +kernel
theorem dX6_giveTurn_58 : decode cX6_giveTurn 58 = .ok (.aload_n 1, 1) := by decide +kernel
theorem dX6_giveTurn_59 : decode cX6_giveTurn 59 = .ok (.iconst 0, 1) := by decide +kernel
theorem dX6_giveTurn_60 : decode cX6_giveTurn 60 = .ok (.invokevirtual 171, 3) := by decide +kernel
theorem dX6_giveTurn_63 : decode cX6_giveTurn 63 = .ok (.istore_n 2, 1) := by decide +kernel
theorem dX6_giveTurn_64 : decode cX6_giveTurn 64 = .ok (.iload_n 2, 1) := by decide +kernel
theorem dX6_giveTurn_65 : decode cX6_giveTurn 65 = .ok (.ifCond .eq 21, 3) := by decide +kernel
theorem dX6_giveTurn_68 : decode cX6_giveTurn 68 = .ok (.aload_n 0, 1) := by decide +kernel
theorem dX6_giveTurn_69 : decode cX6_giveTurn 69 = .ok (.dup, 1) := by decide +kernel
theorem dX6_giveTurn_70 : decode cX6_giveTurn 70 = .ok (.getfield 118, 3) := by decide +kernel
theorem dX6_giveTurn_73 : decode cX6_giveTurn 73 = .ok (.iconst 1, 1) := by decide +kernel
theorem dX6_giveTurn_74 : decode cX6_giveTurn 74 = .ok (.iadd, 1) := by decide +kernel
theorem dX6_giveTurn_75 : decode cX6_giveTurn 75 = .ok (.putfield 118, 3) := by decide +kernel
theorem dX6_giveTurn_78 : decode cX6_giveTurn 78 = .ok (.aload_n 1, 1) := by decide +kernel
theorem dX6_giveTurn_79 : decode cX6_giveTurn 79 = .ok (.iload_n 2, 1) := by decide +kernel
theorem dX6_giveTurn_80 : decode cX6_giveTurn 80 = .ok (.invokevirtual 175, 3) := by decide +kernel
theorem dX6_giveTurn_83 : decode cX6_giveTurn 83 = .ok (.goto 15, 3) := by decide +kernel
theorem dX6_giveTurn_86 : decode cX6_giveTurn 86 = .ok (.aload_n 1, 1) := by decide +kernel
theorem dX6_giveTurn_87 : decode cX6_giveTurn 87 = .ok (.getfield 157, 3) := by decide +kernel
theorem dX6_giveTurn_90 : decode cX6_giveTurn 90 = .ok (.ifCond .le 8, 3) := by decide +kernel
theorem dX6_giveTurn_93 : decode cX6_giveTurn 93 = .ok (.aload_n 1, 1) := by decide +kernel
theorem dX6_giveTurn_94 : decode cX6_giveTurn 94 = .ok (.iconst 1, 1) := by decide +kernel
theorem dX6_giveTurn_95 : decode cX6_giveTurn 95 = .ok (.putfield 33, 3) := by decide +kernel
theorem dX6_giveTurn_98 : decode cX6_giveTurn 98 = .ok (.aload_n 1, 1) := by decide +kernel
theorem dX6_giveTurn_99 : decode cX6_giveTurn 99 = .ok (.getfield 160, 3) := by decide +kernel
theorem dX6_giveTurn_102 : decode cX6_giveTurn 102 = .ok (.aload_n 1, 1) := by decide +kernel
theorem dX6_giveTurn_103 : decode cX6_giveTurn 103 = .ok (.getfield 40, 3) := by decide +kernel
theorem dX6_giveTurn_106 : decode cX6_giveTurn 106 = .ok (.getfield 163, 3) := by decide +kernel
theorem dX6_giveTurn_109 : decode cX6_giveTurn 109 = .ok (.if_icmp .lt 8, 3) := by decide +kernel
theorem dX6_giveTurn_112 : decode cX6_giveTurn 112 = .ok (.aload_n 0, 1) := by decide +kernel
theorem dX6_giveTurn_113 : decode cX6_giveTurn 113 = .ok (.aload_n 1, 1) := by decide +kernel
theorem dX6_giveTurn_114 : decode cX6_giveTurn 114 = .ok (.invokevirtual 178, 3) := by decide +kernel
theorem dX6_giveTurn_117 : decode cX6_giveTurn 117 = .ok (.return_, 1) := by decide +kernel
theorem dX6_becomeDone_0 : decode cX6_becomeDone 0 = .ok (.aload_n 1, 1) := by decide +kernel
theorem dX6_becomeDone_1 : decode cX6_becomeDone 1 = .ok (.iconst 3, 1) := by decide +kernel
theorem dX6_becomeDone_2 : decode cX6_becomeDone 2 = .ok (.putfield 33, 3) := by decide +kernel
theorem dX6_becomeDone_5 : decode cX6_becomeDone 5 = .ok (.aload_n 0, 1) := by decide +kernel
theorem dX6_becomeDone_6 : decode cX6_becomeDone 6 = .ok (.getfield 125, 3) := by decide +kernel
theorem dX6_becomeDone_9 : decode cX6_becomeDone 9 = .ok (.aload_n 0, 1) := by decide +kernel
theorem dX6_becomeDone_10 : decode cX6_becomeDone 10 = .ok (.getfield 15, 3) := by decide +kernel
theorem dX6_becomeDone_13 : decode cX6_becomeDone 13 = .ok (.arraylength, 1) := by decide +kernel
theorem dX6_becomeDone_14 : decode cX6_becomeDone 14 = .ok (.if_icmp .ge 26, 3) := by decide +kernel
theorem dX6_becomeDone_17 : decode cX6_becomeDone 17 = .ok (.aload_n 0, 1) := by decide +kernel
theorem dX6_becomeDone_18 : decode cX6_becomeDone 18 = .ok (.getfield 15, 3) := by decide +kernel
theorem dX6_becomeDone_21 : decode cX6_becomeDone 21 = .ok (.aload_n 0, 1) := by decide +kernel
theorem dX6_becomeDone_22 : decode cX6_becomeDone 22 = .ok (.getfield 125, 3) := by decide +kernel
theorem dX6_becomeDone_25 : decode cX6_becomeDone 25 = .ok (.aload_n 1, 1) := by decide +kernel
theorem dX6_becomeDone_26 : decode cX6_becomeDone 26 = .ok (.getfield 181, 3) := by decide +kernel
theorem dX6_becomeDone_29 : decode cX6_becomeDone 29 = .ok (.iastore, 1) := by decide +kernel
theorem dX6_becomeDone_30 : decode cX6_becomeDone 30 = .ok (.aload_n 0, 1) := by decide +kernel
theorem dX6_becomeDone_31 : decode cX6_becomeDone 31 = .ok (.dup, 1) := by decide +kernel
theorem dX6_becomeDone_32 : decode cX6_becomeDone 32 = .ok (.getfield 125, 3) := by decide +kernel
theorem dX6_becomeDone_35 : decode cX6_becomeDone 35 = .ok (.iconst 1, 1) := by decide +kernel
theorem dX6_becomeDone_36 : decode cX6_becomeDone 36 = .ok (.iadd, 1) := by decide +kernel
theorem dX6_becomeDone_37 : decode cX6_becomeDone 37 = .ok (.putfield 125, 3) := by decide +kernel
theorem dX6_becomeDone_40 : decode cX6_becomeDone 40 = .ok (.return_, 1) := by decide +kernel
theorem dX6_doGuard_0 : decode cX6_doGuard 0 = .ok (.aload_n 1, 1) := by decide +kernel
theorem dX6_doGuard_1 : decode cX6_doGuard 1 = .ok (.getfield 40, 3) := by decide +kernel
theorem dX6_doGuard_4 : decode cX6_doGuard 4 = .ok (.getfield 184, 3) := by decide +kernel
theorem dX6_doGuard_7 : decode cX6_doGuard 7 = .ok (.aload_n 1, 1) := by decide +kernel
theorem dX6_doGuard_8 : decode cX6_doGuard 8 = .ok (.getfield 160, 3) := by decide +kernel
theorem dX6_doGuard_11 : decode cX6_doGuard 11 = .ok (.iaload, 1) := by decide +kernel
theorem dX6_doGuard_12 : decode cX6_doGuard 12 = .ok (.aload_n 1, 1) := by decide +kernel
theorem dX6_doGuard_13 : decode cX6_doGuard 13 = .ok (.getfield 40, 3) := by decide +kernel
theorem dX6_doGuard_16 : decode cX6_doGuard 16 = .ok (.getfield 163, 3) := by decide +kernel
theorem dX6_doGuard_19 : decode cX6_doGuard 19 = .ok (.aload_n 1, 1) := by decide +kernel
theorem dX6_doGuard_20 : decode cX6_doGuard 20 = .ok (.getfield 160, 3) := by decide +kernel
theorem dX6_doGuard_23 : decode cX6_doGuard 23 = .ok (.isub, 1) := by decide +kernel
theorem dX6_doGuard_24 : decode cX6_doGuard 24 = .ok (.iconst 1, 1) := by decide +kernel
theorem dX6_doGuard_25 : decode cX6_doGuard 25 = .ok (.isub, 1) := by decide +kernel
theorem dX6_doGuard_26 : decode cX6_doGuard 26 = .ok (.invokestatic 187, 3) := by decide +kernel
theorem dX6_doGuard_29 : decode cX6_doGuard 29 = .ok (.istore_n 2, 1) := by decide +kernel
theorem dX6_doGuard_30 : decode cX6_doGuard 30 = .ok (.aload_n 0, 1) := by decide +kernel
theorem dX6_doGuard_31 : decode cX6_doGuard 31 = .ok (.dup, 1) := by decide +kernel
theorem dX6_doGuard_32 : decode cX6_doGuard 32 = .ok (.getfield 50, 3) := by decide +kernel
theorem dX6_doGuard_35 : decode cX6_doGuard 35 = .ok (.iconst 1, 1) := by decide +kernel
theorem dX6_doGuard_36 : decode cX6_doGuard 36 = .ok (.iadd, 1) := by decide +kernel
theorem dX6_doGuard_37 : decode cX6_doGuard 37 = .ok (.putfield 50, 3) := by decide +kernel
theorem dX6_doGuard_40 : decode cX6_doGuard 40 = .ok (.aload_n 1, 1) := by decide +kernel
theorem dX6_doGuard_41 : decode cX6_doGuard 41 = .ok (.iconst 1, 1) := by decide +kernel
theorem dX6_doGuard_42 : decode cX6_doGuard 42 = .ok (.putfield 36, 3) := by decide +kernel
theorem dX6_doGuard_45 : decode cX6_doGuard 45 = .ok (.aload_n 1, 1) := by decide +kernel
theorem dX6_doGuard_46 : decode cX6_doGuard 46 = .ok (.dup, 1) := by decide +kernel
theorem dX6_doGuard_47 : decode cX6_doGuard 47 = .ok (.getfield 160, 3) := by decide +kernel
theorem dX6_doGuard_50 : decode cX6_doGuard 50 = .ok (.iconst 1, 1) := by decide +kernel
theorem dX6_doGuard_51 : decode cX6_doGuard 51 = .ok (.iadd, 1) := by decide +kernel
theorem dX6_doGuard_52 : decode cX6_doGuard 52 = .ok (.putfield 160, 3) := by decide +kernel
theorem dX6_doGuard_55 : decode cX6_doGuard 55 = .ok (.iconst 0, 1) := by decide +kernel
theorem dX6_doGuard_56 : decode cX6_doGuard 56 = .ok (.istore_n 3, 1) := by decide +kernel
theorem dX6_doGuard_57 : decode cX6_doGuard 57 = .ok (.iconst 0, 1) := by decide +kernel
theorem dX6_doGuard_58 : decode cX6_doGuard 58 = .ok (.istore 4, 2) := by decide +kernel
theorem dX6_doGuard_60 : decode cX6_doGuard 60 = .ok (.iload 4, 2) := by decide +kernel
theorem dX6_doGuard_62 : decode cX6_doGuard 62 = .ok (.iload_n 2, 1) := by decide +kernel
theorem dX6_doGuard_63 : decode cX6_doGuard 63 = .ok (.if_icmp .ge 20, 3) := by decide +kernel
theorem dX6_doGuard_66 : decode cX6_doGuard 66 = .ok (.iload_n 3, 1) := by decide +kernel
theorem dX6_doGuard_67 : decode cX6_doGuard 67 = .ok (.ifCond .ne 16, 3) := by decide +kernel
theorem dX6_doGuard_70 : decode cX6_doGuard 70 = .ok (.aload_n 0, 1) := by decide +kernel
theorem dX6_doGuard_71 : decode cX6_doGuard 71 = .ok (.aload_n 1, 1) := by decide +kernel
theorem dX6_doGuard_72 : decode cX6_doGuard 72 = .ok (.iconst 1, 1) := by decide +kernel
theorem dX6_doGuard_73 : decode cX6_doGuard 73 = .ok (.invokevirtual 171, 3) := by decide +kernel
theorem dX6_doGuard_76 : decode cX6_doGuard 76 = .ok (.istore_n 3, 1) := by decide +kernel
theorem dX6_doGuard_77 : decode cX6_doGuard 77 = .ok (.iinc 4 1, 3) := by decide +kernel
theorem dX6_doGuard_80 : decode cX6_doGuard 80 = .ok (.goto (-20), 3) := by decide +kernel
theorem dX6_doGuard_83 : decode cX6_doGuard 83 = .ok (.aload_n 0, 1) := by decide +kernel
theorem dX6_doGuard_84 : decode cX6_doGuard 84 = .ok (.dup, 1) := by decide +kernel
theorem dX6_doGuard_85 : decode cX6_doGuard 85 = .ok (.getfield 115, 3) := by decide +kernel
theorem dX6_doGuard_88 : decode cX6_doGuard 88 = .ok (.iconst 1, 1) := by decide +kernel
theorem dX6_doGuard_89 : decode cX6_doGuard 89 = .ok (.iadd, 1) := by decide +kernel
theorem dX6_doGuard_90 : decode cX6_doGuard 90 = .ok (.putfield 115, 3) := by decide +kernel
theorem dX6_doGuard_93 : decode cX6_doGuard 93 = .ok (.iload_n 3, 1) := by decide +kernel
theorem dX6_doGuard_94 : decode cX6_doGuard 94 = .ok (.ireturn, 1) := by decide +kernel
theorem dX6_doAct_0 : decode cX6_doAct 0 = .ok (.aload_n 1, 1) := by decide +kernel
theorem dX6_doAct_1 : decode cX6_doAct 1 = .ok (.getfield 40, 3) := by decide +kernel
theorem dX6_doAct_4 : decode cX6_doAct 4 = .ok (.getfield 184, 3) := by decide +kernel
theorem dX6_doAct_7 : decode cX6_doAct 7 = .ok (.aload_n 1, 1) := by decide +kernel
theorem dX6_doAct_8 : decode cX6_doAct 8 = .ok (.getfield 160, 3) := by decide +kernel
theorem dX6_doAct_11 : decode cX6_doAct 11 = .ok (.iaload, 1) := by decide +kernel
theorem dX6_doAct_12 : decode cX6_doAct 12 = .ok (.istore_n 3, 1) := by decide +kernel
theorem dX6_doAct_13 : decode cX6_doAct 13 = .ok (.aload_n 1, 1) := by decide +kernel
theorem dX6_doAct_14 : decode cX6_doAct 14 = .ok (.getfield 40, 3) := by decide +kernel
theorem dX6_doAct_17 : decode cX6_doAct 17 = .ok (.getfield 193, 3) := by decide +kernel
theorem dX6_doAct_20 : decode cX6_doAct 20 = .ok (.aload_n 1, 1) := by decide +kernel
theorem dX6_doAct_21 : decode cX6_doAct 21 = .ok (.getfield 160, 3) := by decide +kernel
theorem dX6_doAct_24 : decode cX6_doAct 24 = .ok (.iaload, 1) := by decide +kernel
theorem dX6_doAct_25 : decode cX6_doAct 25 = .ok (.istore 4, 2) := by decide +kernel
theorem dX6_doAct_27 : decode cX6_doAct 27 = .ok (.aload_n 0, 1) := by decide +kernel
theorem dX6_doAct_28 : decode cX6_doAct 28 = .ok (.dup, 1) := by decide +kernel
theorem dX6_doAct_29 : decode cX6_doAct 29 = .ok (.getfield 50, 3) := by decide +kernel
theorem dX6_doAct_32 : decode cX6_doAct 32 = .ok (.iconst 1, 1) := by decide +kernel
theorem dX6_doAct_33 : decode cX6_doAct 33 = .ok (.iadd, 1) := by decide +kernel
theorem dX6_doAct_34 : decode cX6_doAct 34 = .ok (.putfield 50, 3) := by decide +kernel
theorem dX6_doAct_37 : decode cX6_doAct 37 = .ok (.aload_n 1, 1) := by decide +kernel
theorem dX6_doAct_38 : decode cX6_doAct 38 = .ok (.iconst 1, 1) := by decide +kernel
theorem dX6_doAct_39 : decode cX6_doAct 39 = .ok (.putfield 36, 3) := by decide +kernel
theorem dX6_doAct_42 : decode cX6_doAct 42 = .ok (.aload_n 1, 1) := by decide +kernel
theorem dX6_doAct_43 : decode cX6_doAct 43 = .ok (.getfield 40, 3) := by decide +kernel
theorem dX6_doAct_46 : decode cX6_doAct 46 = .ok (.getfield 164, 3) := by decide +kernel
theorem dX6_doAct_49 : decode cX6_doAct 49 = .ok (.aload_n 1, 1) := by decide +kernel
theorem dX6_doAct_50 : decode cX6_doAct 50 = .ok (.getfield 160, 3) := by decide +kernel
theorem dX6_doAct_53 : decode cX6_doAct 53 = .ok (.iaload, 1) := by decide +kernel
theorem dX6_doAct_54 : decode cX6_doAct 54 = .ok (.tableswitch 246 0 15 #[78, 86, 94, 102, 110, 118, 126, 141, 149, 156, 161, 169, 185, 212, 221, 238], 78) := by decide +kernel
theorem dX6_doAct_132 : decode cX6_doAct 132 = .ok (.aload_n 1, 1) := by decide +kernel
theorem dX6_doAct_133 : decode cX6_doAct 133 = .ok (.iload_n 3, 1) := by decide +kernel
theorem dX6_doAct_134 : decode cX6_doAct 134 = .ok (.invokevirtual 196, 3) := by decide +kernel
theorem dX6_doAct_137 : decode cX6_doAct 137 = .ok (.goto 164, 3) := by decide +kernel
theorem dX6_doAct_140 : decode cX6_doAct 140 = .ok (.aload_n 1, 1) := by decide +kernel
theorem dX6_doAct_141 : decode cX6_doAct 141 = .ok (.iload_n 3, 1) := by decide +kernel
theorem dX6_doAct_142 : decode cX6_doAct 142 = .ok (.invokevirtual 199, 3) := by decide +kernel
theorem dX6_doAct_145 : decode cX6_doAct 145 = .ok (.goto 156, 3) := by decide +kernel
theorem dX6_doAct_148 : decode cX6_doAct 148 = .ok (.aload_n 1, 1) := by decide +kernel
theorem dX6_doAct_149 : decode cX6_doAct 149 = .ok (.iload_n 3, 1) := by decide +kernel
theorem dX6_doAct_150 : decode cX6_doAct 150 = .ok (.invokevirtual 202, 3) := by decide +kernel
theorem dX6_doAct_153 : decode cX6_doAct 153 = .ok (.goto 148, 3) := by decide +kernel
theorem dX6_doAct_156 : decode cX6_doAct 156 = .ok (.aload_n 1, 1) := by decide +kernel
theorem dX6_doAct_157 : decode cX6_doAct 157 = .ok (.iload_n 3, 1) := by decide +kernel
theorem dX6_doAct_158 : decode cX6_doAct 158 = .ok (.invokevirtual 205, 3) := by decide +kernel
theorem dX6_doAct_161 : decode cX6_doAct 161 = .ok (.goto 140, 3) := by decide +kernel
theorem dX6_doAct_164 : decode cX6_doAct 164 = .ok (.aload_n 1, 1) := by decide +kernel
theorem dX6_doAct_165 : decode cX6_doAct 165 = .ok (.iload_n 3, 1) := by decide +kernel
theorem dX6_doAct_166 : decode cX6_doAct 166 = .ok (.invokevirtual 208, 3) := by decide +kernel
theorem dX6_doAct_169 : decode cX6_doAct 169 = .ok (.goto 132, 3) := by decide +kernel
theorem dX6_doAct_172 : decode cX6_doAct 172 = .ok (.aload_n 1, 1) := by decide +kernel
theorem dX6_doAct_173 : decode cX6_doAct 173 = .ok (.iload_n 2, 1) := by decide +kernel
theorem dX6_doAct_174 : decode cX6_doAct 174 = .ok (.invokevirtual 211, 3) := by decide +kernel
theorem dX6_doAct_177 : decode cX6_doAct 177 = .ok (.goto 124, 3) := by decide +kernel
theorem dX6_doAct_180 : decode cX6_doAct 180 = .ok (.aload_n 0, 1) := by decide +kernel
theorem dX6_doAct_181 : decode cX6_doAct 181 = .ok (.aload_n 1, 1) := by decide +kernel
theorem dX6_doAct_182 : decode cX6_doAct 182 = .ok (.getfield 215, 3) := by decide +kernel
theorem dX6_doAct_185 : decode cX6_doAct 185 = .ok (.iload 4, 2) := by decide +kernel
theorem dX6_doAct_187 : decode cX6_doAct 187 = .ok (.iadd, 1) := by decide +kernel
theorem dX6_doAct_188 : decode cX6_doAct 188 = .ok (.iload_n 3, 1) := by decide +kernel
theorem dX6_doAct_189 : decode cX6_doAct 189 = .ok (.invokevirtual 218, 3) := by decide +kernel
theorem dX6_doAct_192 : decode cX6_doAct 192 = .ok (.goto 109, 3) := by decide +kernel
theorem dX6_doAct_195 : decode cX6_doAct 195 = .ok (.aload_n 1, 1) := by decide +kernel
theorem dX6_doAct_196 : decode cX6_doAct 196 = .ok (.iload_n 3, 1) := by decide +kernel
theorem dX6_doAct_197 : decode cX6_doAct 197 = .ok (.invokevirtual 221, 3) := by decide +kernel
theorem dX6_doAct_200 : decode cX6_doAct 200 = .ok (.goto 101, 3) := by decide +kernel
theorem dX6_doAct_203 : decode cX6_doAct 203 = .ok (.aload_n 1, 1) := by decide +kernel
theorem dX6_doAct_204 : decode cX6_doAct 204 = .ok (.invokevirtual 224, 3) := by decide +kernel
theorem dX6_doAct_207 : decode cX6_doAct 207 = .ok (.goto 94, 3) := by decide +kernel
theorem dX6_doAct_210 : decode cX6_doAct 210 = .ok (.bipush 8, 2) := by decide +kernel
theorem dX6_doAct_212 : decode cX6_doAct 212 = .ok (.goto 89, 3) := by decide +kernel
theorem dX6_doAct_215 : decode cX6_doAct 215 = .ok (.aload_n 1, 1) := by decide +kernel
theorem dX6_doAct_216 : decode cX6_doAct 216 = .ok (.iload_n 3, 1) := by decide +kernel
theorem dX6_doAct_217 : decode cX6_doAct 217 = .ok (.invokevirtual 227, 3) := by decide +kernel
theorem dX6_doAct_220 : decode cX6_doAct 220 = .ok (.goto 81, 3) := by decide +kernel
theorem dX6_doAct_223 : decode cX6_doAct 223 = .ok (.aload_n 1, 1) := by decide +kernel
theorem dX6_doAct_224 : decode cX6_doAct 224 = .ok (.getfield 82, 3) := by decide +kernel
theorem dX6_doAct_227 : decode cX6_doAct 227 = .ok (.iconst 0, 1) := by decide +kernel
theorem dX6_doAct_228 : decode cX6_doAct 228 = .ok (.iload_n 3, 1) := by decide +kernel
theorem dX6_doAct_229 : decode cX6_doAct 229 = .ok (.aload_n 1, 1) := by decide +kernel
theorem dX6_doAct_230 : decode cX6_doAct 230 = .ok (.getfield 215, 3) := by decide +kernel
theorem dX6_doAct_233 : decode cX6_doAct 233 = .ok (.invokevirtual 230, 3) := by decide +kernel
theorem dX6_doAct_236 : decode cX6_doAct 236 = .ok (.goto 65, 3) := by decide +kernel
theorem dX6_doAct_239 : decode cX6_doAct 239 = .ok (.aload_n 0, 1) := by decide +kernel
theorem dX6_doAct_240 : decode cX6_doAct 240 = .ok (.iload 4, 2) := by decide +kernel
theorem dX6_doAct_242 : decode cX6_doAct 242 = .ok (.invokevirtual 29, 3) := by decide +kernel
theorem dX6_doAct_245 : decode cX6_doAct 245 = .ok (.ifnonnull 7, 3) := by decide +kernel
theorem dX6_doAct_248 : decode cX6_doAct 248 = .ok (.iconst 2, 1) := by decide +kernel
theorem dX6_doAct_249 : decode cX6_doAct 249 = .ok (.goto 52, 3) := by decide +kernel
theorem dX6_doAct_252 : decode cX6_doAct 252 = .ok (.aload_n 1, 1) := by decide +kernel
theorem dX6_doAct_253 : decode cX6_doAct 253 = .ok (.getfield 82, 3) := by decide +kernel
theorem dX6_doAct_256 : decode cX6_doAct 256 = .ok (.iconst 1, 1) := by decide +kernel
theorem dX6_doAct_257 : decode cX6_doAct 257 = .ok (.iload_n 3, 1) := by decide +kernel
theorem dX6_doAct_258 : decode cX6_doAct 258 = .ok (.iload 4, 2) := by decide +kernel
theorem dX6_doAct_260 : decode cX6_doAct 260 = .ok (.invokevirtual 230, 3) := by decide +kernel
theorem dX6_doAct_263 : decode cX6_doAct 263 = .ok (.goto 38, 3) := by decide +kernel
theorem dX6_doAct_266 : decode cX6_doAct 266 = .ok (.aload_n 0, 1) := by decide +kernel
theorem dX6_doAct_267 : decode cX6_doAct 267 = .ok (.aload_n 1, 1) := by decide +kernel
theorem dX6_doAct_268 : decode cX6_doAct 268 = .ok (.iload_n 3, 1) := by decide +kernel
theorem dX6_doAct_269 : decode cX6_doAct 269 = .ok (.invokevirtual 232, 3) := by decide +kernel
theorem dX6_doAct_272 : decode cX6_doAct 272 = .ok (.goto 29, 3) := by decide +kernel
theorem dX6_doAct_275 : decode cX6_doAct 275 = .ok (.aload_n 1, 1) := by decide +kernel
theorem dX6_doAct_276 : decode cX6_doAct 276 = .ok (.getfield 215, 3) := by decide +kernel
theorem dX6_doAct_279 : decode cX6_doAct 279 = .ok (.iload_n 3, 1) := by decide +kernel
theorem dX6_doAct_280 : decode cX6_doAct 280 = .ok (.if_icmp .ge 8, 3) := by decide +kernel
theorem dX6_doAct_283 : decode cX6_doAct 283 = .ok (.bipush 10, 2) := by decide +kernel
theorem dX6_doAct_285 : decode cX6_doAct 285 = .ok (.goto 16, 3) := by decide +kernel
theorem dX6_doAct_288 : decode cX6_doAct 288 = .ok (.iconst 0, 1) := by decide +kernel
theorem dX6_doAct_289 : decode cX6_doAct 289 = .ok (.goto 12, 3) := by decide +kernel
theorem dX6_doAct_292 : decode cX6_doAct 292 = .ok (.aload_n 1, 1) := by decide +kernel
theorem dX6_doAct_293 : decode cX6_doAct 293 = .ok (.iload_n 3, 1) := by decide +kernel
theorem dX6_doAct_294 : decode cX6_doAct 294 = .ok (.invokevirtual 236, 3) := by decide +kernel
theorem dX6_doAct_297 : decode cX6_doAct 297 = .ok (.goto 4, 3) := by decide +kernel
theorem dX6_doAct_300 : decode cX6_doAct 300 = .ok (.iconst 0, 1) := by decide +kernel
theorem dX6_doAct_301 : decode cX6_doAct 301 = .ok (.istore 5, 2) := by decide +kernel
theorem dX6_doAct_303 : decode cX6_doAct 303 = .ok (.iload 5, 2) := by decide +kernel
theorem dX6_doAct_305 : decode cX6_doAct 305 = .ok (.ifCond .ne 21, 3) := by decide +kernel
theorem dX6_doAct_308 : decode cX6_doAct 308 = .ok (.aload_n 1, 1) := by decide +kernel
theorem dX6_doAct_309 : decode cX6_doAct 309 = .ok (.getfield 33, 3) := by decide +kernel
theorem dX6_doAct_312 : decode cX6_doAct 312 = .ok (.iconst 2, 1) := by decide +kernel
theorem dX6_doAct_313 : decode cX6_doAct 313 = .ok (.if_icmp .eq 13, 3) := by decide +kernel
theorem dX6_doAct_316 : decode cX6_doAct 316 = .ok (.aload_n 1, 1) := by decide +kernel
theorem dX6_doAct_317 : decode cX6_doAct 317 = .ok (.dup, 1) := by decide +kernel
theorem dX6_doAct_318 : decode cX6_doAct 318 = .ok (.getfield 160, 3) := by decide +kernel
theorem dX6_doAct_321 : decode cX6_doAct 321 = .ok (.iconst 1, 1) := by decide +kernel
theorem dX6_doAct_322 : decode cX6_doAct 322 = .ok (.iadd, 1) := by decide +kernel
theorem dX6_doAct_323 : decode cX6_doAct 323 = .ok (.putfield 160, 3) := by decide +kernel
theorem dX6_doAct_326 : decode cX6_doAct 326 = .ok (.iload 5, 2) := by decide +kernel
theorem dX6_doAct_328 : decode cX6_doAct 328 = .ok (.ireturn, 1) := by decide +kernel
theorem dX6_send_0 : decode cX6_send 0 = .ok (.aload_n 0, 1) := by decide +kernel
theorem dX6_send_1 : decode cX6_send 1 = .ok (.iload_n 2, 1) := by decide +kernel
theorem dX6_send_2 : decode cX6_send 2 = .ok (.invokevirtual 29, 3) := by decide +kernel
theorem dX6_send_5 : decode cX6_send 5 = .ok (.astore_n 3, 1) := by decide +kernel
theorem dX6_send_6 : decode cX6_send 6 = .ok (.aload_n 3, 1) := by decide +kernel
theorem dX6_send_7 : decode cX6_send 7 = .ok (.ifnonnull 5, 3) := by decide +kernel
theorem dX6_send_10 : decode cX6_send 10 = .ok (.iconst 2, 1) := by decide +kernel
theorem dX6_send_11 : decode cX6_send 11 = .ok (.ireturn, 1) := by decide +kernel
theorem dX6_send_12 : decode cX6_send 12 = .ok (.aload_n 3, 1) := by decide +kernel
theorem dX6_send_13 : decode cX6_send 13 = .ok (.invokevirtual 56, 3) := by decide +kernel
theorem dX6_send_16 : decode cX6_send 16 = .ok (.ifCond .eq 15, 3) := by decide +kernel
theorem dX6_send_19 : decode cX6_send 19 = .ok (.aload_n 0, 1) := by decide +kernel
theorem dX6_send_20 : decode cX6_send 20 = .ok (.dup, 1) := by decide +kernel
end
section
theorem dX6_send_21 : decode cX6_send 21 = .ok (.getfield 112, 3) := by decide +kernel
theorem dX6_send_24 : decode cX6_send 24 = .ok (.iconst 1, 1) := by decide +kernel
theorem dX6_send_25 : decode cX6_send 25 = .ok (.iadd, 1) := by decide +kernel
theorem dX6_send_26 : decode cX6_send 26 = .ok (.putfield 112, 3) := by decide +kernel
theorem dX6_send_29 : decode cX6_send 29 = .ok (.iconst 0, 1) := by decide +kernel
theorem dX6_send_30 : decode cX6_send 30 = .ok (.ireturn, 1) := by decide +kernel
theorem dX6_send_31 : decode cX6_send 31 = .ok (.aload_n 3, 1) := by decide +kernel
theorem dX6_send_32 : decode cX6_send 32 = .ok (.getfield 60, 3) := by decide +kernel
theorem dX6_send_35 : decode cX6_send 35 = .ok (.invokevirtual 64, 3) := by decide +kernel
theorem dX6_send_38 : decode cX6_send 38 = .ok (.ifCond .eq 6, 3) := by decide +kernel
theorem dX6_send_41 : decode cX6_send 41 = .ok (.bipush 7, 2) := by decide +kernel
theorem dX6_send_43 : decode cX6_send 43 = .ok (.ireturn, 1) := by decide +kernel
theorem dX6_send_44 : decode cX6_send 44 = .ok (.aload_n 3, 1) := by decide +kernel
theorem dX6_send_45 : decode cX6_send 45 = .ok (.getfield 60, 3) := by decide +kernel
theorem dX6_send_48 : decode cX6_send 48 = .ok (.iload_n 1, 1) := by decide +kernel
theorem dX6_send_49 : decode cX6_send 49 = .ok (.invokevirtual 69, 3) := by decide +kernel
theorem dX6_send_52 : decode cX6_send 52 = .ok (.iconst 0, 1) := by decide +kernel
theorem dX6_send_53 : decode cX6_send 53 = .ok (.ireturn, 1) := by decide +kernel
theorem dX6_ask_0 : decode cX6_ask 0 = .ok (.aload_n 1, 1) := by decide +kernel
theorem dX6_ask_1 : decode cX6_ask 1 = .ok (.getfield 82, 3) := by decide +kernel
theorem dX6_ask_4 : decode cX6_ask 4 = .ok (.iconst 1, 1) := by decide +kernel
theorem dX6_ask_5 : decode cX6_ask 5 = .ok (.iload_n 2, 1) := by decide +kernel
theorem dX6_ask_6 : decode cX6_ask 6 = .ok (.invokevirtual 239, 3) := by decide +kernel
theorem dX6_ask_9 : decode cX6_ask 9 = .ok (.istore_n 3, 1) := by decide +kernel
theorem dX6_ask_10 : decode cX6_ask 10 = .ok (.iload_n 3, 1) := by decide +kernel
theorem dX6_ask_11 : decode cX6_ask 11 = .ok (.ifCond .eq 5, 3) := by decide +kernel
theorem dX6_ask_14 : decode cX6_ask 14 = .ok (.iload_n 3, 1) := by decide +kernel
theorem dX6_ask_15 : decode cX6_ask 15 = .ok (.ireturn, 1) := by decide +kernel
theorem dX6_ask_16 : decode cX6_ask 16 = .ok (.aload_n 0, 1) := by decide +kernel
theorem dX6_ask_17 : decode cX6_ask 17 = .ok (.aload_n 1, 1) := by decide +kernel
theorem dX6_ask_18 : decode cX6_ask 18 = .ok (.getfield 82, 3) := by decide +kernel
theorem dX6_ask_21 : decode cX6_ask 21 = .ok (.getfield 92, 3) := by decide +kernel
theorem dX6_ask_24 : decode cX6_ask 24 = .ok (.iload_n 2, 1) := by decide +kernel
theorem dX6_ask_25 : decode cX6_ask 25 = .ok (.iaload, 1) := by decide +kernel
theorem dX6_ask_26 : decode cX6_ask 26 = .ok (.invokevirtual 29, 3) := by decide +kernel
theorem dX6_ask_29 : decode cX6_ask 29 = .ok (.astore 4, 2) := by decide +kernel
theorem dX6_ask_31 : decode cX6_ask 31 = .ok (.aload 4, 2) := by decide +kernel
theorem dX6_ask_33 : decode cX6_ask 33 = .ok (.ifnonnull 5, 3) := by decide +kernel
theorem dX6_ask_36 : decode cX6_ask 36 = .ok (.iconst 1, 1) := by decide +kernel
theorem dX6_ask_37 : decode cX6_ask 37 = .ok (.ireturn, 1) := by decide +kernel
theorem dX6_ask_38 : decode cX6_ask 38 = .ok (.aload_n 1, 1) := by decide +kernel
theorem dX6_ask_39 : decode cX6_ask 39 = .ok (.dup, 1) := by decide +kernel
theorem dX6_ask_40 : decode cX6_ask 40 = .ok (.getfield 215, 3) := by decide +kernel
theorem dX6_ask_43 : decode cX6_ask 43 = .ok (.aload 4, 2) := by decide +kernel
theorem dX6_ask_45 : decode cX6_ask 45 = .ok (.getfield 215, 3) := by decide +kernel
theorem dX6_ask_48 : decode cX6_ask 48 = .ok (.iadd, 1) := by decide +kernel
theorem dX6_ask_49 : decode cX6_ask 49 = .ok (.putfield 215, 3) := by decide +kernel
theorem dX6_ask_52 : decode cX6_ask 52 = .ok (.iconst 0, 1) := by decide +kernel
theorem dX6_ask_53 : decode cX6_ask 53 = .ok (.ireturn, 1) := by decide +kernel
theorem dX7_init_0 : decode cX7_init 0 = .ok (.aload_n 0, 1) := by decide +kernel
theorem dX7_init_1 : decode cX7_init 1 = .ok (.invokespecial 1, 3) := by decide +kernel
theorem dX7_init_4 : decode cX7_init 4 = .ok (.aload_n 0, 1) := by decide +kernel
theorem dX7_init_5 : decode cX7_init 5 = .ok (.bipush 12, 2) := by decide +kernel
theorem dX7_init_7 : decode cX7_init 7 = .ok (.newarray .int, 2) := by decide +kernel
theorem dX7_init_9 : decode cX7_init 9 = .ok (.putfield 7, 3) := by decide +kernel
theorem dX7_init_12 : decode cX7_init 12 = .ok (.aload_n 0, 1) := by decide +kernel
theorem dX7_init_13 : decode cX7_init 13 = .ok (.bipush 12, 2) := by decide +kernel
theorem dX7_init_15 : decode cX7_init 15 = .ok (.newarray .int, 2) := by decide +kernel
theorem dX7_init_17 : decode cX7_init 17 = .ok (.putfield 13, 3) := by decide +kernel
theorem dX7_init_20 : decode cX7_init 20 = .ok (.aload_n 0, 1) := by decide +kernel
theorem dX7_init_21 : decode cX7_init 21 = .ok (.bipush 12, 2) := by decide +kernel
theorem dX7_init_23 : decode cX7_init 23 = .ok (.newarray .int, 2) := by decide +kernel
theorem dX7_init_25 : decode cX7_init 25 = .ok (.putfield 16, 3) := by decide +kernel
theorem dX7_init_28 : decode cX7_init 28 = .ok (.aload_n 0, 1) := by decide +kernel
theorem dX7_init_29 : decode cX7_init 29 = .ok (.bipush 12, 2) := by decide +kernel
theorem dX7_init_31 : decode cX7_init 31 = .ok (.newarray .int, 2) := by decide +kernel
theorem dX7_init_33 : decode cX7_init 33 = .ok (.putfield 19, 3) := by decide +kernel
theorem dX7_init_36 : decode cX7_init 36 = .ok (.aload_n 0, 1) := by decide +kernel
theorem dX7_init_37 : decode cX7_init 37 = .ok (.bipush 12, 2) := by decide +kernel
theorem dX7_init_39 : decode cX7_init 39 = .ok (.newarray .int, 2) := by decide +kernel
theorem dX7_init_41 : decode cX7_init 41 = .ok (.putfield 22, 3) := by decide +kernel
theorem dX7_init_44 : decode cX7_init 44 = .ok (.aload_n 0, 1) := by decide +kernel
theorem dX7_init_45 : decode cX7_init 45 = .ok (.sipush 192, 3) := by decide +kernel
theorem dX7_init_48 : decode cX7_init 48 = .ok (.newarray .int, 2) := by decide +kernel
theorem dX7_init_50 : decode cX7_init 50 = .ok (.putfield 25, 3) := by decide +kernel
theorem dX7_init_53 : decode cX7_init 53 = .ok (.aload_n 0, 1) := by decide +kernel
theorem dX7_init_54 : decode cX7_init 54 = .ok (.sipush 192, 3) := by decide +kernel
theorem dX7_init_57 : decode cX7_init 57 = .ok (.newarray .int, 2) := by decide +kernel
theorem dX7_init_59 : decode cX7_init 59 = .ok (.putfield 28, 3) := by decide +kernel
theorem dX7_init_62 : decode cX7_init 62 = .ok (.aload_n 0, 1) := by decide +kernel
theorem dX7_init_63 : decode cX7_init 63 = .ok (.sipush 192, 3) := by decide +kernel
theorem dX7_init_66 : decode cX7_init 66 = .ok (.newarray .int, 2) := by decide +kernel
theorem dX7_init_68 : decode cX7_init 68 = .ok (.putfield 31, 3) := by decide +kernel
theorem dX7_init_71 : decode cX7_init 71 = .ok (.aload_n 0, 1) := by decide +kernel
theorem dX7_init_72 : decode cX7_init 72 = .ok (.bipush 12, 2) := by decide +kernel
theorem dX7_init_74 : decode cX7_init 74 = .ok (.newarray .int, 2) := by decide +kernel
theorem dX7_init_76 : decode cX7_init 76 = .ok (.putfield 34, 3) := by decide +kernel
theorem dX7_init_79 : decode cX7_init 79 = .ok (.aload_n 0, 1) := by decide +kernel
theorem dX7_init_80 : decode cX7_init 80 = .ok (.bipush 12, 2) := by decide +kernel
theorem dX7_init_82 : decode cX7_init 82 = .ok (.newarray .int, 2) := by decide +kernel
theorem dX7_init_84 : decode cX7_init 84 = .ok (.putfield 37, 3) := by decide +kernel
theorem dX7_init_87 : decode cX7_init 87 = .ok (.aload_n 0, 1) := by decide +kernel
theorem dX7_init_88 : decode cX7_init 88 = .ok (.bipush 12, 2) := by decide +kernel
theorem dX7_init_90 : decode cX7_init 90 = .ok (.newarray .int, 2) := by decide +kernel
theorem dX7_init_92 : decode cX7_init 92 = .ok (.putfield 40, 3) := by decide +kernel
theorem dX7_init_95 : decode cX7_init 95 = .ok (.aload_n 0, 1) := by decide +kernel
theorem dX7_init_96 : decode cX7_init 96 = .ok (.sipush 1200, 3) := by decide +kernel
theorem dX7_init_99 : decode cX7_init 99 = .ok (.newarray .int, 2) := by decide +kernel
theorem dX7_init_101 : decode cX7_init 101 = .ok (.putfield 43, 3) := by decide +kernel
theorem dX7_init_104 : decode cX7_init 104 = .ok (.aload_n 0, 1) := by decide +kernel
theorem dX7_init_105 : decode cX7_init 105 = .ok (.bipush 12, 2) := by decide +kernel
theorem dX7_init_107 : decode cX7_init 107 = .ok (.newarray .int, 2) := by decide +kernel
theorem dX7_init_109 : decode cX7_init 109 = .ok (.putfield 46, 3) := by decide +kernel
theorem dX7_init_112 : decode cX7_init 112 = .ok (.aload_n 0, 1) := by decide +kernel
theorem dX7_init_113 : decode cX7_init 113 = .ok (.bipush 12, 2) := by decide +kernel
theorem dX7_init_115 : decode cX7_init 115 = .ok (.newarray .int, 2) := by decide +kernel
theorem dX7_init_117 : decode cX7_init 117 = .ok (.putfield 49, 3) := by decide +kernel
theorem dX7_init_120 : decode cX7_init 120 = .ok (.aload_n 0, 1) := by decide +kernel
theorem dX7_init_121 : decode cX7_init 121 = .ok (.bipush 12, 2) := by decide +kernel
theorem dX7_init_123 : decode cX7_init 123 = .ok (.newarray .int, 2) := by decide +kernel
theorem dX7_init_125 : decode cX7_init 125 = .ok (.putfield 52, 3) := by decide +kernel
theorem dX7_init_128 : decode cX7_init 128 = .ok (.aload_n 0, 1) := by decide +kernel
theorem dX7_init_129 : decode cX7_init 129 = .ok (.sipush 1200, 3) := by decide +kernel
theorem dX7_init_132 : decode cX7_init 132 = .ok (.newarray .int, 2) := by decide +kernel
theorem dX7_init_134 : decode cX7_init 134 = .ok (.putfield 55, 3) := by decide +kernel
theorem dX7_init_137 : decode cX7_init 137 = .ok (.aload_n 0, 1) := by decide +kernel
theorem dX7_init_138 : decode cX7_init 138 = .ok (.bipush 12, 2) := by decide +kernel
theorem dX7_init_140 : decode cX7_init 140 = .ok (.newarray .int, 2) := by decide +kernel
theorem dX7_init_142 : decode cX7_init 142 = .ok (.putfield 58, 3) := by decide +kernel
theorem dX7_init_145 : decode cX7_init 145 = .ok (.aload_n 0, 1) := by decide +kernel
theorem dX7_init_146 : decode cX7_init 146 = .ok (.bipush 36, 2) := by decide +kernel
theorem dX7_init_148 : decode cX7_init 148 = .ok (.newarray .int, 2) := by decide +kernel
theorem dX7_init_150 : decode cX7_init 150 = .ok (.putfield 61, 3) := by decide +kernel
theorem dX7_init_153 : decode cX7_init 153 = .ok (.aload_n 0, 1) := by decide +kernel
theorem dX7_init_154 : decode cX7_init 154 = .ok (.bipush 12, 2) := by decide +kernel
theorem dX7_init_156 : decode cX7_init 156 = .ok (.newarray .int, 2) := by decide +kernel
theorem dX7_init_158 : decode cX7_init 158 = .ok (.putfield 64, 3) := by decide +kernel
theorem dX7_init_161 : decode cX7_init 161 = .ok (.aload_n 0, 1) := by decide +kernel
theorem dX7_init_162 : decode cX7_init 162 = .ok (.bipush 72, 2) := by decide +kernel
theorem dX7_init_164 : decode cX7_init 164 = .ok (.newarray .int, 2) := by decide +kernel
theorem dX7_init_166 : decode cX7_init 166 = .ok (.putfield 67, 3) := by decide +kernel
theorem dX7_init_169 : decode cX7_init 169 = .ok (.aload_n 0, 1) := by decide +kernel
theorem dX7_init_170 : decode cX7_init 170 = .ok (.bipush 12, 2) := by decide +kernel
theorem dX7_init_172 : decode cX7_init 172 = .ok (.newarray .long, 2) := by decide +kernel
theorem dX7_init_174 : decode cX7_init 174 = .ok (.putfield 70, 3) := by decide +kernel
theorem dX7_init_177 : decode cX7_init 177 = .ok (.aload_n 0, 1) := by decide +kernel
theorem dX7_init_178 : decode cX7_init 178 = .ok (.bipush 12, 2) := by decide +kernel
theorem dX7_init_180 : decode cX7_init 180 = .ok (.newarray .int, 2) := by decide +kernel
theorem dX7_init_182 : decode cX7_init 182 = .ok (.putfield 74, 3) := by decide +kernel
theorem dX7_init_185 : decode cX7_init 185 = .ok (.aload_n 0, 1) := by decide +kernel
theorem dX7_init_186 : decode cX7_init 186 = .ok (.bipush 12, 2) := by decide +kernel
theorem dX7_init_188 : decode cX7_init 188 = .ok (.newarray .int, 2) := by decide +kernel
theorem dX7_init_190 : decode cX7_init 190 = .ok (.putfield 77, 3) := by decide +kernel
theorem dX7_init_193 : decode cX7_init 193 = .ok (.aload_n 0, 1) := by decide +kernel
theorem dX7_init_194 : decode cX7_init 194 = .ok (.bipush 12, 2) := by decide +kernel
theorem dX7_init_196 : decode cX7_init 196 = .ok (.newarray .int, 2) := by decide +kernel
theorem dX7_init_198 : decode cX7_init 198 = .ok (.putfield 80, 3) := by decide +kernel
theorem dX7_init_201 : decode cX7_init 201 = .ok (.aload_n 0, 1) := by decide +kernel
theorem dX7_init_202 : decode cX7_init 202 = .ok (.bipush 12, 2) := by decide +kernel
theorem dX7_init_204 : decode cX7_init 204 = .ok (.newarray .int, 2) := by decide +kernel
theorem dX7_init_206 : decode cX7_init 206 = .ok (.putfield 83, 3) := by decide +kernel
theorem dX7_init_209 : decode cX7_init 209 = .ok (.aload_n 0, 1) := by decide +kernel
theorem dX7_init_210 : decode cX7_init 210 = .ok (.bipush 12, 2) := by decide +kernel
theorem dX7_init_212 : decode cX7_init 212 = .ok (.newarray .boolean, 2) := by decide +kernel
theorem dX7_init_214 : decode cX7_init 214 = .ok (.putfield 86, 3) := by decide +kernel
theorem dX7_init_217 : decode cX7_init 217 = .ok (.aload_n 0, 1) := by decide +kernel
theorem dX7_init_218 : decode cX7_init 218 = .ok (.bipush 12, 2) := by decide +kernel
theorem dX7_init_220 : decode cX7_init 220 = .ok (.newarray .boolean, 2) := by decide +kernel
theorem dX7_init_222 : decode cX7_init 222 = .ok (.putfield 90, 3) := by decide +kernel
theorem dX7_init_225 : decode cX7_init 225 = .ok (.aload_n 0, 1) := by decide +kernel
theorem dX7_init_226 : decode cX7_init 226 = .ok (.bipush 12, 2) := by decide +kernel
theorem dX7_init_228 : decode cX7_init 228 = .ok (.newarray .int, 2) := by decide +kernel
theorem dX7_init_230 : decode cX7_init 230 = .ok (.putfield 93, 3) := by decide +kernel
theorem dX7_init_233 : decode cX7_init 233 = .ok (.aload_n 0, 1) := by decide +kernel
theorem dX7_init_234 : decode cX7_init 234 = .ok (.iconst 1, 1) := by decide +kernel
theorem dX7_init_235 : decode cX7_init 235 = .ok (.putfield 96, 3) := by decide +kernel
theorem dX7_init_238 : decode cX7_init 238 = .ok (.aload_n 0, 1) := by decide +kernel
theorem dX7_init_239 : decode cX7_init 239 = .ok (.iconst 0, 1) := by decide +kernel
theorem dX7_init_240 : decode cX7_init 240 = .ok (.putfield 100, 3) := by decide +kernel
theorem dX7_init_243 : decode cX7_init 243 = .ok (.return_, 1) := by decide +kernel
theorem dX7_in_0 : decode cX7_in 0 = .ok (.iload_n 0, 1) := by decide +kernel
theorem dX7_in_1 : decode cX7_in 1 = .ok (.iload_n 1, 1) := by decide +kernel
theorem dX7_in_2 : decode cX7_in 2 = .ok (.if_icmp .lt 12, 3) := by decide +kernel
theorem dX7_in_5 : decode cX7_in 5 = .ok (.iload_n 0, 1) := by decide +kernel
theorem dX7_in_6 : decode cX7_in 6 = .ok (.iload_n 2, 1) := by decide +kernel
theorem dX7_in_7 : decode cX7_in 7 = .ok (.if_icmp .gt 7, 3) := by decide +kernel
theorem dX7_in_10 : decode cX7_in 10 = .ok (.iconst 1, 1) := by decide +kernel
theorem dX7_in_11 : decode cX7_in 11 = .ok (.goto 4, 3) := by decide +kernel
theorem dX7_in_14 : decode cX7_in 14 = .ok (.iconst 0, 1) := by decide +kernel
theorem dX7_in_15 : decode cX7_in 15 = .ok (.ireturn, 1) := by decide +kernel
theorem dX7_isTask_0 : decode cX7_isTask 0 = .ok (.iload_n 1, 1) := by decide +kernel
theorem dX7_isTask_1 : decode cX7_isTask 1 = .ok (.iconst 0, 1) := by decide +kernel
theorem dX7_isTask_2 : decode cX7_isTask 2 = .ok (.aload_n 0, 1) := by decide +kernel
theorem dX7_isTask_3 : decode cX7_isTask 3 = .ok (.getfield 103, 3) := by decide +kernel
theorem dX7_isTask_6 : decode cX7_isTask 6 = .ok (.iconst 1, 1) := by decide +kernel
theorem dX7_isTask_7 : decode cX7_isTask 7 = .ok (.isub, 1) := by decide +kernel
theorem dX7_isTask_8 : decode cX7_isTask 8 = .ok (.invokestatic 106, 3) := by decide +kernel
theorem dX7_isTask_11 : decode cX7_isTask 11 = .ok (.ireturn, 1) := by decide +kernel
theorem dX7_isOver_0 : decode cX7_isOver 0 = .ok (.iload_n 0, 1) := by decide +kernel
theorem dX7_isOver_1 : decode cX7_isOver 1 = .ok (.iconst 2, 1) := by decide +kernel
theorem dX7_isOver_2 : decode cX7_isOver 2 = .ok (.if_icmp .le 7, 3) := by decide +kernel
theorem dX7_isOver_5 : decode cX7_isOver 5 = .ok (.iconst 1, 1) := by decide +kernel
theorem dX7_isOver_6 : decode cX7_isOver 6 = .ok (.goto 4, 3) := by decide +kernel
theorem dX7_isOver_9 : decode cX7_isOver 9 = .ok (.iconst 0, 1) := by decide +kernel
theorem dX7_isOver_10 : decode cX7_isOver 10 = .ok (.ireturn, 1) := by decide +kernel
theorem dX7_task_0 : decode cX7_task 0 = .ok (.iload_n 1, 1) := by decide +kernel
theorem dX7_task_1 : decode cX7_task 1 = .ok (.iconst 0, 1) := by decide +kernel
theorem dX7_task_2 : decode cX7_task 2 = .ok (.iconst 4, 1) := by decide +kernel
theorem dX7_task_3 : decode cX7_task 3 = .ok (.invokestatic 106, 3) := by decide +kernel
theorem dX7_task_6 : decode cX7_task 6 = .ok (.ifCond .eq 13, 3) := by decide +kernel
theorem dX7_task_9 : decode cX7_task 9 = .ok (.iload_n 2, 1) := by decide +kernel
theorem dX7_task_10 : decode cX7_task 10 = .ok (.iconst 0, 1) := by decide +kernel
theorem dX7_task_11 : decode cX7_task 11 = .ok (.bipush 9, 2) := by decide +kernel
theorem dX7_task_13 : decode cX7_task 13 = .ok (.invokestatic 106, 3) := by decide +kernel
theorem dX7_task_16 : decode cX7_task 16 = .ok (.ifCond .ne 5, 3) := by decide +kernel
theorem dX7_task_19 : decode cX7_task 19 = .ok (.iconst (-1), 1) := by decide +kernel
theorem dX7_task_20 : decode cX7_task 20 = .ok (.ireturn, 1) := by decide +kernel
theorem dX7_task_21 : decode cX7_task 21 = .ok (.aload_n 0, 1) := by decide +kernel
theorem dX7_task_22 : decode cX7_task 22 = .ok (.getfield 103, 3) := by decide +kernel
theorem dX7_task_25 : decode cX7_task 25 = .ok (.bipush 12, 2) := by decide +kernel
theorem dX7_task_27 : decode cX7_task 27 = .ok (.if_icmp .ne 6, 3) := by decide +kernel
theorem dX7_task_30 : decode cX7_task 30 = .ok (.bipush (-3), 2) := by decide +kernel
theorem dX7_task_32 : decode cX7_task 32 = .ok (.ireturn, 1) := by decide +kernel
theorem dX7_task_33 : decode cX7_task 33 = .ok (.aload_n 0, 1) := by decide +kernel
theorem dX7_task_34 : decode cX7_task 34 = .ok (.getfield 103, 3) := by decide +kernel
theorem dX7_task_37 : decode cX7_task 37 = .ok (.istore_n 3, 1) := by decide +kernel
theorem dX7_task_38 : decode cX7_task 38 = .ok (.aload_n 0, 1) := by decide +kernel
theorem dX7_task_39 : decode cX7_task 39 = .ok (.getfield 7, 3) := by decide +kernel
theorem dX7_task_42 : decode cX7_task 42 = .ok (.iload_n 3, 1) := by decide +kernel
theorem dX7_task_43 : decode cX7_task 43 = .ok (.iload_n 1, 1) := by decide +kernel
theorem dX7_task_44 : decode cX7_task 44 = .ok (.iastore, 1) := by decide +kernel
theorem dX7_task_45 : decode cX7_task 45 = .ok (.aload_n 0, 1) := by decide +kernel
theorem dX7_task_46 : decode cX7_task 46 = .ok (.getfield 13, 3) := by decide +kernel
theorem dX7_task_49 : decode cX7_task 49 = .ok (.iload_n 3, 1) := by decide +kernel
theorem dX7_task_50 : decode cX7_task 50 = .ok (.iload_n 2, 1) := by decide +kernel
theorem dX7_task_51 : decode cX7_task 51 = .ok (.iastore, 1) := by decide +kernel
theorem dX7_task_52 : decode cX7_task 52 = .ok (.aload_n 0, 1) := by decide +kernel
theorem dX7_task_53 : decode cX7_task 53 = .ok (.getfield 40, 3) := by decide +kernel
theorem dX7_task_56 : decode cX7_task 56 = .ok (.iload_n 3, 1) := by decide +kernel
theorem dX7_task_57 : decode cX7_task 57 = .ok (.bipush (-4), 2) := by decide +kernel
theorem dX7_task_59 : decode cX7_task 59 = .ok (.iastore, 1) := by decide +kernel
theorem dX7_task_60 : decode cX7_task 60 = .ok (.aload_n 0, 1) := by decide +kernel
theorem dX7_task_61 : decode cX7_task 61 = .ok (.getfield 52, 3) := by decide +kernel
theorem dX7_task_64 : decode cX7_task 64 = .ok (.iload_n 3, 1) := by decide +kernel
theorem dX7_task_65 : decode cX7_task 65 = .ok (.bipush (-4), 2) := by decide +kernel
theorem dX7_task_67 : decode cX7_task 67 = .ok (.iastore, 1) := by decide +kernel
theorem dX7_task_68 : decode cX7_task 68 = .ok (.aload_n 0, 1) := by decide +kernel
theorem dX7_task_69 : decode cX7_task 69 = .ok (.getfield 58, 3) := by decide +kernel
theorem dX7_task_72 : decode cX7_task 72 = .ok (.iload_n 3, 1) := by decide +kernel
theorem dX7_task_73 : decode cX7_task 73 = .ok (.bipush (-4), 2) := by decide +kernel
theorem dX7_task_75 : decode cX7_task 75 = .ok (.iastore, 1) := by decide +kernel
theorem dX7_task_76 : decode cX7_task 76 = .ok (.aload_n 0, 1) := by decide +kernel
theorem dX7_task_77 : decode cX7_task 77 = .ok (.getfield 80, 3) := by decide +kernel
theorem dX7_task_80 : decode cX7_task 80 = .ok (.iload_n 3, 1) := by decide +kernel
theorem dX7_task_81 : decode cX7_task 81 = .ok (.bipush (-4), 2) := by decide +kernel
theorem dX7_task_83 : decode cX7_task 83 = .ok (.iastore, 1) := by decide +kernel
theorem dX7_task_84 : decode cX7_task 84 = .ok (.aload_n 0, 1) := by decide +kernel
theorem dX7_task_85 : decode cX7_task 85 = .ok (.dup, 1) := by decide +kernel
theorem dX7_task_86 : decode cX7_task 86 = .ok (.getfield 103, 3) := by decide +kernel
theorem dX7_task_89 : decode cX7_task 89 = .ok (.iconst 1, 1) := by decide +kernel
theorem dX7_task_90 : decode cX7_task 90 = .ok (.iadd, 1) := by decide +kernel
theorem dX7_task_91 : decode cX7_task 91 = .ok (.putfield 103, 3) := by decide +kernel
theorem dX7_task_94 : decode cX7_task 94 = .ok (.iload_n 3, 1) := by decide +kernel
theorem dX7_task_95 : decode cX7_task 95 = .ok (.ireturn, 1) := by decide +kernel
theorem dX7_act_0 : decode cX7_act 0 = .ok (.aload_n 0, 1) := by decide +kernel
theorem dX7_act_1 : decode cX7_act 1 = .ok (.iload_n 1, 1) := by decide +kernel
theorem dX7_act_2 : decode cX7_act 2 = .ok (.invokevirtual 110, 3) := by decide +kernel
theorem dX7_act_5 : decode cX7_act 5 = .ok (.ifCond .eq 24, 3) := by decide +kernel
theorem dX7_act_8 : decode cX7_act 8 = .ok (.iload_n 2, 1) := by decide +kernel
theorem dX7_act_9 : decode cX7_act 9 = .ok (.iconst 0, 1) := by decide +kernel
theorem dX7_act_10 : decode cX7_act 10 = .ok (.bipush 15, 2) := by decide +kernel
theorem dX7_act_12 : decode cX7_act 12 = .ok (.invokestatic 106, 3) := by decide +kernel
theorem dX7_act_15 : decode cX7_act 15 = .ok (.ifCond .eq 14, 3) := by decide +kernel
theorem dX7_act_18 : decode cX7_act 18 = .ok (.iload_n 2, 1) := by decide +kernel
theorem dX7_act_19 : decode cX7_act 19 = .ok (.iconst 2, 1) := by decide +kernel
theorem dX7_act_20 : decode cX7_act 20 = .ok (.if_icmp .ne 11, 3) := by decide +kernel
theorem dX7_act_23 : decode cX7_act 23 = .ok (.iload_n 3, 1) := by decide +kernel
theorem dX7_act_24 : decode cX7_act 24 = .ok (.bipush 40, 2) := by decide +kernel
theorem dX7_act_26 : decode cX7_act 26 = .ok (.if_icmp .le 5, 3) := by decide +kernel
theorem dX7_act_29 : decode cX7_act 29 = .ok (.iconst (-1), 1) := by decide +kernel
theorem dX7_act_30 : decode cX7_act 30 = .ok (.ireturn, 1) := by decide +kernel
theorem dX7_act_31 : decode cX7_act 31 = .ok (.aload_n 0, 1) := by decide +kernel
theorem dX7_act_32 : decode cX7_act 32 = .ok (.getfield 19, 3) := by decide +kernel
theorem dX7_act_35 : decode cX7_act 35 = .ok (.iload_n 1, 1) := by decide +kernel
theorem dX7_act_36 : decode cX7_act 36 = .ok (.iaload, 1) := by decide +kernel
theorem dX7_act_37 : decode cX7_act 37 = .ok (.ifCond .ne 12, 3) := by decide +kernel
theorem dX7_act_40 : decode cX7_act 40 = .ok (.aload_n 0, 1) := by decide +kernel
theorem dX7_act_41 : decode cX7_act 41 = .ok (.getfield 86, 3) := by decide +kernel
theorem dX7_act_44 : decode cX7_act 44 = .ok (.iload_n 1, 1) := by decide +kernel
theorem dX7_act_45 : decode cX7_act 45 = .ok (.baload, 1) := by decide +kernel
theorem dX7_act_46 : decode cX7_act 46 = .ok (.ifCond .eq 6, 3) := by decide +kernel
theorem dX7_act_49 : decode cX7_act 49 = .ok (.bipush (-2), 2) := by decide +kernel
theorem dX7_act_51 : decode cX7_act 51 = .ok (.ireturn, 1) := by decide +kernel
theorem dX7_act_52 : decode cX7_act 52 = .ok (.aload_n 0, 1) := by decide +kernel
theorem dX7_act_53 : decode cX7_act 53 = .ok (.getfield 22, 3) := by decide +kernel
theorem dX7_act_56 : decode cX7_act 56 = .ok (.iload_n 1, 1) := by decide +kernel
theorem dX7_act_57 : decode cX7_act 57 = .ok (.iaload, 1) := by decide +kernel
theorem dX7_act_58 : decode cX7_act 58 = .ok (.bipush 16, 2) := by decide +kernel
theorem dX7_act_60 : decode cX7_act 60 = .ok (.if_icmp .ne 6, 3) := by decide +kernel
theorem dX7_act_63 : decode cX7_act 63 = .ok (.bipush (-3), 2) := by decide +kernel
theorem dX7_act_65 : decode cX7_act 65 = .ok (.ireturn, 1) := by decide +kernel
theorem dX7_act_66 : decode cX7_act 66 = .ok (.bipush 16, 2) := by decide +kernel
theorem dX7_act_68 : decode cX7_act 68 = .ok (.iload_n 1, 1) := by decide +kernel
theorem dX7_act_69 : decode cX7_act 69 = .ok (.imul, 1) := by decide +kernel
theorem dX7_act_70 : decode cX7_act 70 = .ok (.aload_n 0, 1) := by decide +kernel
theorem dX7_act_71 : decode cX7_act 71 = .ok (.getfield 22, 3) := by decide +kernel
theorem dX7_act_74 : decode cX7_act 74 = .ok (.iload_n 1, 1) := by decide +kernel
theorem dX7_act_75 : decode cX7_act 75 = .ok (.iaload, 1) := by decide +kernel
theorem dX7_act_76 : decode cX7_act 76 = .ok (.iadd, 1) := by decide +kernel
theorem dX7_act_77 : decode cX7_act 77 = .ok (.istore 5, 2) := by decide +kernel
theorem dX7_act_79 : decode cX7_act 79 = .ok (.aload_n 0, 1) := by decide +kernel
theorem dX7_act_80 : decode cX7_act 80 = .ok (.getfield 25, 3) := by decide +kernel
theorem dX7_act_83 : decode cX7_act 83 = .ok (.iload 5, 2) := by decide +kernel
theorem dX7_act_85 : decode cX7_act 85 = .ok (.iload_n 2, 1) := by decide +kernel
theorem dX7_act_86 : decode cX7_act 86 = .ok (.iastore, 1) := by decide +kernel
theorem dX7_act_87 : decode cX7_act 87 = .ok (.aload_n 0, 1) := by decide +kernel
theorem dX7_act_88 : decode cX7_act 88 = .ok (.getfield 28, 3) := by decide +kernel
theorem dX7_act_91 : decode cX7_act 91 = .ok (.iload 5, 2) := by decide +kernel
theorem dX7_act_93 : decode cX7_act 93 = .ok (.iload_n 3, 1) := by decide +kernel
theorem dX7_act_94 : decode cX7_act 94 = .ok (.iastore, 1) := by decide +kernel
theorem dX7_act_95 : decode cX7_act 95 = .ok (.aload_n 0, 1) := by decide +kernel
theorem dX7_act_96 : decode cX7_act 96 = .ok (.getfield 31, 3) := by decide +kernel
theorem dX7_act_99 : decode cX7_act 99 = .ok (.iload 5, 2) := by decide +kernel
theorem dX7_act_101 : decode cX7_act 101 = .ok (.iload 4, 2) := by decide +kernel
theorem dX7_act_103 : decode cX7_act 103 = .ok (.iastore, 1) := by decide +kernel
theorem dX7_act_104 : decode cX7_act 104 = .ok (.aload_n 0, 1) := by decide +kernel
theorem dX7_act_105 : decode cX7_act 105 = .ok (.getfield 22, 3) := by decide +kernel
theorem dX7_act_108 : decode cX7_act 108 = .ok (.iload_n 1, 1) := by decide +kernel
theorem dX7_act_109 : decode cX7_act 109 = .ok (.dup2, 1) := by decide +kernel
theorem dX7_act_110 : decode cX7_act 110 = .ok (.iaload, 1) := by decide +kernel
theorem dX7_act_111 : decode cX7_act 111 = .ok (.iconst 1, 1) := by decide +kernel
theorem dX7_act_112 : decode cX7_act 112 = .ok (.iadd, 1) := by decide +kernel
theorem dX7_act_113 : decode cX7_act 113 = .ok (.iastore, 1) := by decide +kernel
theorem dX7_act_114 : decode cX7_act 114 = .ok (.aload_n 0, 1) := by decide +kernel
theorem dX7_act_115 : decode cX7_act 115 = .ok (.getfield 22, 3) := by decide +kernel
theorem dX7_act_118 : decode cX7_act 118 = .ok (.iload_n 1, 1) := by decide +kernel
theorem dX7_act_119 : decode cX7_act 119 = .ok (.iaload, 1) := by decide +kernel
theorem dX7_act_120 : decode cX7_act 120 = .ok (.iconst 1, 1) := by decide +kernel
theorem dX7_act_121 : decode cX7_act 121 = .ok (.isub, 1) := by decide +kernel
theorem dX7_act_122 : decode cX7_act 122 = .ok (.ireturn, 1) := by decide +kernel
theorem dX7_workers_0 : decode cX7_workers 0 = .ok (.iload_n 1, 1) := by decide +kernel
theorem dX7_workers_1 : decode cX7_workers 1 = .ok (.iconst 1, 1) := by decide +kernel
theorem dX7_workers_2 : decode cX7_workers 2 = .ok (.iconst 4, 1) := by decide +kernel
theorem dX7_workers_3 : decode cX7_workers 3 = .ok (.invokestatic 106, 3) := by decide +kernel
theorem dX7_workers_6 : decode cX7_workers 6 = .ok (.ifCond .ne 5, 3) := by decide +kernel
theorem dX7_workers_9 : decode cX7_workers 9 = .ok (.iconst (-1), 1) := by decide +kernel
theorem dX7_workers_10 : decode cX7_workers 10 = .ok (.ireturn, 1) := by decide +kernel
theorem dX7_workers_11 : decode cX7_workers 11 = .ok (.aload_n 0, 1) := by decide +kernel
theorem dX7_workers_12 : decode cX7_workers 12 = .ok (.getfield 96, 3) := by decide +kernel
theorem dX7_workers_15 : decode cX7_workers 15 = .ok (.istore_n 2, 1) := by decide +kernel
theorem dX7_workers_16 : decode cX7_workers 16 = .ok (.aload_n 0, 1) := by decide +kernel
theorem dX7_workers_17 : decode cX7_workers 17 = .ok (.iload_n 1, 1) := by decide +kernel
theorem dX7_workers_18 : decode cX7_workers 18 = .ok (.putfield 96, 3) := by decide +kernel
theorem dX7_workers_21 : decode cX7_workers 21 = .ok (.iload_n 2, 1) := by decide +kernel
theorem dX7_workers_22 : decode cX7_workers 22 = .ok (.ireturn, 1) := by decide +kernel
theorem dX7_rowAct_0 : decode cX7_rowAct 0 = .ok (.iload_n 2, 1) := by decide +kernel
theorem dX7_rowAct_1 : decode cX7_rowAct 1 = .ok (.iconst 2, 1) := by decide +kernel
theorem dX7_rowAct_2 : decode cX7_rowAct 2 = .ok (.if_icmp .ne 46, 3) := by decide +kernel
theorem dX7_rowAct_5 : decode cX7_rowAct 5 = .ok (.iload_n 3, 1) := by decide +kernel
theorem dX7_rowAct_6 : decode cX7_rowAct 6 = .ok (.ifCond .ge 5, 3) := by decide +kernel
theorem dX7_rowAct_9 : decode cX7_rowAct 9 = .ok (.iconst 5, 1) := by decide +kernel
theorem dX7_rowAct_10 : decode cX7_rowAct 10 = .ok (.ireturn, 1) := by decide +kernel
theorem dX7_rowAct_11 : decode cX7_rowAct 11 = .ok (.aload_n 0, 1) := by decide +kernel
theorem dX7_rowAct_12 : decode cX7_rowAct 12 = .ok (.getfield 40, 3) := by decide +kernel
theorem dX7_rowAct_15 : decode cX7_rowAct 15 = .ok (.iload_n 1, 1) := by decide +kernel
theorem dX7_rowAct_16 : decode cX7_rowAct 16 = .ok (.iload_n 3, 1) := by decide +kernel
theorem dX7_rowAct_17 : decode cX7_rowAct 17 = .ok (.iastore, 1) := by decide +kernel
theorem dX7_rowAct_18 : decode cX7_rowAct 18 = .ok (.iconst 0, 1) := by decide +kernel
theorem dX7_rowAct_19 : decode cX7_rowAct 19 = .ok (.istore 4, 2) := by decide +kernel
theorem dX7_rowAct_21 : decode cX7_rowAct 21 = .ok (.iload 4, 2) := by decide +kernel
theorem dX7_rowAct_23 : decode cX7_rowAct 23 = .ok (.iload_n 3, 1) := by decide +kernel
theorem dX7_rowAct_24 : decode cX7_rowAct 24 = .ok (.if_icmp .ge 22, 3) := by decide +kernel
theorem dX7_rowAct_27 : decode cX7_rowAct 27 = .ok (.aload_n 0, 1) := by decide +kernel
theorem dX7_rowAct_28 : decode cX7_rowAct 28 = .ok (.getfield 43, 3) := by decide +kernel
theorem dX7_rowAct_31 : decode cX7_rowAct 31 = .ok (.bipush 100, 2) := by decide +kernel
theorem dX7_rowAct_33 : decode cX7_rowAct 33 = .ok (.iload_n 1, 1) := by decide +kernel
theorem dX7_rowAct_34 : decode cX7_rowAct 34 = .ok (.imul, 1) := by decide +kernel
theorem dX7_rowAct_35 : decode cX7_rowAct 35 = .ok (.iload 4, 2) := by decide +kernel
theorem dX7_rowAct_37 : decode cX7_rowAct 37 = .ok (.iadd, 1) := by decide +kernel
theorem dX7_rowAct_38 : decode cX7_rowAct 38 = .ok (.iconst 0, 1) := by decide +kernel
theorem dX7_rowAct_39 : decode cX7_rowAct 39 = .ok (.iastore, 1) := by decide +kernel
theorem dX7_rowAct_40 : decode cX7_rowAct 40 = .ok (.iinc 4 1, 3) := by decide +kernel
theorem dX7_rowAct_43 : decode cX7_rowAct 43 = .ok (.goto (-22), 3) := by decide +kernel
theorem dX7_rowAct_46 : decode cX7_rowAct 46 = .ok (.iconst 0, 1) := by decide +kernel
theorem dX7_rowAct_47 : decode cX7_rowAct 47 = .ok (.ireturn, 1) := by decide +kernel
theorem dX7_rowAct_48 : decode cX7_rowAct 48 = .ok (.aload_n 0, 1) := by decide +kernel
theorem dX7_rowAct_49 : decode cX7_rowAct 49 = .ok (.getfield 40, 3) := by decide +kernel
theorem dX7_rowAct_52 : decode cX7_rowAct 52 = .ok (.iload_n 1, 1) := by decide +kernel
theorem dX7_rowAct_53 : decode cX7_rowAct 53 = .ok (.iaload, 1) := by decide +kernel
theorem dX7_rowAct_54 : decode cX7_rowAct 54 = .ok (.bipush (-4), 2) := by decide +kernel
theorem dX7_rowAct_56 : decode cX7_rowAct 56 = .ok (.if_icmp .ne 5, 3) := by decide +kernel
theorem dX7_rowAct_59 : decode cX7_rowAct 59 = .ok (.iconst 1, 1) := by decide +kernel
theorem dX7_rowAct_60 : decode cX7_rowAct 60 = .ok (.ireturn, 1) := by decide +kernel
theorem dX7_rowAct_61 : decode cX7_rowAct 61 = .ok (.iload_n 3, 1) := by decide +kernel
theorem dX7_rowAct_62 : decode cX7_rowAct 62 = .ok (.iconst 0, 1) := by decide +kernel
theorem dX7_rowAct_63 : decode cX7_rowAct 63 = .ok (.aload_n 0, 1) := by decide +kernel
theorem dX7_rowAct_64 : decode cX7_rowAct 64 = .ok (.getfield 40, 3) := by decide +kernel
theorem dX7_rowAct_67 : decode cX7_rowAct 67 = .ok (.iload_n 1, 1) := by decide +kernel
theorem dX7_rowAct_68 : decode cX7_rowAct 68 = .ok (.iaload, 1) := by decide +kernel
theorem dX7_rowAct_69 : decode cX7_rowAct 69 = .ok (.iconst 1, 1) := by decide +kernel
theorem dX7_rowAct_70 : decode cX7_rowAct 70 = .ok (.isub, 1) := by decide +kernel
theorem dX7_rowAct_71 : decode cX7_rowAct 71 = .ok (.invokestatic 106, 3) := by decide +kernel
theorem dX7_rowAct_74 : decode cX7_rowAct 74 = .ok (.ifCond .ne 5, 3) := by decide +kernel
theorem dX7_rowAct_77 : decode cX7_rowAct 77 = .ok (.iconst 2, 1) := by decide +kernel
theorem dX7_rowAct_78 : decode cX7_rowAct 78 = .ok (.ireturn, 1) := by decide +kernel
theorem dX7_rowAct_79 : decode cX7_rowAct 79 = .ok (.iload_n 2, 1) := by decide +kernel
theorem dX7_rowAct_80 : decode cX7_rowAct 80 = .ok (.iconst 3, 1) := by decide +kernel
theorem dX7_rowAct_81 : decode cX7_rowAct 81 = .ok (.if_icmp .ne 23, 3) := by decide +kernel
theorem dX7_rowAct_84 : decode cX7_rowAct 84 = .ok (.aload_n 0, 1) := by decide +kernel
theorem dX7_rowAct_85 : decode cX7_rowAct 85 = .ok (.getfield 43, 3) := by decide +kernel
theorem dX7_rowAct_88 : decode cX7_rowAct 88 = .ok (.bipush 100, 2) := by decide +kernel
theorem dX7_rowAct_90 : decode cX7_rowAct 90 = .ok (.iload_n 1, 1) := by decide +kernel
theorem dX7_rowAct_91 : decode cX7_rowAct 91 = .ok (.imul, 1) := by decide +kernel
theorem dX7_rowAct_92 : decode cX7_rowAct 92 = .ok (.iload_n 3, 1) := by decide +kernel
theorem dX7_rowAct_93 : decode cX7_rowAct 93 = .ok (.iadd, 1) := by decide +kernel
theorem dX7_rowAct_94 : decode cX7_rowAct 94 = .ok (.aload_n 0, 1) := by decide +kernel
theorem dX7_rowAct_95 : decode cX7_rowAct 95 = .ok (.getfield 37, 3) := by decide +kernel
theorem dX7_rowAct_98 : decode cX7_rowAct 98 = .ok (.iload_n 1, 1) := by decide +kernel
theorem dX7_rowAct_99 : decode cX7_rowAct 99 = .ok (.iaload, 1) := by decide +kernel
theorem dX7_rowAct_100 : decode cX7_rowAct 100 = .ok (.iastore, 1) := by decide +kernel
theorem dX7_rowAct_101 : decode cX7_rowAct 101 = .ok (.goto 23, 3) := by decide +kernel
theorem dX7_rowAct_104 : decode cX7_rowAct 104 = .ok (.aload_n 0, 1) := by decide +kernel
theorem dX7_rowAct_105 : decode cX7_rowAct 105 = .ok (.getfield 37, 3) := by decide +kernel
theorem dX7_rowAct_108 : decode cX7_rowAct 108 = .ok (.iload_n 1, 1) := by decide +kernel
theorem dX7_rowAct_109 : decode cX7_rowAct 109 = .ok (.dup2, 1) := by decide +kernel
theorem dX7_rowAct_110 : decode cX7_rowAct 110 = .ok (.iaload, 1) := by decide +kernel
theorem dX7_rowAct_111 : decode cX7_rowAct 111 = .ok (.aload_n 0, 1) := by decide +kernel
theorem dX7_rowAct_112 : decode cX7_rowAct 112 = .ok (.getfield 43, 3) := by decide +kernel
theorem dX7_rowAct_115 : decode cX7_rowAct 115 = .ok (.bipush 100, 2) := by decide +kernel
theorem dX7_rowAct_117 : decode cX7_rowAct 117 = .ok (.iload_n 1, 1) := by decide +kernel
theorem dX7_rowAct_118 : decode cX7_rowAct 118 = .ok (.imul, 1) := by decide +kernel
theorem dX7_rowAct_119 : decode cX7_rowAct 119 = .ok (.iload_n 3, 1) := by decide +kernel
theorem dX7_rowAct_120 : decode cX7_rowAct 120 = .ok (.iadd, 1) := by decide +kernel
theorem dX7_rowAct_121 : decode cX7_rowAct 121 = .ok (.iaload, 1) := by decide +kernel
theorem dX7_rowAct_122 : decode cX7_rowAct 122 = .ok (.iadd, 1) := by decide +kernel
theorem dX7_rowAct_123 : decode cX7_rowAct 123 = .ok (.iastore, 1) := by decide +kernel
theorem dX7_rowAct_124 : decode cX7_rowAct 124 = .ok (.iconst 0, 1) := by decide +kernel
theorem dX7_rowAct_125 : decode cX7_rowAct 125 = .ok (.ireturn, 1) := by decide +kernel
theorem dX7_takeAct_0 : decode cX7_takeAct 0 = .ok (.aload_n 0, 1) := by decide +kernel
theorem dX7_takeAct_1 : decode cX7_takeAct 1 = .ok (.getfield 64, 3) := by decide +kernel
theorem dX7_takeAct_4 : decode cX7_takeAct 4 = .ok (.iload_n 1, 1) := by decide +kernel
theorem dX7_takeAct_5 : decode cX7_takeAct 5 = .ok (.iaload, 1) := by decide +kernel
theorem dX7_takeAct_6 : decode cX7_takeAct 6 = .ok (.ifCond .ne 22, 3) := by decide +kernel
theorem dX7_takeAct_9 : decode cX7_takeAct 9 = .ok (.aload_n 0, 1) := by decide +kernel
theorem dX7_takeAct_10 : decode cX7_takeAct 10 = .ok (.getfield 114, 3) := by decide +kernel
theorem dX7_takeAct_13 : decode cX7_takeAct 13 = .ok (.ifCond .eq 6, 3) := by decide +kernel
theorem dX7_takeAct_16 : decode cX7_takeAct 16 = .ok (.bipush 9, 2) := by decide +kernel
theorem dX7_takeAct_18 : decode cX7_takeAct 18 = .ok (.ireturn, 1) := by decide +kernel
theorem dX7_takeAct_19 : decode cX7_takeAct 19 = .ok (.aload_n 0, 1) := by decide +kernel
theorem dX7_takeAct_20 : decode cX7_takeAct 20 = .ok (.getfield 19, 3) := by decide +kernel
theorem dX7_takeAct_23 : decode cX7_takeAct 23 = .ok (.iload_n 1, 1) := by decide +kernel
theorem dX7_takeAct_24 : decode cX7_takeAct 24 = .ok (.iconst 2, 1) := by decide +kernel
theorem dX7_takeAct_25 : decode cX7_takeAct 25 = .ok (.iastore, 1) := by decide +kernel
theorem dX7_takeAct_26 : decode cX7_takeAct 26 = .ok (.iconst 0, 1) := by decide +kernel
theorem dX7_takeAct_27 : decode cX7_takeAct 27 = .ok (.ireturn, 1) := by decide +kernel
theorem dX7_takeAct_28 : decode cX7_takeAct 28 = .ok (.aload_n 0, 1) := by decide +kernel
theorem dX7_takeAct_29 : decode cX7_takeAct 29 = .ok (.getfield 37, 3) := by decide +kernel
theorem dX7_takeAct_32 : decode cX7_takeAct 32 = .ok (.iload_n 1, 1) := by decide +kernel
theorem dX7_takeAct_33 : decode cX7_takeAct 33 = .ok (.dup2, 1) := by decide +kernel
theorem dX7_takeAct_34 : decode cX7_takeAct 34 = .ok (.iaload, 1) := by decide +kernel
theorem dX7_takeAct_35 : decode cX7_takeAct 35 = .ok (.aload_n 0, 1) := by decide +kernel
theorem dX7_takeAct_36 : decode cX7_takeAct 36 = .ok (.getfield 67, 3) := by decide +kernel
theorem dX7_takeAct_39 : decode cX7_takeAct 39 = .ok (.bipush 6, 2) := by decide +kernel
theorem dX7_takeAct_41 : decode cX7_takeAct 41 = .ok (.iload_n 1, 1) := by decide +kernel
theorem dX7_takeAct_42 : decode cX7_takeAct 42 = .ok (.imul, 1) := by decide +kernel
theorem dX7_takeAct_43 : decode cX7_takeAct 43 = .ok (.iaload, 1) := by decide +kernel
theorem dX7_takeAct_44 : decode cX7_takeAct 44 = .ok (.iadd, 1) := by decide +kernel
theorem dX7_takeAct_45 : decode cX7_takeAct 45 = .ok (.iastore, 1) := by decide +kernel
theorem dX7_takeAct_46 : decode cX7_takeAct 46 = .ok (.aload_n 0, 1) := by decide +kernel
theorem dX7_takeAct_47 : decode cX7_takeAct 47 = .ok (.getfield 64, 3) := by decide +kernel
theorem dX7_takeAct_50 : decode cX7_takeAct 50 = .ok (.iload_n 1, 1) := by decide +kernel
theorem dX7_takeAct_51 : decode cX7_takeAct 51 = .ok (.dup2, 1) := by decide +kernel
theorem dX7_takeAct_52 : decode cX7_takeAct 52 = .ok (.iaload, 1) := by decide +kernel
theorem dX7_takeAct_53 : decode cX7_takeAct 53 = .ok (.iconst 1, 1) := by decide +kernel
theorem dX7_takeAct_54 : decode cX7_takeAct 54 = .ok (.isub, 1) := by decide +kernel
theorem dX7_takeAct_55 : decode cX7_takeAct 55 = .ok (.iastore, 1) := by decide +kernel
theorem dX7_takeAct_56 : decode cX7_takeAct 56 = .ok (.iconst 0, 1) := by decide +kernel
theorem dX7_takeAct_57 : decode cX7_takeAct 57 = .ok (.istore_n 2, 1) := by decide +kernel
theorem dX7_takeAct_58 : decode cX7_takeAct 58 = .ok (.iload_n 2, 1) := by decide +kernel
theorem dX7_takeAct_59 : decode cX7_takeAct 59 = .ok (.aload_n 0, 1) := by decide +kernel
theorem dX7_takeAct_60 : decode cX7_takeAct 60 = .ok (.getfield 64, 3) := by decide +kernel
theorem dX7_takeAct_63 : decode cX7_takeAct 63 = .ok (.iload_n 1, 1) := by decide +kernel
theorem dX7_takeAct_64 : decode cX7_takeAct 64 = .ok (.iaload, 1) := by decide +kernel
theorem dX7_takeAct_65 : decode cX7_takeAct 65 = .ok (.if_icmp .ge 33, 3) := by decide +kernel
theorem dX7_takeAct_68 : decode cX7_takeAct 68 = .ok (.aload_n 0, 1) := by decide +kernel
theorem dX7_takeAct_69 : decode cX7_takeAct 69 = .ok (.getfield 67, 3) := by decide +kernel
theorem dX7_takeAct_72 : decode cX7_takeAct 72 = .ok (.bipush 6, 2) := by decide +kernel
theorem dX7_takeAct_74 : decode cX7_takeAct 74 = .ok (.iload_n 1, 1) := by decide +kernel
theorem dX7_takeAct_75 : decode cX7_takeAct 75 = .ok (.imul, 1) := by decide +kernel
theorem dX7_takeAct_76 : decode cX7_takeAct 76 = .ok (.iload_n 2, 1) := by decide +kernel
theorem dX7_takeAct_77 : decode cX7_takeAct 77 = .ok (.iadd, 1) := by decide +kernel
theorem dX7_takeAct_78 : decode cX7_takeAct 78 = .ok (.aload_n 0, 1) := by decide +kernel
theorem dX7_takeAct_79 : decode cX7_takeAct 79 = .ok (.getfield 67, 3) := by decide +kernel
theorem dX7_takeAct_82 : decode cX7_takeAct 82 = .ok (.bipush 6, 2) := by decide +kernel
theorem dX7_takeAct_84 : decode cX7_takeAct 84 = .ok (.iload_n 1, 1) := by decide +kernel
theorem dX7_takeAct_85 : decode cX7_takeAct 85 = .ok (.imul, 1) := by decide +kernel
theorem dX7_takeAct_86 : decode cX7_takeAct 86 = .ok (.iload_n 2, 1) := by decide +kernel
theorem dX7_takeAct_87 : decode cX7_takeAct 87 = .ok (.iadd, 1) := by decide +kernel
theorem dX7_takeAct_88 : decode cX7_takeAct 88 = .ok (.iconst 1, 1) := by decide +kernel
theorem dX7_takeAct_89 : decode cX7_takeAct 89 = .ok (.iadd, 1) := by decide +kernel
theorem dX7_takeAct_90 : decode cX7_takeAct 90 = .ok (.iaload, 1) := by decide +kernel
theorem dX7_takeAct_91 : decode cX7_takeAct 91 = .ok (.iastore, 1) := by decide +kernel
theorem dX7_takeAct_92 : decode cX7_takeAct 92 = .ok (.iinc 2 1, 3) := by decide +kernel
theorem dX7_takeAct_95 : decode cX7_takeAct 95 = .ok (.goto (-37), 3) := by decide +kernel
theorem dX7_takeAct_98 : decode cX7_takeAct 98 = .ok (.iconst 0, 1) := by decide +kernel
theorem dX7_takeAct_99 : decode cX7_takeAct 99 = .ok (.ireturn, 1) := by decide +kernel
theorem dX7_sendAct_0 : decode cX7_sendAct 0 = .ok (.aload_n 0, 1) := by decide +kernel
theorem dX7_sendAct_1 : decode cX7_sendAct 1 = .ok (.iload_n 2, 1) := by decide +kernel
theorem dX7_sendAct_2 : decode cX7_sendAct 2 = .ok (.invokevirtual 110, 3) := by decide +kernel
theorem dX7_sendAct_5 : decode cX7_sendAct 5 = .ok (.ifCond .ne 5, 3) := by decide +kernel
theorem dX7_sendAct_8 : decode cX7_sendAct 8 = .ok (.iconst 2, 1) := by decide +kernel
theorem dX7_sendAct_9 : decode cX7_sendAct 9 = .ok (.ireturn, 1) := by decide +kernel
theorem dX7_sendAct_10 : decode cX7_sendAct 10 = .ok (.aload_n 0, 1) := by decide +kernel
theorem dX7_sendAct_11 : decode cX7_sendAct 11 = .ok (.getfield 19, 3) := by decide +kernel
theorem dX7_sendAct_14 : decode cX7_sendAct 14 = .ok (.iload_n 2, 1) := by decide +kernel
theorem dX7_sendAct_15 : decode cX7_sendAct 15 = .ok (.iaload, 1) := by decide +kernel
theorem dX7_sendAct_16 : decode cX7_sendAct 16 = .ok (.invokestatic 118, 3) := by decide +kernel
theorem dX7_sendAct_19 : decode cX7_sendAct 19 = .ok (.ifCond .eq 15, 3) := by decide +kernel
theorem dX7_sendAct_22 : decode cX7_sendAct 22 = .ok (.aload_n 0, 1) := by decide +kernel
theorem dX7_sendAct_23 : decode cX7_sendAct 23 = .ok (.dup, 1) := by decide +kernel
theorem dX7_sendAct_24 : decode cX7_sendAct 24 = .ok (.getfield 121, 3) := by decide +kernel
theorem dX7_sendAct_27 : decode cX7_sendAct 27 = .ok (.iconst 1, 1) := by decide +kernel
theorem dX7_sendAct_28 : decode cX7_sendAct 28 = .ok (.iadd, 1) := by decide +kernel
theorem dX7_sendAct_29 : decode cX7_sendAct 29 = .ok (.putfield 121, 3) := by decide +kernel
theorem dX7_sendAct_32 : decode cX7_sendAct 32 = .ok (.iconst 0, 1) := by decide +kernel
theorem dX7_sendAct_33 : decode cX7_sendAct 33 = .ok (.ireturn, 1) := by decide +kernel
theorem dX7_sendAct_34 : decode cX7_sendAct 34 = .ok (.aload_n 0, 1) := by decide +kernel
theorem dX7_sendAct_35 : decode cX7_sendAct 35 = .ok (.getfield 64, 3) := by decide +kernel
theorem dX7_sendAct_38 : decode cX7_sendAct 38 = .ok (.iload_n 2, 1) := by decide +kernel
theorem dX7_sendAct_39 : decode cX7_sendAct 39 = .ok (.iaload, 1) := by decide +kernel
theorem dX7_sendAct_40 : decode cX7_sendAct 40 = .ok (.bipush 6, 2) := by decide +kernel
theorem dX7_sendAct_42 : decode cX7_sendAct 42 = .ok (.if_icmp .ne 6, 3) := by decide +kernel
theorem dX7_sendAct_45 : decode cX7_sendAct 45 = .ok (.bipush 7, 2) := by decide +kernel
theorem dX7_sendAct_47 : decode cX7_sendAct 47 = .ok (.ireturn, 1) := by decide +kernel
theorem dX7_sendAct_48 : decode cX7_sendAct 48 = .ok (.aload_n 0, 1) := by decide +kernel
theorem dX7_sendAct_49 : decode cX7_sendAct 49 = .ok (.getfield 67, 3) := by decide +kernel
theorem dX7_sendAct_52 : decode cX7_sendAct 52 = .ok (.bipush 6, 2) := by decide +kernel
theorem dX7_sendAct_54 : decode cX7_sendAct 54 = .ok (.iload_n 2, 1) := by decide +kernel
theorem dX7_sendAct_55 : decode cX7_sendAct 55 = .ok (.imul, 1) := by decide +kernel
theorem dX7_sendAct_56 : decode cX7_sendAct 56 = .ok (.aload_n 0, 1) := by decide +kernel
theorem dX7_sendAct_57 : decode cX7_sendAct 57 = .ok (.getfield 64, 3) := by decide +kernel
theorem dX7_sendAct_60 : decode cX7_sendAct 60 = .ok (.iload_n 2, 1) := by decide +kernel
theorem dX7_sendAct_61 : decode cX7_sendAct 61 = .ok (.iaload, 1) := by decide +kernel
theorem dX7_sendAct_62 : decode cX7_sendAct 62 = .ok (.iadd, 1) := by decide +kernel
theorem dX7_sendAct_63 : decode cX7_sendAct 63 = .ok (.aload_n 0, 1) := by decide +kernel
theorem dX7_sendAct_64 : decode cX7_sendAct 64 = .ok (.getfield 37, 3) := by decide +kernel
theorem dX7_sendAct_67 : decode cX7_sendAct 67 = .ok (.iload_n 1, 1) := by decide +kernel
theorem dX7_sendAct_68 : decode cX7_sendAct 68 = .ok (.iaload, 1) := by decide +kernel
theorem dX7_sendAct_69 : decode cX7_sendAct 69 = .ok (.iload_n 3, 1) := by decide +kernel
theorem dX7_sendAct_70 : decode cX7_sendAct 70 = .ok (.iadd, 1) := by decide +kernel
theorem dX7_sendAct_71 : decode cX7_sendAct 71 = .ok (.iastore, 1) := by decide +kernel
theorem dX7_sendAct_72 : decode cX7_sendAct 72 = .ok (.aload_n 0, 1) := by decide +kernel
theorem dX7_sendAct_73 : decode cX7_sendAct 73 = .ok (.getfield 64, 3) := by decide +kernel
theorem dX7_sendAct_76 : decode cX7_sendAct 76 = .ok (.iload_n 2, 1) := by decide +kernel
theorem dX7_sendAct_77 : decode cX7_sendAct 77 = .ok (.dup2, 1) := by decide +kernel
theorem dX7_sendAct_78 : decode cX7_sendAct 78 = .ok (.iaload, 1) := by decide +kernel
theorem dX7_sendAct_79 : decode cX7_sendAct 79 = .ok (.iconst 1, 1) := by decide +kernel
theorem dX7_sendAct_80 : decode cX7_sendAct 80 = .ok (.iadd, 1) := by decide +kernel
theorem dX7_sendAct_81 : decode cX7_sendAct 81 = .ok (.iastore, 1) := by decide +kernel
theorem dX7_sendAct_82 : decode cX7_sendAct 82 = .ok (.iconst 0, 1) := by decide +kernel
theorem dX7_sendAct_83 : decode cX7_sendAct 83 = .ok (.ireturn, 1) := by decide +kernel
theorem dX7_mark_0 : decode cX7_mark 0 = .ok (.aload_n 0, 1) := by decide +kernel
theorem dX7_mark_1 : decode cX7_mark 1 = .ok (.getfield 46, 3) := by decide +kernel
theorem dX7_mark_4 : decode cX7_mark 4 = .ok (.iload_n 1, 1) := by decide +kernel
theorem dX7_mark_5 : decode cX7_mark 5 = .ok (.aload_n 0, 1) := by decide +kernel
theorem dX7_mark_6 : decode cX7_mark 6 = .ok (.getfield 37, 3) := by decide +kernel
theorem dX7_mark_9 : decode cX7_mark 9 = .ok (.iload_n 1, 1) := by decide +kernel
theorem dX7_mark_10 : decode cX7_mark 10 = .ok (.iaload, 1) := by decide +kernel
theorem dX7_mark_11 : decode cX7_mark 11 = .ok (.iastore, 1) := by decide +kernel
theorem dX7_mark_12 : decode cX7_mark 12 = .ok (.aload_n 0, 1) := by decide +kernel
theorem dX7_mark_13 : decode cX7_mark 13 = .ok (.getfield 49, 3) := by decide +kernel
theorem dX7_mark_16 : decode cX7_mark 16 = .ok (.iload_n 1, 1) := by decide +kernel
theorem dX7_mark_17 : decode cX7_mark 17 = .ok (.aload_n 0, 1) := by decide +kernel
theorem dX7_mark_18 : decode cX7_mark 18 = .ok (.getfield 34, 3) := by decide +kernel
theorem dX7_mark_21 : decode cX7_mark 21 = .ok (.iload_n 1, 1) := by decide +kernel
theorem dX7_mark_22 : decode cX7_mark 22 = .ok (.iaload, 1) := by decide +kernel
theorem dX7_mark_23 : decode cX7_mark 23 = .ok (.iconst 1, 1) := by decide +kernel
theorem dX7_mark_24 : decode cX7_mark 24 = .ok (.iadd, 1) := by decide +kernel
theorem dX7_mark_25 : decode cX7_mark 25 = .ok (.iastore, 1) := by decide +kernel
theorem dX7_mark_26 : decode cX7_mark 26 = .ok (.aload_n 0, 1) := by decide +kernel
theorem dX7_mark_27 : decode cX7_mark 27 = .ok (.getfield 52, 3) := by decide +kernel
theorem dX7_mark_30 : decode cX7_mark 30 = .ok (.iload_n 1, 1) := by decide +kernel
theorem dX7_mark_31 : decode cX7_mark 31 = .ok (.aload_n 0, 1) := by decide +kernel
theorem dX7_mark_32 : decode cX7_mark 32 = .ok (.getfield 40, 3) := by decide +kernel
theorem dX7_mark_35 : decode cX7_mark 35 = .ok (.iload_n 1, 1) := by decide +kernel
theorem dX7_mark_36 : decode cX7_mark 36 = .ok (.iaload, 1) := by decide +kernel
theorem dX7_mark_37 : decode cX7_mark 37 = .ok (.iastore, 1) := by decide +kernel
theorem dX7_mark_38 : decode cX7_mark 38 = .ok (.iconst 0, 1) := by decide +kernel
theorem dX7_mark_39 : decode cX7_mark 39 = .ok (.istore_n 2, 1) := by decide +kernel
theorem dX7_mark_40 : decode cX7_mark 40 = .ok (.iload_n 2, 1) := by decide +kernel
theorem dX7_mark_41 : decode cX7_mark 41 = .ok (.aload_n 0, 1) := by decide +kernel
theorem dX7_mark_42 : decode cX7_mark 42 = .ok (.getfield 40, 3) := by decide +kernel
theorem dX7_mark_45 : decode cX7_mark 45 = .ok (.iload_n 1, 1) := by decide +kernel
theorem dX7_mark_46 : decode cX7_mark 46 = .ok (.iaload, 1) := by decide +kernel
theorem dX7_mark_47 : decode cX7_mark 47 = .ok (.if_icmp .ge 31, 3) := by decide +kernel
theorem dX7_mark_50 : decode cX7_mark 50 = .ok (.aload_n 0, 1) := by decide +kernel
theorem dX7_mark_51 : decode cX7_mark 51 = .ok (.getfield 55, 3) := by decide +kernel
theorem dX7_mark_54 : decode cX7_mark 54 = .ok (.bipush 100, 2) := by decide +kernel
theorem dX7_mark_56 : decode cX7_mark 56 = .ok (.iload_n 1, 1) := by decide +kernel
theorem dX7_mark_57 : decode cX7_mark 57 = .ok (.imul, 1) := by decide +kernel
theorem dX7_mark_58 : decode cX7_mark 58 = .ok (.iload_n 2, 1) := by decide +kernel
theorem dX7_mark_59 : decode cX7_mark 59 = .ok (.iadd, 1) := by decide +kernel
theorem dX7_mark_60 : decode cX7_mark 60 = .ok (.aload_n 0, 1) := by decide +kernel
theorem dX7_mark_61 : decode cX7_mark 61 = .ok (.getfield 43, 3) := by decide +kernel
theorem dX7_mark_64 : decode cX7_mark 64 = .ok (.bipush 100, 2) := by decide +kernel
theorem dX7_mark_66 : decode cX7_mark 66 = .ok (.iload_n 1, 1) := by decide +kernel
theorem dX7_mark_67 : decode cX7_mark 67 = .ok (.imul, 1) := by decide +kernel
theorem dX7_mark_68 : decode cX7_mark 68 = .ok (.iload_n 2, 1) := by decide +kernel
theorem dX7_mark_69 : decode cX7_mark 69 = .ok (.iadd, 1) := by decide +kernel
theorem dX7_mark_70 : decode cX7_mark 70 = .ok (.iaload, 1) := by decide +kernel
theorem dX7_mark_71 : decode cX7_mark 71 = .ok (.iastore, 1) := by decide +kernel
theorem dX7_mark_72 : decode cX7_mark 72 = .ok (.iinc 2 1, 3) := by decide +kernel
theorem dX7_mark_75 : decode cX7_mark 75 = .ok (.goto (-35), 3) := by decide +kernel
theorem dX7_mark_78 : decode cX7_mark 78 = .ok (.return_, 1) := by decide +kernel
theorem dX7_back_0 : decode cX7_back 0 = .ok (.aload_n 0, 1) := by decide +kernel
theorem dX7_back_1 : decode cX7_back 1 = .ok (.getfield 37, 3) := by decide +kernel
theorem dX7_back_4 : decode cX7_back 4 = .ok (.iload_n 1, 1) := by decide +kernel
theorem dX7_back_5 : decode cX7_back 5 = .ok (.aload_n 0, 1) := by decide +kernel
theorem dX7_back_6 : decode cX7_back 6 = .ok (.getfield 46, 3) := by decide +kernel
theorem dX7_back_9 : decode cX7_back 9 = .ok (.iload_n 1, 1) := by decide +kernel
theorem dX7_back_10 : decode cX7_back 10 = .ok (.iaload, 1) := by decide +kernel
theorem dX7_back_11 : decode cX7_back 11 = .ok (.iastore, 1) := by decide +kernel
theorem dX7_back_12 : decode cX7_back 12 = .ok (.aload_n 0, 1) := by decide +kernel
theorem dX7_back_13 : decode cX7_back 13 = .ok (.getfield 34, 3) := by decide +kernel
theorem dX7_back_16 : decode cX7_back 16 = .ok (.iload_n 1, 1) := by decide +kernel
theorem dX7_back_17 : decode cX7_back 17 = .ok (.aload_n 0, 1) := by decide +kernel
theorem dX7_back_18 : decode cX7_back 18 = .ok (.getfield 49, 3) := by decide +kernel
theorem dX7_back_21 : decode cX7_back 21 = .ok (.iload_n 1, 1) := by decide +kernel
theorem dX7_back_22 : decode cX7_back 22 = .ok (.iaload, 1) := by decide +kernel
theorem dX7_back_23 : decode cX7_back 23 = .ok (.iastore, 1) := by decide +kernel
theorem dX7_back_24 : decode cX7_back 24 = .ok (.aload_n 0, 1) := by decide +kernel
theorem dX7_back_25 : decode cX7_back 25 = .ok (.getfield 40, 3) := by decide +kernel
theorem dX7_back_28 : decode cX7_back 28 = .ok (.iload_n 1, 1) := by decide +kernel
theorem dX7_back_29 : decode cX7_back 29 = .ok (.aload_n 0, 1) := by decide +kernel
theorem dX7_back_30 : decode cX7_back 30 = .ok (.getfield 52, 3) := by decide +kernel
theorem dX7_back_33 : decode cX7_back 33 = .ok (.iload_n 1, 1) := by decide +kernel
theorem dX7_back_34 : decode cX7_back 34 = .ok (.iaload, 1) := by decide +kernel
theorem dX7_back_35 : decode cX7_back 35 = .ok (.iastore, 1) := by decide +kernel
theorem dX7_back_36 : decode cX7_back 36 = .ok (.iconst 0, 1) := by decide +kernel
theorem dX7_back_37 : decode cX7_back 37 = .ok (.istore_n 2, 1) := by decide +kernel
theorem dX7_back_38 : decode cX7_back 38 = .ok (.iload_n 2, 1) := by decide +kernel
theorem dX7_back_39 : decode cX7_back 39 = .ok (.aload_n 0, 1) := by decide +kernel
theorem dX7_back_40 : decode cX7_back 40 = .ok (.getfield 40, 3) := by decide +kernel
theorem dX7_back_43 : decode cX7_back 43 = .ok (.iload_n 1, 1) := by decide +kernel
theorem dX7_back_44 : decode cX7_back 44 = .ok (.iaload, 1) := by decide +kernel
theorem dX7_back_45 : decode cX7_back 45 = .ok (.if_icmp .ge 31, 3) := by decide +kernel
theorem dX7_back_48 : decode cX7_back 48 = .ok (.aload_n 0, 1) := by decide +kernel
theorem dX7_back_49 : decode cX7_back 49 = .ok (.getfield 43, 3) := by decide +kernel
theorem dX7_back_52 : decode cX7_back 52 = .ok (.bipush 100, 2) := by decide +kernel
theorem dX7_back_54 : decode cX7_back 54 = .ok (.iload_n 1, 1) := by decide +kernel
theorem dX7_back_55 : decode cX7_back 55 = .ok (.imul, 1) := by decide +kernel
theorem dX7_back_56 : decode cX7_back 56 = .ok (.iload_n 2, 1) := by decide +kernel
theorem dX7_back_57 : decode cX7_back 57 = .ok (.iadd, 1) := by decide +kernel
theorem dX7_back_58 : decode cX7_back 58 = .ok (.aload_n 0, 1) := by decide +kernel
theorem dX7_back_59 : decode cX7_back 59 = .ok (.getfield 55, 3) := by decide +kernel
theorem dX7_back_62 : decode cX7_back 62 = .ok (.bipush 100, 2) := by decide +kernel
theorem dX7_back_64 : decode cX7_back 64 = .ok (.iload_n 1, 1) := by decide +kernel
theorem dX7_back_65 : decode cX7_back 65 = .ok (.imul, 1) := by decide +kernel
theorem dX7_back_66 : decode cX7_back 66 = .ok (.iload_n 2, 1) := by decide +kernel
theorem dX7_back_67 : decode cX7_back 67 = .ok (.iadd, 1) := by decide +kernel
theorem dX7_back_68 : decode cX7_back 68 = .ok (.iaload, 1) := by decide +kernel
theorem dX7_back_69 : decode cX7_back 69 = .ok (.iastore, 1) := by decide +kernel
theorem dX7_back_70 : decode cX7_back 70 = .ok (.iinc 2 1, 3) := by decide +kernel
theorem dX7_back_73 : decode cX7_back 73 = .ok (.goto (-35), 3) := by decide +kernel
theorem dX7_back_76 : decode cX7_back 76 = .ok (.return_, 1) := by decide +kernel
theorem dX7_boxAct_0 : decode cX7_boxAct 0 = .ok (.iload_n 2, 1) := by decide +kernel
theorem dX7_boxAct_1 : decode cX7_boxAct 1 = .ok (.bipush 10, 2) := by decide +kernel
theorem dX7_boxAct_3 : decode cX7_boxAct 3 = .ok (.if_icmp .ne 63, 3) := by decide +kernel
theorem dX7_boxAct_6 : decode cX7_boxAct 6 = .ok (.aload_n 0, 1) := by decide +kernel
theorem dX7_boxAct_7 : decode cX7_boxAct 7 = .ok (.getfield 58, 3) := by decide +kernel
theorem dX7_boxAct_10 : decode cX7_boxAct 10 = .ok (.iload_n 1, 1) := by decide +kernel
theorem dX7_boxAct_11 : decode cX7_boxAct 11 = .ok (.iload_n 3, 1) := by decide +kernel
theorem dX7_boxAct_12 : decode cX7_boxAct 12 = .ok (.ifCond .eq 8, 3) := by decide +kernel
theorem dX7_boxAct_15 : decode cX7_boxAct 15 = .ok (.iload_n 3, 1) := by decide +kernel
theorem dX7_boxAct_16 : decode cX7_boxAct 16 = .ok (.iconst 1, 1) := by decide +kernel
theorem dX7_boxAct_17 : decode cX7_boxAct 17 = .ok (.if_icmp .ne 7, 3) := by decide +kernel
theorem dX7_boxAct_20 : decode cX7_boxAct 20 = .ok (.iload_n 3, 1) := by decide +kernel
theorem dX7_boxAct_21 : decode cX7_boxAct 21 = .ok (.goto 5, 3) := by decide +kernel
theorem dX7_boxAct_24 : decode cX7_boxAct 24 = .ok (.bipush (-4), 2) := by decide +kernel
theorem dX7_boxAct_26 : decode cX7_boxAct 26 = .ok (.iastore, 1) := by decide +kernel
theorem dX7_boxAct_27 : decode cX7_boxAct 27 = .ok (.iconst 0, 1) := by decide +kernel
theorem dX7_boxAct_28 : decode cX7_boxAct 28 = .ok (.istore 5, 2) := by decide +kernel
theorem dX7_boxAct_30 : decode cX7_boxAct 30 = .ok (.iload 5, 2) := by decide +kernel
theorem dX7_boxAct_32 : decode cX7_boxAct 32 = .ok (.iconst 3, 1) := by decide +kernel
theorem dX7_boxAct_33 : decode cX7_boxAct 33 = .ok (.if_icmp .ge 31, 3) := by decide +kernel
theorem dX7_boxAct_36 : decode cX7_boxAct 36 = .ok (.aload_n 0, 1) := by decide +kernel
theorem dX7_boxAct_37 : decode cX7_boxAct 37 = .ok (.getfield 61, 3) := by decide +kernel
theorem dX7_boxAct_40 : decode cX7_boxAct 40 = .ok (.iconst 3, 1) := by decide +kernel
theorem dX7_boxAct_41 : decode cX7_boxAct 41 = .ok (.iload_n 1, 1) := by decide +kernel
theorem dX7_boxAct_42 : decode cX7_boxAct 42 = .ok (.imul, 1) := by decide +kernel
theorem dX7_boxAct_43 : decode cX7_boxAct 43 = .ok (.iload 5, 2) := by decide +kernel
theorem dX7_boxAct_45 : decode cX7_boxAct 45 = .ok (.iadd, 1) := by decide +kernel
theorem dX7_boxAct_46 : decode cX7_boxAct 46 = .ok (.iload_n 3, 1) := by decide +kernel
theorem dX7_boxAct_47 : decode cX7_boxAct 47 = .ok (.iconst 1, 1) := by decide +kernel
theorem dX7_boxAct_48 : decode cX7_boxAct 48 = .ok (.if_icmp .ne 8, 3) := by decide +kernel
theorem dX7_boxAct_51 : decode cX7_boxAct 51 = .ok (.bipush (-4), 2) := by decide +kernel
theorem dX7_boxAct_53 : decode cX7_boxAct 53 = .ok (.goto 4, 3) := by decide +kernel
theorem dX7_boxAct_56 : decode cX7_boxAct 56 = .ok (.iconst 0, 1) := by decide +kernel
theorem dX7_boxAct_57 : decode cX7_boxAct 57 = .ok (.iastore, 1) := by decide +kernel
theorem dX7_boxAct_58 : decode cX7_boxAct 58 = .ok (.iinc 5 1, 3) := by decide +kernel
theorem dX7_boxAct_61 : decode cX7_boxAct 61 = .ok (.goto (-31), 3) := by decide +kernel
theorem dX7_boxAct_64 : decode cX7_boxAct 64 = .ok (.iconst 0, 1) := by decide +kernel
theorem dX7_boxAct_65 : decode cX7_boxAct 65 = .ok (.ireturn, 1) := by decide +kernel
theorem dX7_boxAct_66 : decode cX7_boxAct 66 = .ok (.iload_n 2, 1) := by decide +kernel
theorem dX7_boxAct_67 : decode cX7_boxAct 67 = .ok (.bipush 12, 2) := by decide +kernel
theorem dX7_boxAct_69 : decode cX7_boxAct 69 = .ok (.if_icmp .ne 14, 3) := by decide +kernel
theorem dX7_boxAct_72 : decode cX7_boxAct 72 = .ok (.aload_n 0, 1) := by decide +kernel
theorem dX7_boxAct_73 : decode cX7_boxAct 73 = .ok (.iload 4, 2) := by decide +kernel
theorem dX7_boxAct_75 : decode cX7_boxAct 75 = .ok (.invokevirtual 110, 3) := by decide +kernel
theorem dX7_boxAct_78 : decode cX7_boxAct 78 = .ok (.ifCond .ne 5, 3) := by decide +kernel
theorem dX7_boxAct_81 : decode cX7_boxAct 81 = .ok (.iconst 2, 1) := by decide +kernel
theorem dX7_boxAct_82 : decode cX7_boxAct 82 = .ok (.ireturn, 1) := by decide +kernel
theorem dX7_boxAct_83 : decode cX7_boxAct 83 = .ok (.iload_n 2, 1) := by decide +kernel
theorem dX7_boxAct_84 : decode cX7_boxAct 84 = .ok (.bipush 11, 2) := by decide +kernel
theorem dX7_boxAct_86 : decode cX7_boxAct 86 = .ok (.if_icmp .ne 7, 3) := by decide +kernel
theorem dX7_boxAct_89 : decode cX7_boxAct 89 = .ok (.iconst 0, 1) := by decide +kernel
theorem dX7_boxAct_90 : decode cX7_boxAct 90 = .ok (.goto 4, 3) := by decide +kernel
theorem dX7_boxAct_93 : decode cX7_boxAct 93 = .ok (.iconst 1, 1) := by decide +kernel
theorem dX7_boxAct_94 : decode cX7_boxAct 94 = .ok (.istore 5, 2) := by decide +kernel
theorem dX7_boxAct_96 : decode cX7_boxAct 96 = .ok (.aload_n 0, 1) := by decide +kernel
theorem dX7_boxAct_97 : decode cX7_boxAct 97 = .ok (.getfield 58, 3) := by decide +kernel
theorem dX7_boxAct_100 : decode cX7_boxAct 100 = .ok (.iload_n 1, 1) := by decide +kernel
theorem dX7_boxAct_101 : decode cX7_boxAct 101 = .ok (.iaload, 1) := by decide +kernel
theorem dX7_boxAct_102 : decode cX7_boxAct 102 = .ok (.iconst 1, 1) := by decide +kernel
theorem dX7_boxAct_103 : decode cX7_boxAct 103 = .ok (.iload 5, 2) := by decide +kernel
theorem dX7_boxAct_105 : decode cX7_boxAct 105 = .ok (.isub, 1) := by decide +kernel
theorem dX7_boxAct_106 : decode cX7_boxAct 106 = .ok (.if_icmp .ne 5, 3) := by decide +kernel
theorem dX7_boxAct_109 : decode cX7_boxAct 109 = .ok (.iconst 4, 1) := by decide +kernel
theorem dX7_boxAct_110 : decode cX7_boxAct 110 = .ok (.ireturn, 1) := by decide +kernel
theorem dX7_boxAct_111 : decode cX7_boxAct 111 = .ok (.aload_n 0, 1) := by decide +kernel
theorem dX7_boxAct_112 : decode cX7_boxAct 112 = .ok (.getfield 58, 3) := by decide +kernel
theorem dX7_boxAct_115 : decode cX7_boxAct 115 = .ok (.iload_n 1, 1) := by decide +kernel
theorem dX7_boxAct_116 : decode cX7_boxAct 116 = .ok (.iaload, 1) := by decide +kernel
theorem dX7_boxAct_117 : decode cX7_boxAct 117 = .ok (.bipush (-4), 2) := by decide +kernel
theorem dX7_boxAct_119 : decode cX7_boxAct 119 = .ok (.if_icmp .ne 5, 3) := by decide +kernel
theorem dX7_boxAct_122 : decode cX7_boxAct 122 = .ok (.iconst 1, 1) := by decide +kernel
theorem dX7_boxAct_123 : decode cX7_boxAct 123 = .ok (.ireturn, 1) := by decide +kernel
theorem dX7_boxAct_124 : decode cX7_boxAct 124 = .ok (.iload_n 3, 1) := by decide +kernel
theorem dX7_boxAct_125 : decode cX7_boxAct 125 = .ok (.iconst 0, 1) := by decide +kernel
theorem dX7_boxAct_126 : decode cX7_boxAct 126 = .ok (.iconst 2, 1) := by decide +kernel
theorem dX7_boxAct_127 : decode cX7_boxAct 127 = .ok (.invokestatic 106, 3) := by decide +kernel
theorem dX7_boxAct_130 : decode cX7_boxAct 130 = .ok (.ifCond .ne 5, 3) := by decide +kernel
theorem dX7_boxAct_133 : decode cX7_boxAct 133 = .ok (.iconst 2, 1) := by decide +kernel
theorem dX7_boxAct_134 : decode cX7_boxAct 134 = .ok (.ireturn, 1) := by decide +kernel
theorem dX7_boxAct_135 : decode cX7_boxAct 135 = .ok (.iload_n 2, 1) := by decide +kernel
theorem dX7_boxAct_136 : decode cX7_boxAct 136 = .ok (.bipush 12, 2) := by decide +kernel
theorem dX7_boxAct_138 : decode cX7_boxAct 138 = .ok (.if_icmp .ne 18, 3) := by decide +kernel
theorem dX7_boxAct_141 : decode cX7_boxAct 141 = .ok (.aload_n 0, 1) := by decide +kernel
theorem dX7_boxAct_142 : decode cX7_boxAct 142 = .ok (.getfield 61, 3) := by decide +kernel
theorem dX7_boxAct_145 : decode cX7_boxAct 145 = .ok (.iconst 3, 1) := by decide +kernel
theorem dX7_boxAct_146 : decode cX7_boxAct 146 = .ok (.iload_n 1, 1) := by decide +kernel
theorem dX7_boxAct_147 : decode cX7_boxAct 147 = .ok (.imul, 1) := by decide +kernel
theorem dX7_boxAct_148 : decode cX7_boxAct 148 = .ok (.iload_n 3, 1) := by decide +kernel
theorem dX7_boxAct_149 : decode cX7_boxAct 149 = .ok (.iadd, 1) := by decide +kernel
theorem dX7_boxAct_150 : decode cX7_boxAct 150 = .ok (.iload 4, 2) := by decide +kernel
theorem dX7_boxAct_152 : decode cX7_boxAct 152 = .ok (.iastore, 1) := by decide +kernel
theorem dX7_boxAct_153 : decode cX7_boxAct 153 = .ok (.goto 65, 3) := by decide +kernel
theorem dX7_boxAct_156 : decode cX7_boxAct 156 = .ok (.iload_n 2, 1) := by decide +kernel
theorem dX7_boxAct_157 : decode cX7_boxAct 157 = .ok (.bipush 11, 2) := by decide +kernel
theorem dX7_boxAct_159 : decode cX7_boxAct 159 = .ok (.if_icmp .ne 22, 3) := by decide +kernel
theorem dX7_boxAct_162 : decode cX7_boxAct 162 = .ok (.aload_n 0, 1) := by decide +kernel
theorem dX7_boxAct_163 : decode cX7_boxAct 163 = .ok (.getfield 61, 3) := by decide +kernel
theorem dX7_boxAct_166 : decode cX7_boxAct 166 = .ok (.iconst 3, 1) := by decide +kernel
theorem dX7_boxAct_167 : decode cX7_boxAct 167 = .ok (.iload_n 1, 1) := by decide +kernel
theorem dX7_boxAct_168 : decode cX7_boxAct 168 = .ok (.imul, 1) := by decide +kernel
theorem dX7_boxAct_169 : decode cX7_boxAct 169 = .ok (.iload_n 3, 1) := by decide +kernel
theorem dX7_boxAct_170 : decode cX7_boxAct 170 = .ok (.iadd, 1) := by decide +kernel
theorem dX7_boxAct_171 : decode cX7_boxAct 171 = .ok (.aload_n 0, 1) := by decide +kernel
theorem dX7_boxAct_172 : decode cX7_boxAct 172 = .ok (.getfield 37, 3) := by decide +kernel
theorem dX7_boxAct_175 : decode cX7_boxAct 175 = .ok (.iload_n 1, 1) := by decide +kernel
theorem dX7_boxAct_176 : decode cX7_boxAct 176 = .ok (.iaload, 1) := by decide +kernel
theorem dX7_boxAct_177 : decode cX7_boxAct 177 = .ok (.iastore, 1) := by decide +kernel
theorem dX7_boxAct_178 : decode cX7_boxAct 178 = .ok (.goto 40, 3) := by decide +kernel
theorem dX7_boxAct_181 : decode cX7_boxAct 181 = .ok (.aload_n 0, 1) := by decide +kernel
theorem dX7_boxAct_182 : decode cX7_boxAct 182 = .ok (.getfield 61, 3) := by decide +kernel
theorem dX7_boxAct_185 : decode cX7_boxAct 185 = .ok (.iconst 3, 1) := by decide +kernel
theorem dX7_boxAct_186 : decode cX7_boxAct 186 = .ok (.iload_n 1, 1) := by decide +kernel
theorem dX7_boxAct_187 : decode cX7_boxAct 187 = .ok (.imul, 1) := by decide +kernel
theorem dX7_boxAct_188 : decode cX7_boxAct 188 = .ok (.iload_n 3, 1) := by decide +kernel
theorem dX7_boxAct_189 : decode cX7_boxAct 189 = .ok (.iadd, 1) := by decide +kernel
theorem dX7_boxAct_190 : decode cX7_boxAct 190 = .ok (.iaload, 1) := by decide +kernel
theorem dX7_boxAct_191 : decode cX7_boxAct 191 = .ok (.istore 6, 2) := by decide +kernel
theorem dX7_boxAct_193 : decode cX7_boxAct 193 = .ok (.iload 6, 2) := by decide +kernel
theorem dX7_boxAct_195 : decode cX7_boxAct 195 = .ok (.bipush (-4), 2) := by decide +kernel
theorem dX7_boxAct_197 : decode cX7_boxAct 197 = .ok (.if_icmp .ne 5, 3) := by decide +kernel
theorem dX7_boxAct_200 : decode cX7_boxAct 200 = .ok (.iconst 1, 1) := by decide +kernel
theorem dX7_boxAct_201 : decode cX7_boxAct 201 = .ok (.ireturn, 1) := by decide +kernel
theorem dX7_boxAct_202 : decode cX7_boxAct 202 = .ok (.aload_n 0, 1) := by decide +kernel
theorem dX7_boxAct_203 : decode cX7_boxAct 203 = .ok (.getfield 37, 3) := by decide +kernel
theorem dX7_boxAct_206 : decode cX7_boxAct 206 = .ok (.iload_n 1, 1) := by decide +kernel
theorem dX7_boxAct_207 : decode cX7_boxAct 207 = .ok (.dup2, 1) := by decide +kernel
theorem dX7_boxAct_208 : decode cX7_boxAct 208 = .ok (.iaload, 1) := by decide +kernel
theorem dX7_boxAct_209 : decode cX7_boxAct 209 = .ok (.aload_n 0, 1) := by decide +kernel
theorem dX7_boxAct_210 : decode cX7_boxAct 210 = .ok (.getfield 37, 3) := by decide +kernel
theorem dX7_boxAct_213 : decode cX7_boxAct 213 = .ok (.iload 6, 2) := by decide +kernel
theorem dX7_boxAct_215 : decode cX7_boxAct 215 = .ok (.iaload, 1) := by decide +kernel
theorem dX7_boxAct_216 : decode cX7_boxAct 216 = .ok (.iadd, 1) := by decide +kernel
theorem dX7_boxAct_217 : decode cX7_boxAct 217 = .ok (.iastore, 1) := by decide +kernel
theorem dX7_boxAct_218 : decode cX7_boxAct 218 = .ok (.iconst 0, 1) := by decide +kernel
theorem dX7_boxAct_219 : decode cX7_boxAct 219 = .ok (.ireturn, 1) := by decide +kernel
theorem dX7_copyAct_0 : decode cX7_copyAct 0 = .ok (.aload_n 0, 1) := by decide +kernel
theorem dX7_copyAct_1 : decode cX7_copyAct 1 = .ok (.getfield 40, 3) := by decide +kernel
theorem dX7_copyAct_4 : decode cX7_copyAct 4 = .ok (.iload_n 1, 1) := by decide +kernel
theorem dX7_copyAct_5 : decode cX7_copyAct 5 = .ok (.iaload, 1) := by decide +kernel
theorem dX7_copyAct_6 : decode cX7_copyAct 6 = .ok (.bipush (-4), 2) := by decide +kernel
theorem dX7_copyAct_8 : decode cX7_copyAct 8 = .ok (.if_icmp .eq 14, 3) := by decide +kernel
theorem dX7_copyAct_11 : decode cX7_copyAct 11 = .ok (.aload_n 0, 1) := by decide +kernel
theorem dX7_copyAct_12 : decode cX7_copyAct 12 = .ok (.getfield 58, 3) := by decide +kernel
theorem dX7_copyAct_15 : decode cX7_copyAct 15 = .ok (.iload_n 1, 1) := by decide +kernel
theorem dX7_copyAct_16 : decode cX7_copyAct 16 = .ok (.iaload, 1) := by decide +kernel
theorem dX7_copyAct_17 : decode cX7_copyAct 17 = .ok (.bipush (-4), 2) := by decide +kernel
theorem dX7_copyAct_19 : decode cX7_copyAct 19 = .ok (.if_icmp .ne 5, 3) := by decide +kernel
theorem dX7_copyAct_22 : decode cX7_copyAct 22 = .ok (.iconst 1, 1) := by decide +kernel
theorem dX7_copyAct_23 : decode cX7_copyAct 23 = .ok (.ireturn, 1) := by decide +kernel
theorem dX7_copyAct_24 : decode cX7_copyAct 24 = .ok (.aload_n 0, 1) := by decide +kernel
theorem dX7_copyAct_25 : decode cX7_copyAct 25 = .ok (.getfield 58, 3) := by decide +kernel
theorem dX7_copyAct_28 : decode cX7_copyAct 28 = .ok (.iload_n 1, 1) := by decide +kernel
theorem dX7_copyAct_29 : decode cX7_copyAct 29 = .ok (.iaload, 1) := by decide +kernel
theorem dX7_copyAct_30 : decode cX7_copyAct 30 = .ok (.iconst 1, 1) := by decide +kernel
theorem dX7_copyAct_31 : decode cX7_copyAct 31 = .ok (.if_icmp .ne 5, 3) := by decide +kernel
theorem dX7_copyAct_34 : decode cX7_copyAct 34 = .ok (.iconst 3, 1) := by decide +kernel
theorem dX7_copyAct_35 : decode cX7_copyAct 35 = .ok (.ireturn, 1) := by decide +kernel
theorem dX7_copyAct_36 : decode cX7_copyAct 36 = .ok (.iload_n 2, 1) := by decide +kernel
theorem dX7_copyAct_37 : decode cX7_copyAct 37 = .ok (.ifCond .lt 18, 3) := by decide +kernel
theorem dX7_copyAct_40 : decode cX7_copyAct 40 = .ok (.iload_n 2, 1) := by decide +kernel
theorem dX7_copyAct_41 : decode cX7_copyAct 41 = .ok (.iconst 3, 1) := by decide +kernel
theorem dX7_copyAct_42 : decode cX7_copyAct 42 = .ok (.if_icmp .gt 13, 3) := by decide +kernel
theorem dX7_copyAct_45 : decode cX7_copyAct 45 = .ok (.iload_n 2, 1) := by decide +kernel
theorem dX7_copyAct_46 : decode cX7_copyAct 46 = .ok (.aload_n 0, 1) := by decide +kernel
theorem dX7_copyAct_47 : decode cX7_copyAct 47 = .ok (.getfield 40, 3) := by decide +kernel
theorem dX7_copyAct_50 : decode cX7_copyAct 50 = .ok (.iload_n 1, 1) := by decide +kernel
theorem dX7_copyAct_51 : decode cX7_copyAct 51 = .ok (.iaload, 1) := by decide +kernel
theorem dX7_copyAct_52 : decode cX7_copyAct 52 = .ok (.if_icmp .le 5, 3) := by decide +kernel
theorem dX7_copyAct_55 : decode cX7_copyAct 55 = .ok (.iconst 2, 1) := by decide +kernel
theorem dX7_copyAct_56 : decode cX7_copyAct 56 = .ok (.ireturn, 1) := by decide +kernel
theorem dX7_copyAct_57 : decode cX7_copyAct 57 = .ok (.iconst 0, 1) := by decide +kernel
theorem dX7_copyAct_58 : decode cX7_copyAct 58 = .ok (.istore_n 3, 1) := by decide +kernel
theorem dX7_copyAct_59 : decode cX7_copyAct 59 = .ok (.iload_n 3, 1) := by decide +kernel
theorem dX7_copyAct_60 : decode cX7_copyAct 60 = .ok (.iload_n 2, 1) := by decide +kernel
theorem dX7_copyAct_61 : decode cX7_copyAct 61 = .ok (.if_icmp .ge 30, 3) := by decide +kernel
theorem dX7_copyAct_64 : decode cX7_copyAct 64 = .ok (.aload_n 0, 1) := by decide +kernel
theorem dX7_copyAct_65 : decode cX7_copyAct 65 = .ok (.getfield 61, 3) := by decide +kernel
theorem dX7_copyAct_68 : decode cX7_copyAct 68 = .ok (.iconst 3, 1) := by decide +kernel
theorem dX7_copyAct_69 : decode cX7_copyAct 69 = .ok (.iload_n 1, 1) := by decide +kernel
theorem dX7_copyAct_70 : decode cX7_copyAct 70 = .ok (.imul, 1) := by decide +kernel
theorem dX7_copyAct_71 : decode cX7_copyAct 71 = .ok (.iload_n 3, 1) := by decide +kernel
theorem dX7_copyAct_72 : decode cX7_copyAct 72 = .ok (.iadd, 1) := by decide +kernel
theorem dX7_copyAct_73 : decode cX7_copyAct 73 = .ok (.aload_n 0, 1) := by decide +kernel
theorem dX7_copyAct_74 : decode cX7_copyAct 74 = .ok (.getfield 43, 3) := by decide +kernel
theorem dX7_copyAct_77 : decode cX7_copyAct 77 = .ok (.bipush 100, 2) := by decide +kernel
theorem dX7_copyAct_79 : decode cX7_copyAct 79 = .ok (.iload_n 1, 1) := by decide +kernel
theorem dX7_copyAct_80 : decode cX7_copyAct 80 = .ok (.imul, 1) := by decide +kernel
theorem dX7_copyAct_81 : decode cX7_copyAct 81 = .ok (.iload_n 3, 1) := by decide +kernel
theorem dX7_copyAct_82 : decode cX7_copyAct 82 = .ok (.iadd, 1) := by decide +kernel
theorem dX7_copyAct_83 : decode cX7_copyAct 83 = .ok (.iaload, 1) := by decide +kernel
theorem dX7_copyAct_84 : decode cX7_copyAct 84 = .ok (.iastore, 1) := by decide +kernel
theorem dX7_copyAct_85 : decode cX7_copyAct 85 = .ok (.iinc 3 1, 3) := by decide +kernel
theorem dX7_copyAct_88 : decode cX7_copyAct 88 = .ok (.goto (-29), 3) := by decide +kernel
theorem dX7_copyAct_91 : decode cX7_copyAct 91 = .ok (.iconst 0, 1) := by decide +kernel
theorem dX7_copyAct_92 : decode cX7_copyAct 92 = .ok (.ireturn, 1) := by decide +kernel
theorem dX7_simple_0 : decode cX7_simple 0 = .ok (.aload_n 0, 1) := by decide +kernel
theorem dX7_simple_1 : decode cX7_simple 1 = .ok (.getfield 25, 3) := by decide +kernel
theorem dX7_simple_4 : decode cX7_simple 4 = .ok (.iload_n 2, 1) := by decide +kernel
theorem dX7_simple_5 : decode cX7_simple 5 = .ok (.iaload, 1) := by decide +kernel
theorem dX7_simple_6 : decode cX7_simple 6 = .ok (.istore_n 3, 1) := by decide +kernel
theorem dX7_simple_7 : decode cX7_simple 7 = .ok (.aload_n 0, 1) := by decide +kernel
theorem dX7_simple_8 : decode cX7_simple 8 = .ok (.getfield 28, 3) := by decide +kernel
theorem dX7_simple_11 : decode cX7_simple 11 = .ok (.iload_n 2, 1) := by decide +kernel
theorem dX7_simple_12 : decode cX7_simple 12 = .ok (.iaload, 1) := by decide +kernel
theorem dX7_simple_13 : decode cX7_simple 13 = .ok (.istore 4, 2) := by decide +kernel
theorem dX7_simple_15 : decode cX7_simple 15 = .ok (.aload_n 0, 1) := by decide +kernel
theorem dX7_simple_16 : decode cX7_simple 16 = .ok (.getfield 31, 3) := by decide +kernel
theorem dX7_simple_19 : decode cX7_simple 19 = .ok (.iload_n 2, 1) := by decide +kernel
theorem dX7_simple_20 : decode cX7_simple 20 = .ok (.iaload, 1) := by decide +kernel
theorem dX7_simple_21 : decode cX7_simple 21 = .ok (.istore 5, 2) := by decide +kernel
theorem dX7_simple_23 : decode cX7_simple 23 = .ok (.iload_n 3, 1) := by decide +kernel
theorem dX7_simple_24 : decode cX7_simple 24 = .ok (.tableswitch 223 0 15 #[80, 120, 145, 145, 145, 154, 160, 170, 190, 223, 223, 223, 223, 223, 197, 215], 80) := by decide +kernel
theorem dX7_simple_104 : decode cX7_simple 104 = .ok (.aload_n 0, 1) := by decide +kernel
theorem dX7_simple_105 : decode cX7_simple 105 = .ok (.getfield 37, 3) := by decide +kernel
theorem dX7_simple_108 : decode cX7_simple 108 = .ok (.iload_n 1, 1) := by decide +kernel
theorem dX7_simple_109 : decode cX7_simple 109 = .ok (.dup2, 1) := by decide +kernel
theorem dX7_simple_110 : decode cX7_simple 110 = .ok (.iaload, 1) := by decide +kernel
theorem dX7_simple_111 : decode cX7_simple 111 = .ok (.aload_n 0, 1) := by decide +kernel
theorem dX7_simple_112 : decode cX7_simple 112 = .ok (.getfield 7, 3) := by decide +kernel
theorem dX7_simple_115 : decode cX7_simple 115 = .ok (.iload_n 1, 1) := by decide +kernel
theorem dX7_simple_116 : decode cX7_simple 116 = .ok (.iaload, 1) := by decide +kernel
theorem dX7_simple_117 : decode cX7_simple 117 = .ok (.iconst 1, 1) := by decide +kernel
theorem dX7_simple_118 : decode cX7_simple 118 = .ok (.if_icmp .eq 13, 3) := by decide +kernel
theorem dX7_simple_121 : decode cX7_simple 121 = .ok (.aload_n 0, 1) := by decide +kernel
theorem dX7_simple_122 : decode cX7_simple 122 = .ok (.getfield 7, 3) := by decide +kernel
theorem dX7_simple_125 : decode cX7_simple 125 = .ok (.iload_n 1, 1) := by decide +kernel
theorem dX7_simple_126 : decode cX7_simple 126 = .ok (.iaload, 1) := by decide +kernel
theorem dX7_simple_127 : decode cX7_simple 127 = .ok (.iconst 4, 1) := by decide +kernel
theorem dX7_simple_128 : decode cX7_simple 128 = .ok (.if_icmp .ne 10, 3) := by decide +kernel
theorem dX7_simple_131 : decode cX7_simple 131 = .ok (.iconst 2, 1) := by decide +kernel
theorem dX7_simple_132 : decode cX7_simple 132 = .ok (.iload 4, 2) := by decide +kernel
theorem dX7_simple_134 : decode cX7_simple 134 = .ok (.imul, 1) := by decide +kernel
theorem dX7_simple_135 : decode cX7_simple 135 = .ok (.goto 5, 3) := by decide +kernel
theorem dX7_simple_138 : decode cX7_simple 138 = .ok (.iload 4, 2) := by decide +kernel
theorem dX7_simple_140 : decode cX7_simple 140 = .ok (.iadd, 1) := by decide +kernel
theorem dX7_simple_141 : decode cX7_simple 141 = .ok (.iastore, 1) := by decide +kernel
theorem dX7_simple_142 : decode cX7_simple 142 = .ok (.iconst 0, 1) := by decide +kernel
theorem dX7_simple_143 : decode cX7_simple 143 = .ok (.ireturn, 1) := by decide +kernel
theorem dX7_simple_144 : decode cX7_simple 144 = .ok (.iload 4, 2) := by decide +kernel
theorem dX7_simple_146 : decode cX7_simple 146 = .ok (.ifCond .ne 6, 3) := by decide +kernel
theorem dX7_simple_149 : decode cX7_simple 149 = .ok (.bipush 6, 2) := by decide +kernel
theorem dX7_simple_151 : decode cX7_simple 151 = .ok (.ireturn, 1) := by decide +kernel
theorem dX7_simple_152 : decode cX7_simple 152 = .ok (.aload_n 0, 1) := by decide +kernel
theorem dX7_simple_153 : decode cX7_simple 153 = .ok (.getfield 37, 3) := by decide +kernel
theorem dX7_simple_156 : decode cX7_simple 156 = .ok (.iload_n 1, 1) := by decide +kernel
end
section
theorem dX7_simple_157 : decode cX7_simple 157 = .ok (.aload_n 0, 1) := by decide +kernel
theorem dX7_simple_158 : decode cX7_simple 158 = .ok (.getfield 37, 3) := by decide +kernel
theorem dX7_simple_161 : decode cX7_simple 161 = .ok (.iload_n 1, 1) := by decide +kernel
theorem dX7_simple_162 : decode cX7_simple 162 = .ok (.iaload, 1) := by decide +kernel
theorem dX7_simple_163 : decode cX7_simple 163 = .ok (.iload 4, 2) := by decide +kernel
theorem dX7_simple_165 : decode cX7_simple 165 = .ok (.idiv, 1) := by decide +kernel
theorem dX7_simple_166 : decode cX7_simple 166 = .ok (.iastore, 1) := by decide +kernel
theorem dX7_simple_167 : decode cX7_simple 167 = .ok (.iconst 0, 1) := by decide +kernel
theorem dX7_simple_168 : decode cX7_simple 168 = .ok (.ireturn, 1) := by decide +kernel
theorem dX7_simple_169 : decode cX7_simple 169 = .ok (.aload_n 0, 1) := by decide +kernel
theorem dX7_simple_170 : decode cX7_simple 170 = .ok (.iload_n 1, 1) := by decide +kernel
theorem dX7_simple_171 : decode cX7_simple 171 = .ok (.iload_n 3, 1) := by decide +kernel
theorem dX7_simple_172 : decode cX7_simple 172 = .ok (.iload 4, 2) := by decide +kernel
theorem dX7_simple_174 : decode cX7_simple 174 = .ok (.invokevirtual 124, 3) := by decide +kernel
theorem dX7_simple_177 : decode cX7_simple 177 = .ok (.ireturn, 1) := by decide +kernel
theorem dX7_simple_178 : decode cX7_simple 178 = .ok (.aload_n 0, 1) := by decide +kernel
theorem dX7_simple_179 : decode cX7_simple 179 = .ok (.iload_n 1, 1) := by decide +kernel
theorem dX7_simple_180 : decode cX7_simple 180 = .ok (.invokevirtual 128, 3) := by decide +kernel
theorem dX7_simple_183 : decode cX7_simple 183 = .ok (.ireturn, 1) := by decide +kernel
theorem dX7_simple_184 : decode cX7_simple 184 = .ok (.aload_n 0, 1) := by decide +kernel
theorem dX7_simple_185 : decode cX7_simple 185 = .ok (.iload_n 1, 1) := by decide +kernel
theorem dX7_simple_186 : decode cX7_simple 186 = .ok (.iload 4, 2) := by decide +kernel
theorem dX7_simple_188 : decode cX7_simple 188 = .ok (.iload 5, 2) := by decide +kernel
theorem dX7_simple_190 : decode cX7_simple 190 = .ok (.invokevirtual 132, 3) := by decide +kernel
theorem dX7_simple_193 : decode cX7_simple 193 = .ok (.ireturn, 1) := by decide +kernel
theorem dX7_simple_194 : decode cX7_simple 194 = .ok (.aload_n 0, 1) := by decide +kernel
theorem dX7_simple_195 : decode cX7_simple 195 = .ok (.iload 4, 2) := by decide +kernel
theorem dX7_simple_197 : decode cX7_simple 197 = .ok (.ifCond .le 8, 3) := by decide +kernel
theorem dX7_simple_200 : decode cX7_simple 200 = .ok (.iload 4, 2) := by decide +kernel
theorem dX7_simple_202 : decode cX7_simple 202 = .ok (.goto 7, 3) := by decide +kernel
theorem dX7_simple_205 : decode cX7_simple 205 = .ok (.aload_n 0, 1) := by decide +kernel
theorem dX7_simple_206 : decode cX7_simple 206 = .ok (.getfield 135, 3) := by decide +kernel
theorem dX7_simple_209 : decode cX7_simple 209 = .ok (.putfield 135, 3) := by decide +kernel
theorem dX7_simple_212 : decode cX7_simple 212 = .ok (.iconst 0, 1) := by decide +kernel
theorem dX7_simple_213 : decode cX7_simple 213 = .ok (.ireturn, 1) := by decide +kernel
theorem dX7_simple_214 : decode cX7_simple 214 = .ok (.aload_n 0, 1) := by decide +kernel
theorem dX7_simple_215 : decode cX7_simple 215 = .ok (.iload_n 1, 1) := by decide +kernel
theorem dX7_simple_216 : decode cX7_simple 216 = .ok (.invokevirtual 138, 3) := by decide +kernel
theorem dX7_simple_219 : decode cX7_simple 219 = .ok (.iconst 0, 1) := by decide +kernel
theorem dX7_simple_220 : decode cX7_simple 220 = .ok (.ireturn, 1) := by decide +kernel
theorem dX7_simple_221 : decode cX7_simple 221 = .ok (.aload_n 0, 1) := by decide +kernel
theorem dX7_simple_222 : decode cX7_simple 222 = .ok (.getfield 37, 3) := by decide +kernel
theorem dX7_simple_225 : decode cX7_simple 225 = .ok (.iload_n 1, 1) := by decide +kernel
theorem dX7_simple_226 : decode cX7_simple 226 = .ok (.iaload, 1) := by decide +kernel
theorem dX7_simple_227 : decode cX7_simple 227 = .ok (.iload 4, 2) := by decide +kernel
theorem dX7_simple_229 : decode cX7_simple 229 = .ok (.if_icmp .ge 8, 3) := by decide +kernel
theorem dX7_simple_232 : decode cX7_simple 232 = .ok (.bipush 10, 2) := by decide +kernel
theorem dX7_simple_234 : decode cX7_simple 234 = .ok (.goto 4, 3) := by decide +kernel
theorem dX7_simple_237 : decode cX7_simple 237 = .ok (.iconst 0, 1) := by decide +kernel
theorem dX7_simple_238 : decode cX7_simple 238 = .ok (.ireturn, 1) := by decide +kernel
theorem dX7_simple_239 : decode cX7_simple 239 = .ok (.aload_n 0, 1) := by decide +kernel
theorem dX7_simple_240 : decode cX7_simple 240 = .ok (.iload_n 1, 1) := by decide +kernel
theorem dX7_simple_241 : decode cX7_simple 241 = .ok (.iload 4, 2) := by decide +kernel
theorem dX7_simple_243 : decode cX7_simple 243 = .ok (.invokevirtual 142, 3) := by decide +kernel
theorem dX7_simple_246 : decode cX7_simple 246 = .ok (.ireturn, 1) := by decide +kernel
theorem dX7_simple_247 : decode cX7_simple 247 = .ok (.aload_n 0, 1) := by decide +kernel
theorem dX7_simple_248 : decode cX7_simple 248 = .ok (.iload_n 1, 1) := by decide +kernel
theorem dX7_simple_249 : decode cX7_simple 249 = .ok (.iload_n 3, 1) := by decide +kernel
theorem dX7_simple_250 : decode cX7_simple 250 = .ok (.iload 4, 2) := by decide +kernel
theorem dX7_simple_252 : decode cX7_simple 252 = .ok (.iload 5, 2) := by decide +kernel
theorem dX7_simple_254 : decode cX7_simple 254 = .ok (.invokevirtual 146, 3) := by decide +kernel
theorem dX7_simple_257 : decode cX7_simple 257 = .ok (.ireturn, 1) := by decide +kernel
theorem dX7_guard_0 : decode cX7_guard 0 = .ok (.iconst 0, 1) := by decide +kernel
theorem dX7_guard_1 : decode cX7_guard 1 = .ok (.istore_n 3, 1) := by decide +kernel
theorem dX7_guard_2 : decode cX7_guard 2 = .ok (.aload_n 0, 1) := by decide +kernel
theorem dX7_guard_3 : decode cX7_guard 3 = .ok (.iconst 1, 1) := by decide +kernel
theorem dX7_guard_4 : decode cX7_guard 4 = .ok (.putfield 114, 3) := by decide +kernel
theorem dX7_guard_7 : decode cX7_guard 7 = .ok (.iconst 0, 1) := by decide +kernel
theorem dX7_guard_8 : decode cX7_guard 8 = .ok (.istore 4, 2) := by decide +kernel
theorem dX7_guard_10 : decode cX7_guard 10 = .ok (.iload 4, 2) := by decide +kernel
theorem dX7_guard_12 : decode cX7_guard 12 = .ok (.iload_n 2, 1) := by decide +kernel
theorem dX7_guard_13 : decode cX7_guard 13 = .ok (.if_icmp .ge 94, 3) := by decide +kernel
theorem dX7_guard_16 : decode cX7_guard 16 = .ok (.iload_n 3, 1) := by decide +kernel
theorem dX7_guard_17 : decode cX7_guard 17 = .ok (.ifCond .ne 90, 3) := by decide +kernel
theorem dX7_guard_20 : decode cX7_guard 20 = .ok (.aload_n 0, 1) := by decide +kernel
theorem dX7_guard_21 : decode cX7_guard 21 = .ok (.getfield 34, 3) := by decide +kernel
theorem dX7_guard_24 : decode cX7_guard 24 = .ok (.iload_n 1, 1) := by decide +kernel
theorem dX7_guard_25 : decode cX7_guard 25 = .ok (.iaload, 1) := by decide +kernel
theorem dX7_guard_26 : decode cX7_guard 26 = .ok (.aload_n 0, 1) := by decide +kernel
theorem dX7_guard_27 : decode cX7_guard 27 = .ok (.getfield 22, 3) := by decide +kernel
theorem dX7_guard_30 : decode cX7_guard 30 = .ok (.iload_n 1, 1) := by decide +kernel
theorem dX7_guard_31 : decode cX7_guard 31 = .ok (.iaload, 1) := by decide +kernel
theorem dX7_guard_32 : decode cX7_guard 32 = .ok (.if_icmp .ge 75, 3) := by decide +kernel
theorem dX7_guard_35 : decode cX7_guard 35 = .ok (.bipush 16, 2) := by decide +kernel
theorem dX7_guard_37 : decode cX7_guard 37 = .ok (.iload_n 1, 1) := by decide +kernel
theorem dX7_guard_38 : decode cX7_guard 38 = .ok (.imul, 1) := by decide +kernel
theorem dX7_guard_39 : decode cX7_guard 39 = .ok (.aload_n 0, 1) := by decide +kernel
theorem dX7_guard_40 : decode cX7_guard 40 = .ok (.getfield 34, 3) := by decide +kernel
theorem dX7_guard_43 : decode cX7_guard 43 = .ok (.iload_n 1, 1) := by decide +kernel
theorem dX7_guard_44 : decode cX7_guard 44 = .ok (.iaload, 1) := by decide +kernel
theorem dX7_guard_45 : decode cX7_guard 45 = .ok (.iadd, 1) := by decide +kernel
theorem dX7_guard_46 : decode cX7_guard 46 = .ok (.istore 5, 2) := by decide +kernel
theorem dX7_guard_48 : decode cX7_guard 48 = .ok (.aload_n 0, 1) := by decide +kernel
theorem dX7_guard_49 : decode cX7_guard 49 = .ok (.dup, 1) := by decide +kernel
theorem dX7_guard_50 : decode cX7_guard 50 = .ok (.getfield 150, 3) := by decide +kernel
theorem dX7_guard_53 : decode cX7_guard 53 = .ok (.iconst 1, 1) := by decide +kernel
theorem dX7_guard_54 : decode cX7_guard 54 = .ok (.iadd, 1) := by decide +kernel
theorem dX7_guard_55 : decode cX7_guard 55 = .ok (.putfield 150, 3) := by decide +kernel
theorem dX7_guard_58 : decode cX7_guard 58 = .ok (.aload_n 0, 1) := by decide +kernel
theorem dX7_guard_59 : decode cX7_guard 59 = .ok (.getfield 25, 3) := by decide +kernel
theorem dX7_guard_62 : decode cX7_guard 62 = .ok (.iload 5, 2) := by decide +kernel
theorem dX7_guard_64 : decode cX7_guard 64 = .ok (.iaload, 1) := by decide +kernel
theorem dX7_guard_65 : decode cX7_guard 65 = .ok (.bipush 9, 2) := by decide +kernel
theorem dX7_guard_67 : decode cX7_guard 67 = .ok (.if_icmp .ne 8, 3) := by decide +kernel
theorem dX7_guard_70 : decode cX7_guard 70 = .ok (.bipush 8, 2) := by decide +kernel
theorem dX7_guard_72 : decode cX7_guard 72 = .ok (.goto 10, 3) := by decide +kernel
theorem dX7_guard_75 : decode cX7_guard 75 = .ok (.aload_n 0, 1) := by decide +kernel
theorem dX7_guard_76 : decode cX7_guard 76 = .ok (.iload_n 1, 1) := by decide +kernel
theorem dX7_guard_77 : decode cX7_guard 77 = .ok (.iload 5, 2) := by decide +kernel
theorem dX7_guard_79 : decode cX7_guard 79 = .ok (.invokevirtual 153, 3) := by decide +kernel
theorem dX7_guard_82 : decode cX7_guard 82 = .ok (.istore_n 3, 1) := by decide +kernel
theorem dX7_guard_83 : decode cX7_guard 83 = .ok (.aload_n 0, 1) := by decide +kernel
theorem dX7_guard_84 : decode cX7_guard 84 = .ok (.getfield 34, 3) := by decide +kernel
theorem dX7_guard_87 : decode cX7_guard 87 = .ok (.iload_n 1, 1) := by decide +kernel
theorem dX7_guard_88 : decode cX7_guard 88 = .ok (.dup2, 1) := by decide +kernel
theorem dX7_guard_89 : decode cX7_guard 89 = .ok (.iaload, 1) := by decide +kernel
theorem dX7_guard_90 : decode cX7_guard 90 = .ok (.iload_n 3, 1) := by decide +kernel
theorem dX7_guard_91 : decode cX7_guard 91 = .ok (.ifCond .ne 7, 3) := by decide +kernel
theorem dX7_guard_94 : decode cX7_guard 94 = .ok (.iconst 1, 1) := by decide +kernel
theorem dX7_guard_95 : decode cX7_guard 95 = .ok (.goto 4, 3) := by decide +kernel
theorem dX7_guard_98 : decode cX7_guard 98 = .ok (.iconst 0, 1) := by decide +kernel
theorem dX7_guard_99 : decode cX7_guard 99 = .ok (.iadd, 1) := by decide +kernel
theorem dX7_guard_100 : decode cX7_guard 100 = .ok (.iastore, 1) := by decide +kernel
theorem dX7_guard_101 : decode cX7_guard 101 = .ok (.iinc 4 1, 3) := by decide +kernel
theorem dX7_guard_104 : decode cX7_guard 104 = .ok (.goto (-94), 3) := by decide +kernel
theorem dX7_guard_107 : decode cX7_guard 107 = .ok (.aload_n 0, 1) := by decide +kernel
theorem dX7_guard_108 : decode cX7_guard 108 = .ok (.iconst 0, 1) := by decide +kernel
theorem dX7_guard_109 : decode cX7_guard 109 = .ok (.putfield 114, 3) := by decide +kernel
theorem dX7_guard_112 : decode cX7_guard 112 = .ok (.aload_n 0, 1) := by decide +kernel
theorem dX7_guard_113 : decode cX7_guard 113 = .ok (.dup, 1) := by decide +kernel
theorem dX7_guard_114 : decode cX7_guard 114 = .ok (.getfield 156, 3) := by decide +kernel
theorem dX7_guard_117 : decode cX7_guard 117 = .ok (.iconst 1, 1) := by decide +kernel
theorem dX7_guard_118 : decode cX7_guard 118 = .ok (.iadd, 1) := by decide +kernel
theorem dX7_guard_119 : decode cX7_guard 119 = .ok (.putfield 156, 3) := by decide +kernel
theorem dX7_guard_122 : decode cX7_guard 122 = .ok (.iload_n 3, 1) := by decide +kernel
theorem dX7_guard_123 : decode cX7_guard 123 = .ok (.ireturn, 1) := by decide +kernel
theorem dX7_fails_0 : decode cX7_fails 0 = .ok (.aload_n 0, 1) := by decide +kernel
theorem dX7_fails_1 : decode cX7_fails 1 = .ok (.getfield 74, 3) := by decide +kernel
theorem dX7_fails_4 : decode cX7_fails 4 = .ok (.iload_n 1, 1) := by decide +kernel
theorem dX7_fails_5 : decode cX7_fails 5 = .ok (.dup2, 1) := by decide +kernel
theorem dX7_fails_6 : decode cX7_fails 6 = .ok (.iaload, 1) := by decide +kernel
theorem dX7_fails_7 : decode cX7_fails 7 = .ok (.iconst 1, 1) := by decide +kernel
theorem dX7_fails_8 : decode cX7_fails 8 = .ok (.iadd, 1) := by decide +kernel
theorem dX7_fails_9 : decode cX7_fails 9 = .ok (.iastore, 1) := by decide +kernel
theorem dX7_fails_10 : decode cX7_fails 10 = .ok (.aload_n 0, 1) := by decide +kernel
theorem dX7_fails_11 : decode cX7_fails 11 = .ok (.dup, 1) := by decide +kernel
theorem dX7_fails_12 : decode cX7_fails 12 = .ok (.getfield 159, 3) := by decide +kernel
theorem dX7_fails_15 : decode cX7_fails 15 = .ok (.iconst 1, 1) := by decide +kernel
theorem dX7_fails_16 : decode cX7_fails 16 = .ok (.iadd, 1) := by decide +kernel
theorem dX7_fails_17 : decode cX7_fails 17 = .ok (.putfield 159, 3) := by decide +kernel
theorem dX7_fails_20 : decode cX7_fails 20 = .ok (.aload_n 0, 1) := by decide +kernel
theorem dX7_fails_21 : decode cX7_fails 21 = .ok (.getfield 77, 3) := by decide +kernel
theorem dX7_fails_24 : decode cX7_fails 24 = .ok (.iload_n 1, 1) := by decide +kernel
theorem dX7_fails_25 : decode cX7_fails 25 = .ok (.iload_n 2, 1) := by decide +kernel
theorem dX7_fails_26 : decode cX7_fails 26 = .ok (.iastore, 1) := by decide +kernel
theorem dX7_fails_27 : decode cX7_fails 27 = .ok (.aload_n 0, 1) := by decide +kernel
theorem dX7_fails_28 : decode cX7_fails 28 = .ok (.getfield 80, 3) := by decide +kernel
theorem dX7_fails_31 : decode cX7_fails 31 = .ok (.iload_n 1, 1) := by decide +kernel
theorem dX7_fails_32 : decode cX7_fails 32 = .ok (.aload_n 0, 1) := by decide +kernel
theorem dX7_fails_33 : decode cX7_fails 33 = .ok (.getfield 34, 3) := by decide +kernel
theorem dX7_fails_36 : decode cX7_fails 36 = .ok (.iload_n 1, 1) := by decide +kernel
theorem dX7_fails_37 : decode cX7_fails 37 = .ok (.iaload, 1) := by decide +kernel
theorem dX7_fails_38 : decode cX7_fails 38 = .ok (.iastore, 1) := by decide +kernel
theorem dX7_fails_39 : decode cX7_fails 39 = .ok (.aload_n 0, 1) := by decide +kernel
theorem dX7_fails_40 : decode cX7_fails 40 = .ok (.getfield 7, 3) := by decide +kernel
theorem dX7_fails_43 : decode cX7_fails 43 = .ok (.iload_n 1, 1) := by decide +kernel
theorem dX7_fails_44 : decode cX7_fails 44 = .ok (.iaload, 1) := by decide +kernel
theorem dX7_fails_45 : decode cX7_fails 45 = .ok (.iconst 3, 1) := by decide +kernel
theorem dX7_fails_46 : decode cX7_fails 46 = .ok (.if_icmp .ne 7, 3) := by decide +kernel
theorem dX7_fails_49 : decode cX7_fails 49 = .ok (.iconst 3, 1) := by decide +kernel
theorem dX7_fails_50 : decode cX7_fails 50 = .ok (.goto 18, 3) := by decide +kernel
theorem dX7_fails_53 : decode cX7_fails 53 = .ok (.aload_n 0, 1) := by decide +kernel
theorem dX7_fails_54 : decode cX7_fails 54 = .ok (.getfield 7, 3) := by decide +kernel
theorem dX7_fails_57 : decode cX7_fails 57 = .ok (.iload_n 1, 1) := by decide +kernel
theorem dX7_fails_58 : decode cX7_fails 58 = .ok (.iaload, 1) := by decide +kernel
theorem dX7_fails_59 : decode cX7_fails 59 = .ok (.iconst 4, 1) := by decide +kernel
theorem dX7_fails_60 : decode cX7_fails 60 = .ok (.if_icmp .ne 7, 3) := by decide +kernel
theorem dX7_fails_63 : decode cX7_fails 63 = .ok (.iconst 5, 1) := by decide +kernel
theorem dX7_fails_64 : decode cX7_fails 64 = .ok (.goto 4, 3) := by decide +kernel
theorem dX7_fails_67 : decode cX7_fails 67 = .ok (.iconst 0, 1) := by decide +kernel
theorem dX7_fails_68 : decode cX7_fails 68 = .ok (.istore_n 3, 1) := by decide +kernel
theorem dX7_fails_69 : decode cX7_fails 69 = .ok (.aload_n 0, 1) := by decide +kernel
theorem dX7_fails_70 : decode cX7_fails 70 = .ok (.getfield 7, 3) := by decide +kernel
theorem dX7_fails_73 : decode cX7_fails 73 = .ok (.iload_n 1, 1) := by decide +kernel
theorem dX7_fails_74 : decode cX7_fails 74 = .ok (.iaload, 1) := by decide +kernel
theorem dX7_fails_75 : decode cX7_fails 75 = .ok (.iconst 2, 1) := by decide +kernel
theorem dX7_fails_76 : decode cX7_fails 76 = .ok (.if_icmp .ge 13, 3) := by decide +kernel
theorem dX7_fails_79 : decode cX7_fails 79 = .ok (.aload_n 0, 1) := by decide +kernel
theorem dX7_fails_80 : decode cX7_fails 80 = .ok (.getfield 19, 3) := by decide +kernel
theorem dX7_fails_83 : decode cX7_fails 83 = .ok (.iload_n 1, 1) := by decide +kernel
theorem dX7_fails_84 : decode cX7_fails 84 = .ok (.iconst 4, 1) := by decide +kernel
theorem dX7_fails_85 : decode cX7_fails 85 = .ok (.iastore, 1) := by decide +kernel
theorem dX7_fails_86 : decode cX7_fails 86 = .ok (.goto 41, 3) := by decide +kernel
theorem dX7_fails_89 : decode cX7_fails 89 = .ok (.aload_n 0, 1) := by decide +kernel
theorem dX7_fails_90 : decode cX7_fails 90 = .ok (.getfield 83, 3) := by decide +kernel
theorem dX7_fails_93 : decode cX7_fails 93 = .ok (.iload_n 1, 1) := by decide +kernel
theorem dX7_fails_94 : decode cX7_fails 94 = .ok (.iaload, 1) := by decide +kernel
theorem dX7_fails_95 : decode cX7_fails 95 = .ok (.iload_n 3, 1) := by decide +kernel
theorem dX7_fails_96 : decode cX7_fails 96 = .ok (.if_icmp .ge 21, 3) := by decide +kernel
theorem dX7_fails_99 : decode cX7_fails 99 = .ok (.aload_n 0, 1) := by decide +kernel
theorem dX7_fails_100 : decode cX7_fails 100 = .ok (.getfield 83, 3) := by decide +kernel
theorem dX7_fails_103 : decode cX7_fails 103 = .ok (.iload_n 1, 1) := by decide +kernel
theorem dX7_fails_104 : decode cX7_fails 104 = .ok (.dup2, 1) := by decide +kernel
theorem dX7_fails_105 : decode cX7_fails 105 = .ok (.iaload, 1) := by decide +kernel
theorem dX7_fails_106 : decode cX7_fails 106 = .ok (.iconst 1, 1) := by decide +kernel
theorem dX7_fails_107 : decode cX7_fails 107 = .ok (.iadd, 1) := by decide +kernel
theorem dX7_fails_108 : decode cX7_fails 108 = .ok (.iastore, 1) := by decide +kernel
theorem dX7_fails_109 : decode cX7_fails 109 = .ok (.aload_n 0, 1) := by decide +kernel
theorem dX7_fails_110 : decode cX7_fails 110 = .ok (.iload_n 1, 1) := by decide +kernel
theorem dX7_fails_111 : decode cX7_fails 111 = .ok (.invokevirtual 162, 3) := by decide +kernel
theorem dX7_fails_114 : decode cX7_fails 114 = .ok (.goto 13, 3) := by decide +kernel
theorem dX7_fails_117 : decode cX7_fails 117 = .ok (.aload_n 0, 1) := by decide +kernel
theorem dX7_fails_118 : decode cX7_fails 118 = .ok (.getfield 34, 3) := by decide +kernel
theorem dX7_fails_121 : decode cX7_fails 121 = .ok (.iload_n 1, 1) := by decide +kernel
theorem dX7_fails_122 : decode cX7_fails 122 = .ok (.dup2, 1) := by decide +kernel
theorem dX7_fails_123 : decode cX7_fails 123 = .ok (.iaload, 1) := by decide +kernel
theorem dX7_fails_124 : decode cX7_fails 124 = .ok (.iconst 1, 1) := by decide +kernel
theorem dX7_fails_125 : decode cX7_fails 125 = .ok (.iadd, 1) := by decide +kernel
theorem dX7_fails_126 : decode cX7_fails 126 = .ok (.iastore, 1) := by decide +kernel
theorem dX7_fails_127 : decode cX7_fails 127 = .ok (.return_, 1) := by decide +kernel
theorem dX7_acts_0 : decode cX7_acts 0 = .ok (.bipush 16, 2) := by decide +kernel
theorem dX7_acts_2 : decode cX7_acts 2 = .ok (.iload_n 1, 1) := by decide +kernel
theorem dX7_acts_3 : decode cX7_acts 3 = .ok (.imul, 1) := by decide +kernel
theorem dX7_acts_4 : decode cX7_acts 4 = .ok (.aload_n 0, 1) := by decide +kernel
theorem dX7_acts_5 : decode cX7_acts 5 = .ok (.getfield 34, 3) := by decide +kernel
theorem dX7_acts_8 : decode cX7_acts 8 = .ok (.iload_n 1, 1) := by decide +kernel
theorem dX7_acts_9 : decode cX7_acts 9 = .ok (.iaload, 1) := by decide +kernel
theorem dX7_acts_10 : decode cX7_acts 10 = .ok (.iadd, 1) := by decide +kernel
theorem dX7_acts_11 : decode cX7_acts 11 = .ok (.istore_n 2, 1) := by decide +kernel
theorem dX7_acts_12 : decode cX7_acts 12 = .ok (.aload_n 0, 1) := by decide +kernel
theorem dX7_acts_13 : decode cX7_acts 13 = .ok (.dup, 1) := by decide +kernel
theorem dX7_acts_14 : decode cX7_acts 14 = .ok (.getfield 150, 3) := by decide +kernel
theorem dX7_acts_17 : decode cX7_acts 17 = .ok (.iconst 1, 1) := by decide +kernel
theorem dX7_acts_18 : decode cX7_acts 18 = .ok (.iadd, 1) := by decide +kernel
theorem dX7_acts_19 : decode cX7_acts 19 = .ok (.putfield 150, 3) := by decide +kernel
theorem dX7_acts_22 : decode cX7_acts 22 = .ok (.aload_n 0, 1) := by decide +kernel
theorem dX7_acts_23 : decode cX7_acts 23 = .ok (.getfield 86, 3) := by decide +kernel
theorem dX7_acts_26 : decode cX7_acts 26 = .ok (.iload_n 1, 1) := by decide +kernel
theorem dX7_acts_27 : decode cX7_acts 27 = .ok (.iconst 1, 1) := by decide +kernel
theorem dX7_acts_28 : decode cX7_acts 28 = .ok (.bastore, 1) := by decide +kernel
theorem dX7_acts_29 : decode cX7_acts 29 = .ok (.aload_n 0, 1) := by decide +kernel
theorem dX7_acts_30 : decode cX7_acts 30 = .ok (.iconst 0, 1) := by decide +kernel
theorem dX7_acts_31 : decode cX7_acts 31 = .ok (.putfield 135, 3) := by decide +kernel
theorem dX7_acts_34 : decode cX7_acts 34 = .ok (.aload_n 0, 1) := by decide +kernel
theorem dX7_acts_35 : decode cX7_acts 35 = .ok (.getfield 25, 3) := by decide +kernel
theorem dX7_acts_38 : decode cX7_acts 38 = .ok (.iload_n 2, 1) := by decide +kernel
theorem dX7_acts_39 : decode cX7_acts 39 = .ok (.iaload, 1) := by decide +kernel
theorem dX7_acts_40 : decode cX7_acts 40 = .ok (.bipush 9, 2) := by decide +kernel
theorem dX7_acts_42 : decode cX7_acts 42 = .ok (.if_icmp .ne 28, 3) := by decide +kernel
theorem dX7_acts_45 : decode cX7_acts 45 = .ok (.aload_n 0, 1) := by decide +kernel
theorem dX7_acts_46 : decode cX7_acts 46 = .ok (.getfield 34, 3) := by decide +kernel
theorem dX7_acts_49 : decode cX7_acts 49 = .ok (.iload_n 1, 1) := by decide +kernel
theorem dX7_acts_50 : decode cX7_acts 50 = .ok (.dup2, 1) := by decide +kernel
theorem dX7_acts_51 : decode cX7_acts 51 = .ok (.iaload, 1) := by decide +kernel
theorem dX7_acts_52 : decode cX7_acts 52 = .ok (.iconst 1, 1) := by decide +kernel
theorem dX7_acts_53 : decode cX7_acts 53 = .ok (.iadd, 1) := by decide +kernel
theorem dX7_acts_54 : decode cX7_acts 54 = .ok (.iastore, 1) := by decide +kernel
theorem dX7_acts_55 : decode cX7_acts 55 = .ok (.aload_n 0, 1) := by decide +kernel
theorem dX7_acts_56 : decode cX7_acts 56 = .ok (.iload_n 1, 1) := by decide +kernel
theorem dX7_acts_57 : decode cX7_acts 57 = .ok (.aload_n 0, 1) := by decide +kernel
theorem dX7_acts_58 : decode cX7_acts 58 = .ok (.getfield 28, 3) := by decide +kernel
theorem dX7_acts_61 : decode cX7_acts 61 = .ok (.iload_n 2, 1) := by decide +kernel
theorem dX7_acts_62 : decode cX7_acts 62 = .ok (.iaload, 1) := by decide +kernel
theorem dX7_acts_63 : decode cX7_acts 63 = .ok (.invokevirtual 165, 3) := by decide +kernel
theorem dX7_acts_66 : decode cX7_acts 66 = .ok (.istore_n 3, 1) := by decide +kernel
theorem dX7_acts_67 : decode cX7_acts 67 = .ok (.goto 38, 3) := by decide +kernel
theorem dX7_acts_70 : decode cX7_acts 70 = .ok (.aload_n 0, 1) := by decide +kernel
theorem dX7_acts_71 : decode cX7_acts 71 = .ok (.iload_n 1, 1) := by decide +kernel
theorem dX7_acts_72 : decode cX7_acts 72 = .ok (.iload_n 2, 1) := by decide +kernel
theorem dX7_acts_73 : decode cX7_acts 73 = .ok (.invokevirtual 153, 3) := by decide +kernel
theorem dX7_acts_76 : decode cX7_acts 76 = .ok (.istore_n 3, 1) := by decide +kernel
theorem dX7_acts_77 : decode cX7_acts 77 = .ok (.aload_n 0, 1) := by decide +kernel
theorem dX7_acts_78 : decode cX7_acts 78 = .ok (.getfield 34, 3) := by decide +kernel
theorem dX7_acts_81 : decode cX7_acts 81 = .ok (.iload_n 1, 1) := by decide +kernel
theorem dX7_acts_82 : decode cX7_acts 82 = .ok (.dup2, 1) := by decide +kernel
theorem dX7_acts_83 : decode cX7_acts 83 = .ok (.iaload, 1) := by decide +kernel
theorem dX7_acts_84 : decode cX7_acts 84 = .ok (.iload_n 3, 1) := by decide +kernel
theorem dX7_acts_85 : decode cX7_acts 85 = .ok (.ifCond .ne 17, 3) := by decide +kernel
theorem dX7_acts_88 : decode cX7_acts 88 = .ok (.aload_n 0, 1) := by decide +kernel
theorem dX7_acts_89 : decode cX7_acts 89 = .ok (.getfield 19, 3) := by decide +kernel
theorem dX7_acts_92 : decode cX7_acts 92 = .ok (.iload_n 1, 1) := by decide +kernel
theorem dX7_acts_93 : decode cX7_acts 93 = .ok (.iaload, 1) := by decide +kernel
theorem dX7_acts_94 : decode cX7_acts 94 = .ok (.iconst 2, 1) := by decide +kernel
theorem dX7_acts_95 : decode cX7_acts 95 = .ok (.if_icmp .eq 7, 3) := by decide +kernel
theorem dX7_acts_98 : decode cX7_acts 98 = .ok (.iconst 1, 1) := by decide +kernel
theorem dX7_acts_99 : decode cX7_acts 99 = .ok (.goto 4, 3) := by decide +kernel
theorem dX7_acts_102 : decode cX7_acts 102 = .ok (.iconst 0, 1) := by decide +kernel
theorem dX7_acts_103 : decode cX7_acts 103 = .ok (.iadd, 1) := by decide +kernel
theorem dX7_acts_104 : decode cX7_acts 104 = .ok (.iastore, 1) := by decide +kernel
theorem dX7_acts_105 : decode cX7_acts 105 = .ok (.iload_n 3, 1) := by decide +kernel
theorem dX7_acts_106 : decode cX7_acts 106 = .ok (.ifCond .eq 12, 3) := by decide +kernel
theorem dX7_acts_109 : decode cX7_acts 109 = .ok (.aload_n 0, 1) := by decide +kernel
theorem dX7_acts_110 : decode cX7_acts 110 = .ok (.iload_n 1, 1) := by decide +kernel
theorem dX7_acts_111 : decode cX7_acts 111 = .ok (.iload_n 3, 1) := by decide +kernel
theorem dX7_acts_112 : decode cX7_acts 112 = .ok (.invokevirtual 168, 3) := by decide +kernel
theorem dX7_acts_115 : decode cX7_acts 115 = .ok (.goto 34, 3) := by decide +kernel
theorem dX7_acts_118 : decode cX7_acts 118 = .ok (.aload_n 0, 1) := by decide +kernel
theorem dX7_acts_119 : decode cX7_acts 119 = .ok (.getfield 135, 3) := by decide +kernel
theorem dX7_acts_122 : decode cX7_acts 122 = .ok (.ifCond .le 27, 3) := by decide +kernel
theorem dX7_acts_125 : decode cX7_acts 125 = .ok (.aload_n 0, 1) := by decide +kernel
theorem dX7_acts_126 : decode cX7_acts 126 = .ok (.getfield 19, 3) := by decide +kernel
theorem dX7_acts_129 : decode cX7_acts 129 = .ok (.iload_n 1, 1) := by decide +kernel
theorem dX7_acts_130 : decode cX7_acts 130 = .ok (.iconst 1, 1) := by decide +kernel
theorem dX7_acts_131 : decode cX7_acts 131 = .ok (.iastore, 1) := by decide +kernel
theorem dX7_acts_132 : decode cX7_acts 132 = .ok (.aload_n 0, 1) := by decide +kernel
theorem dX7_acts_133 : decode cX7_acts 133 = .ok (.getfield 70, 3) := by decide +kernel
theorem dX7_acts_136 : decode cX7_acts 136 = .ok (.iload_n 1, 1) := by decide +kernel
theorem dX7_acts_137 : decode cX7_acts 137 = .ok (.aload_n 0, 1) := by decide +kernel
theorem dX7_acts_138 : decode cX7_acts 138 = .ok (.getfield 100, 3) := by decide +kernel
theorem dX7_acts_141 : decode cX7_acts 141 = .ok (.i2l, 1) := by decide +kernel
theorem dX7_acts_142 : decode cX7_acts 142 = .ok (.aload_n 0, 1) := by decide +kernel
theorem dX7_acts_143 : decode cX7_acts 143 = .ok (.getfield 135, 3) := by decide +kernel
theorem dX7_acts_146 : decode cX7_acts 146 = .ok (.i2l, 1) := by decide +kernel
theorem dX7_acts_147 : decode cX7_acts 147 = .ok (.ladd, 1) := by decide +kernel
theorem dX7_acts_148 : decode cX7_acts 148 = .ok (.lastore, 1) := by decide +kernel
theorem dX7_acts_149 : decode cX7_acts 149 = .ok (.return_, 1) := by decide +kernel
theorem dX7_maybeDone_0 : decode cX7_maybeDone 0 = .ok (.aload_n 0, 1) := by decide +kernel
theorem dX7_maybeDone_1 : decode cX7_maybeDone 1 = .ok (.getfield 19, 3) := by decide +kernel
theorem dX7_maybeDone_4 : decode cX7_maybeDone 4 = .ok (.iload_n 1, 1) := by decide +kernel
theorem dX7_maybeDone_5 : decode cX7_maybeDone 5 = .ok (.iaload, 1) := by decide +kernel
theorem dX7_maybeDone_6 : decode cX7_maybeDone 6 = .ok (.invokestatic 118, 3) := by decide +kernel
theorem dX7_maybeDone_9 : decode cX7_maybeDone 9 = .ok (.ifCond .ne 55, 3) := by decide +kernel
theorem dX7_maybeDone_12 : decode cX7_maybeDone 12 = .ok (.aload_n 0, 1) := by decide +kernel
theorem dX7_maybeDone_13 : decode cX7_maybeDone 13 = .ok (.getfield 19, 3) := by decide +kernel
theorem dX7_maybeDone_16 : decode cX7_maybeDone 16 = .ok (.iload_n 1, 1) := by decide +kernel
theorem dX7_maybeDone_17 : decode cX7_maybeDone 17 = .ok (.iaload, 1) := by decide +kernel
theorem dX7_maybeDone_18 : decode cX7_maybeDone 18 = .ok (.iconst 2, 1) := by decide +kernel
theorem dX7_maybeDone_19 : decode cX7_maybeDone 19 = .ok (.if_icmp .eq 45, 3) := by decide +kernel
theorem dX7_maybeDone_22 : decode cX7_maybeDone 22 = .ok (.aload_n 0, 1) := by decide +kernel
theorem dX7_maybeDone_23 : decode cX7_maybeDone 23 = .ok (.getfield 34, 3) := by decide +kernel
theorem dX7_maybeDone_26 : decode cX7_maybeDone 26 = .ok (.iload_n 1, 1) := by decide +kernel
theorem dX7_maybeDone_27 : decode cX7_maybeDone 27 = .ok (.iaload, 1) := by decide +kernel
theorem dX7_maybeDone_28 : decode cX7_maybeDone 28 = .ok (.aload_n 0, 1) := by decide +kernel
theorem dX7_maybeDone_29 : decode cX7_maybeDone 29 = .ok (.getfield 22, 3) := by decide +kernel
theorem dX7_maybeDone_32 : decode cX7_maybeDone 32 = .ok (.iload_n 1, 1) := by decide +kernel
theorem dX7_maybeDone_33 : decode cX7_maybeDone 33 = .ok (.iaload, 1) := by decide +kernel
theorem dX7_maybeDone_34 : decode cX7_maybeDone 34 = .ok (.if_icmp .lt 30, 3) := by decide +kernel
theorem dX7_maybeDone_37 : decode cX7_maybeDone 37 = .ok (.aload_n 0, 1) := by decide +kernel
theorem dX7_maybeDone_38 : decode cX7_maybeDone 38 = .ok (.getfield 19, 3) := by decide +kernel
theorem dX7_maybeDone_41 : decode cX7_maybeDone 41 = .ok (.iload_n 1, 1) := by decide +kernel
theorem dX7_maybeDone_42 : decode cX7_maybeDone 42 = .ok (.iconst 3, 1) := by decide +kernel
theorem dX7_maybeDone_43 : decode cX7_maybeDone 43 = .ok (.iastore, 1) := by decide +kernel
theorem dX7_maybeDone_44 : decode cX7_maybeDone 44 = .ok (.aload_n 0, 1) := by decide +kernel
theorem dX7_maybeDone_45 : decode cX7_maybeDone 45 = .ok (.getfield 93, 3) := by decide +kernel
theorem dX7_maybeDone_48 : decode cX7_maybeDone 48 = .ok (.aload_n 0, 1) := by decide +kernel
theorem dX7_maybeDone_49 : decode cX7_maybeDone 49 = .ok (.getfield 172, 3) := by decide +kernel
theorem dX7_maybeDone_52 : decode cX7_maybeDone 52 = .ok (.iload_n 1, 1) := by decide +kernel
theorem dX7_maybeDone_53 : decode cX7_maybeDone 53 = .ok (.iastore, 1) := by decide +kernel
theorem dX7_maybeDone_54 : decode cX7_maybeDone 54 = .ok (.aload_n 0, 1) := by decide +kernel
theorem dX7_maybeDone_55 : decode cX7_maybeDone 55 = .ok (.dup, 1) := by decide +kernel
theorem dX7_maybeDone_56 : decode cX7_maybeDone 56 = .ok (.getfield 172, 3) := by decide +kernel
theorem dX7_maybeDone_59 : decode cX7_maybeDone 59 = .ok (.iconst 1, 1) := by decide +kernel
theorem dX7_maybeDone_60 : decode cX7_maybeDone 60 = .ok (.iadd, 1) := by decide +kernel
theorem dX7_maybeDone_61 : decode cX7_maybeDone 61 = .ok (.putfield 172, 3) := by decide +kernel
theorem dX7_maybeDone_64 : decode cX7_maybeDone 64 = .ok (.return_, 1) := by decide +kernel
theorem dX7_pick_0 : decode cX7_pick 0 = .ok (.iconst (-1), 1) := by decide +kernel
theorem dX7_pick_1 : decode cX7_pick 1 = .ok (.istore_n 1, 1) := by decide +kernel
theorem dX7_pick_2 : decode cX7_pick 2 = .ok (.iconst 0, 1) := by decide +kernel
theorem dX7_pick_3 : decode cX7_pick 3 = .ok (.istore_n 2, 1) := by decide +kernel
theorem dX7_pick_4 : decode cX7_pick 4 = .ok (.iload_n 2, 1) := by decide +kernel
theorem dX7_pick_5 : decode cX7_pick 5 = .ok (.aload_n 0, 1) := by decide +kernel
theorem dX7_pick_6 : decode cX7_pick 6 = .ok (.getfield 103, 3) := by decide +kernel
theorem dX7_pick_9 : decode cX7_pick 9 = .ok (.if_icmp .ge 72, 3) := by decide +kernel
theorem dX7_pick_12 : decode cX7_pick 12 = .ok (.aload_n 0, 1) := by decide +kernel
theorem dX7_pick_13 : decode cX7_pick 13 = .ok (.getfield 19, 3) := by decide +kernel
theorem dX7_pick_16 : decode cX7_pick 16 = .ok (.iload_n 2, 1) := by decide +kernel
theorem dX7_pick_17 : decode cX7_pick 17 = .ok (.iaload, 1) := by decide +kernel
theorem dX7_pick_18 : decode cX7_pick 18 = .ok (.ifCond .ne 16, 3) := by decide +kernel
theorem dX7_pick_21 : decode cX7_pick 21 = .ok (.aload_n 0, 1) := by decide +kernel
theorem dX7_pick_22 : decode cX7_pick 22 = .ok (.getfield 90, 3) := by decide +kernel
theorem dX7_pick_25 : decode cX7_pick 25 = .ok (.iload_n 2, 1) := by decide +kernel
theorem dX7_pick_26 : decode cX7_pick 26 = .ok (.baload, 1) := by decide +kernel
theorem dX7_pick_27 : decode cX7_pick 27 = .ok (.ifCond .ne 7, 3) := by decide +kernel
theorem dX7_pick_30 : decode cX7_pick 30 = .ok (.iconst 1, 1) := by decide +kernel
theorem dX7_pick_31 : decode cX7_pick 31 = .ok (.goto 4, 3) := by decide +kernel
theorem dX7_pick_34 : decode cX7_pick 34 = .ok (.iconst 0, 1) := by decide +kernel
theorem dX7_pick_35 : decode cX7_pick 35 = .ok (.istore_n 3, 1) := by decide +kernel
theorem dX7_pick_36 : decode cX7_pick 36 = .ok (.iload_n 3, 1) := by decide +kernel
theorem dX7_pick_37 : decode cX7_pick 37 = .ok (.ifCond .eq 38, 3) := by decide +kernel
theorem dX7_pick_40 : decode cX7_pick 40 = .ok (.iload_n 1, 1) := by decide +kernel
theorem dX7_pick_41 : decode cX7_pick 41 = .ok (.ifCond .lt 32, 3) := by decide +kernel
theorem dX7_pick_44 : decode cX7_pick 44 = .ok (.aload_n 0, 1) := by decide +kernel
theorem dX7_pick_45 : decode cX7_pick 45 = .ok (.getfield 13, 3) := by decide +kernel
theorem dX7_pick_48 : decode cX7_pick 48 = .ok (.iload_n 2, 1) := by decide +kernel
theorem dX7_pick_49 : decode cX7_pick 49 = .ok (.iaload, 1) := by decide +kernel
theorem dX7_pick_50 : decode cX7_pick 50 = .ok (.aload_n 0, 1) := by decide +kernel
theorem dX7_pick_51 : decode cX7_pick 51 = .ok (.getfield 16, 3) := by decide +kernel
theorem dX7_pick_54 : decode cX7_pick 54 = .ok (.iload_n 2, 1) := by decide +kernel
theorem dX7_pick_55 : decode cX7_pick 55 = .ok (.iaload, 1) := by decide +kernel
theorem dX7_pick_56 : decode cX7_pick 56 = .ok (.iadd, 1) := by decide +kernel
theorem dX7_pick_57 : decode cX7_pick 57 = .ok (.aload_n 0, 1) := by decide +kernel
theorem dX7_pick_58 : decode cX7_pick 58 = .ok (.getfield 13, 3) := by decide +kernel
theorem dX7_pick_61 : decode cX7_pick 61 = .ok (.iload_n 1, 1) := by decide +kernel
theorem dX7_pick_62 : decode cX7_pick 62 = .ok (.iaload, 1) := by decide +kernel
theorem dX7_pick_63 : decode cX7_pick 63 = .ok (.aload_n 0, 1) := by decide +kernel
theorem dX7_pick_64 : decode cX7_pick 64 = .ok (.getfield 16, 3) := by decide +kernel
theorem dX7_pick_67 : decode cX7_pick 67 = .ok (.iload_n 1, 1) := by decide +kernel
theorem dX7_pick_68 : decode cX7_pick 68 = .ok (.iaload, 1) := by decide +kernel
theorem dX7_pick_69 : decode cX7_pick 69 = .ok (.iadd, 1) := by decide +kernel
theorem dX7_pick_70 : decode cX7_pick 70 = .ok (.if_icmp .le 5, 3) := by decide +kernel
theorem dX7_pick_73 : decode cX7_pick 73 = .ok (.iload_n 2, 1) := by decide +kernel
theorem dX7_pick_74 : decode cX7_pick 74 = .ok (.istore_n 1, 1) := by decide +kernel
theorem dX7_pick_75 : decode cX7_pick 75 = .ok (.iinc 2 1, 3) := by decide +kernel
theorem dX7_pick_78 : decode cX7_pick 78 = .ok (.goto (-74), 3) := by decide +kernel
theorem dX7_pick_81 : decode cX7_pick 81 = .ok (.iload_n 1, 1) := by decide +kernel
theorem dX7_pick_82 : decode cX7_pick 82 = .ok (.ireturn, 1) := by decide +kernel
theorem dX7_oneTurn_0 : decode cX7_oneTurn 0 = .ok (.iconst 0, 1) := by decide +kernel
theorem dX7_oneTurn_1 : decode cX7_oneTurn 1 = .ok (.istore_n 1, 1) := by decide +kernel
theorem dX7_oneTurn_2 : decode cX7_oneTurn 2 = .ok (.iload_n 1, 1) := by decide +kernel
theorem dX7_oneTurn_3 : decode cX7_oneTurn 3 = .ok (.aload_n 0, 1) := by decide +kernel
theorem dX7_oneTurn_4 : decode cX7_oneTurn 4 = .ok (.getfield 103, 3) := by decide +kernel
theorem dX7_oneTurn_7 : decode cX7_oneTurn 7 = .ok (.if_icmp .ge 86, 3) := by decide +kernel
theorem dX7_oneTurn_10 : decode cX7_oneTurn 10 = .ok (.aload_n 0, 1) := by decide +kernel
theorem dX7_oneTurn_11 : decode cX7_oneTurn 11 = .ok (.getfield 90, 3) := by decide +kernel
theorem dX7_oneTurn_14 : decode cX7_oneTurn 14 = .ok (.iload_n 1, 1) := by decide +kernel
theorem dX7_oneTurn_15 : decode cX7_oneTurn 15 = .ok (.iconst 0, 1) := by decide +kernel
theorem dX7_oneTurn_16 : decode cX7_oneTurn 16 = .ok (.bastore, 1) := by decide +kernel
theorem dX7_oneTurn_17 : decode cX7_oneTurn 17 = .ok (.aload_n 0, 1) := by decide +kernel
theorem dX7_oneTurn_18 : decode cX7_oneTurn 18 = .ok (.getfield 19, 3) := by decide +kernel
theorem dX7_oneTurn_21 : decode cX7_oneTurn 21 = .ok (.iload_n 1, 1) := by decide +kernel
theorem dX7_oneTurn_22 : decode cX7_oneTurn 22 = .ok (.iaload, 1) := by decide +kernel
theorem dX7_oneTurn_23 : decode cX7_oneTurn 23 = .ok (.iconst 1, 1) := by decide +kernel
theorem dX7_oneTurn_24 : decode cX7_oneTurn 24 = .ok (.if_icmp .ne 18, 3) := by decide +kernel
theorem dX7_oneTurn_27 : decode cX7_oneTurn 27 = .ok (.aload_n 0, 1) := by decide +kernel
theorem dX7_oneTurn_28 : decode cX7_oneTurn 28 = .ok (.getfield 70, 3) := by decide +kernel
theorem dX7_oneTurn_31 : decode cX7_oneTurn 31 = .ok (.iload_n 1, 1) := by decide +kernel
theorem dX7_oneTurn_32 : decode cX7_oneTurn 32 = .ok (.laload, 1) := by decide +kernel
theorem dX7_oneTurn_33 : decode cX7_oneTurn 33 = .ok (.aload_n 0, 1) := by decide +kernel
theorem dX7_oneTurn_34 : decode cX7_oneTurn 34 = .ok (.getfield 100, 3) := by decide +kernel
theorem dX7_oneTurn_37 : decode cX7_oneTurn 37 = .ok (.i2l, 1) := by decide +kernel
theorem dX7_oneTurn_38 : decode cX7_oneTurn 38 = .ok (.lcmp, 1) := by decide +kernel
theorem dX7_oneTurn_39 : decode cX7_oneTurn 39 = .ok (.ifCond .lt 22, 3) := by decide +kernel
theorem dX7_oneTurn_42 : decode cX7_oneTurn 42 = .ok (.aload_n 0, 1) := by decide +kernel
theorem dX7_oneTurn_43 : decode cX7_oneTurn 43 = .ok (.getfield 19, 3) := by decide +kernel
theorem dX7_oneTurn_46 : decode cX7_oneTurn 46 = .ok (.iload_n 1, 1) := by decide +kernel
theorem dX7_oneTurn_47 : decode cX7_oneTurn 47 = .ok (.iaload, 1) := by decide +kernel
theorem dX7_oneTurn_48 : decode cX7_oneTurn 48 = .ok (.iconst 2, 1) := by decide +kernel
theorem dX7_oneTurn_49 : decode cX7_oneTurn 49 = .ok (.if_icmp .ne 16, 3) := by decide +kernel
theorem dX7_oneTurn_52 : decode cX7_oneTurn 52 = .ok (.aload_n 0, 1) := by decide +kernel
theorem dX7_oneTurn_53 : decode cX7_oneTurn 53 = .ok (.getfield 64, 3) := by decide +kernel
theorem dX7_oneTurn_56 : decode cX7_oneTurn 56 = .ok (.iload_n 1, 1) := by decide +kernel
theorem dX7_oneTurn_57 : decode cX7_oneTurn 57 = .ok (.iaload, 1) := by decide +kernel
theorem dX7_oneTurn_58 : decode cX7_oneTurn 58 = .ok (.ifCond .le 7, 3) := by decide +kernel
theorem dX7_oneTurn_61 : decode cX7_oneTurn 61 = .ok (.iconst 1, 1) := by decide +kernel
theorem dX7_oneTurn_62 : decode cX7_oneTurn 62 = .ok (.goto 4, 3) := by decide +kernel
theorem dX7_oneTurn_65 : decode cX7_oneTurn 65 = .ok (.iconst 0, 1) := by decide +kernel
theorem dX7_oneTurn_66 : decode cX7_oneTurn 66 = .ok (.istore_n 2, 1) := by decide +kernel
theorem dX7_oneTurn_67 : decode cX7_oneTurn 67 = .ok (.aload_n 0, 1) := by decide +kernel
theorem dX7_oneTurn_68 : decode cX7_oneTurn 68 = .ok (.getfield 19, 3) := by decide +kernel
theorem dX7_oneTurn_71 : decode cX7_oneTurn 71 = .ok (.iload_n 1, 1) := by decide +kernel
theorem dX7_oneTurn_72 : decode cX7_oneTurn 72 = .ok (.iload_n 2, 1) := by decide +kernel
theorem dX7_oneTurn_73 : decode cX7_oneTurn 73 = .ok (.ifCond .eq 7, 3) := by decide +kernel
theorem dX7_oneTurn_76 : decode cX7_oneTurn 76 = .ok (.iconst 0, 1) := by decide +kernel
theorem dX7_oneTurn_77 : decode cX7_oneTurn 77 = .ok (.goto 9, 3) := by decide +kernel
theorem dX7_oneTurn_80 : decode cX7_oneTurn 80 = .ok (.aload_n 0, 1) := by decide +kernel
theorem dX7_oneTurn_81 : decode cX7_oneTurn 81 = .ok (.getfield 19, 3) := by decide +kernel
theorem dX7_oneTurn_84 : decode cX7_oneTurn 84 = .ok (.iload_n 1, 1) := by decide +kernel
theorem dX7_oneTurn_85 : decode cX7_oneTurn 85 = .ok (.iaload, 1) := by decide +kernel
theorem dX7_oneTurn_86 : decode cX7_oneTurn 86 = .ok (.iastore, 1) := by decide +kernel
theorem dX7_oneTurn_87 : decode cX7_oneTurn 87 = .ok (.iinc 1 1, 3) := by decide +kernel
theorem dX7_oneTurn_90 : decode cX7_oneTurn 90 = .ok (.goto (-88), 3) := by decide +kernel
theorem dX7_oneTurn_93 : decode cX7_oneTurn 93 = .ok (.iconst 0, 1) := by decide +kernel
theorem dX7_oneTurn_94 : decode cX7_oneTurn 94 = .ok (.istore_n 1, 1) := by decide +kernel
theorem dX7_oneTurn_95 : decode cX7_oneTurn 95 = .ok (.iload_n 1, 1) := by decide +kernel
theorem dX7_oneTurn_96 : decode cX7_oneTurn 96 = .ok (.aload_n 0, 1) := by decide +kernel
theorem dX7_oneTurn_97 : decode cX7_oneTurn 97 = .ok (.getfield 96, 3) := by decide +kernel
theorem dX7_oneTurn_100 : decode cX7_oneTurn 100 = .ok (.if_icmp .ge 57, 3) := by decide +kernel
theorem dX7_oneTurn_103 : decode cX7_oneTurn 103 = .ok (.aload_n 0, 1) := by decide +kernel
theorem dX7_oneTurn_104 : decode cX7_oneTurn 104 = .ok (.invokevirtual 175, 3) := by decide +kernel
theorem dX7_oneTurn_107 : decode cX7_oneTurn 107 = .ok (.istore_n 2, 1) := by decide +kernel
theorem dX7_oneTurn_108 : decode cX7_oneTurn 108 = .ok (.iload_n 2, 1) := by decide +kernel
theorem dX7_oneTurn_109 : decode cX7_oneTurn 109 = .ok (.ifCond .lt 42, 3) := by decide +kernel
theorem dX7_oneTurn_112 : decode cX7_oneTurn 112 = .ok (.aload_n 0, 1) := by decide +kernel
theorem dX7_oneTurn_113 : decode cX7_oneTurn 113 = .ok (.getfield 90, 3) := by decide +kernel
theorem dX7_oneTurn_116 : decode cX7_oneTurn 116 = .ok (.iload_n 2, 1) := by decide +kernel
theorem dX7_oneTurn_117 : decode cX7_oneTurn 117 = .ok (.iconst 1, 1) := by decide +kernel
theorem dX7_oneTurn_118 : decode cX7_oneTurn 118 = .ok (.bastore, 1) := by decide +kernel
theorem dX7_oneTurn_119 : decode cX7_oneTurn 119 = .ok (.aload_n 0, 1) := by decide +kernel
theorem dX7_oneTurn_120 : decode cX7_oneTurn 120 = .ok (.getfield 16, 3) := by decide +kernel
theorem dX7_oneTurn_123 : decode cX7_oneTurn 123 = .ok (.iload_n 2, 1) := by decide +kernel
theorem dX7_oneTurn_124 : decode cX7_oneTurn 124 = .ok (.iconst 0, 1) := by decide +kernel
theorem dX7_oneTurn_125 : decode cX7_oneTurn 125 = .ok (.iastore, 1) := by decide +kernel
theorem dX7_oneTurn_126 : decode cX7_oneTurn 126 = .ok (.aload_n 0, 1) := by decide +kernel
theorem dX7_oneTurn_127 : decode cX7_oneTurn 127 = .ok (.getfield 34, 3) := by decide +kernel
theorem dX7_oneTurn_130 : decode cX7_oneTurn 130 = .ok (.iload_n 2, 1) := by decide +kernel
theorem dX7_oneTurn_131 : decode cX7_oneTurn 131 = .ok (.iaload, 1) := by decide +kernel
theorem dX7_oneTurn_132 : decode cX7_oneTurn 132 = .ok (.aload_n 0, 1) := by decide +kernel
theorem dX7_oneTurn_133 : decode cX7_oneTurn 133 = .ok (.getfield 22, 3) := by decide +kernel
theorem dX7_oneTurn_136 : decode cX7_oneTurn 136 = .ok (.iload_n 2, 1) := by decide +kernel
theorem dX7_oneTurn_137 : decode cX7_oneTurn 137 = .ok (.iaload, 1) := by decide +kernel
theorem dX7_oneTurn_138 : decode cX7_oneTurn 138 = .ok (.if_icmp .ge 8, 3) := by decide +kernel
theorem dX7_oneTurn_141 : decode cX7_oneTurn 141 = .ok (.aload_n 0, 1) := by decide +kernel
theorem dX7_oneTurn_142 : decode cX7_oneTurn 142 = .ok (.iload_n 2, 1) := by decide +kernel
theorem dX7_oneTurn_143 : decode cX7_oneTurn 143 = .ok (.invokevirtual 179, 3) := by decide +kernel
theorem dX7_oneTurn_146 : decode cX7_oneTurn 146 = .ok (.aload_n 0, 1) := by decide +kernel
theorem dX7_oneTurn_147 : decode cX7_oneTurn 147 = .ok (.iload_n 2, 1) := by decide +kernel
theorem dX7_oneTurn_148 : decode cX7_oneTurn 148 = .ok (.invokevirtual 181, 3) := by decide +kernel
theorem dX7_oneTurn_151 : decode cX7_oneTurn 151 = .ok (.iinc 1 1, 3) := by decide +kernel
theorem dX7_oneTurn_154 : decode cX7_oneTurn 154 = .ok (.goto (-59), 3) := by decide +kernel
theorem dX7_oneTurn_157 : decode cX7_oneTurn 157 = .ok (.iconst 0, 1) := by decide +kernel
theorem dX7_oneTurn_158 : decode cX7_oneTurn 158 = .ok (.istore_n 1, 1) := by decide +kernel
theorem dX7_oneTurn_159 : decode cX7_oneTurn 159 = .ok (.iload_n 1, 1) := by decide +kernel
theorem dX7_oneTurn_160 : decode cX7_oneTurn 160 = .ok (.aload_n 0, 1) := by decide +kernel
theorem dX7_oneTurn_161 : decode cX7_oneTurn 161 = .ok (.getfield 103, 3) := by decide +kernel
theorem dX7_oneTurn_164 : decode cX7_oneTurn 164 = .ok (.if_icmp .ge 41, 3) := by decide +kernel
theorem dX7_oneTurn_167 : decode cX7_oneTurn 167 = .ok (.aload_n 0, 1) := by decide +kernel
theorem dX7_oneTurn_168 : decode cX7_oneTurn 168 = .ok (.getfield 16, 3) := by decide +kernel
theorem dX7_oneTurn_171 : decode cX7_oneTurn 171 = .ok (.iload_n 1, 1) := by decide +kernel
theorem dX7_oneTurn_172 : decode cX7_oneTurn 172 = .ok (.dup2, 1) := by decide +kernel
theorem dX7_oneTurn_173 : decode cX7_oneTurn 173 = .ok (.iaload, 1) := by decide +kernel
theorem dX7_oneTurn_174 : decode cX7_oneTurn 174 = .ok (.aload_n 0, 1) := by decide +kernel
theorem dX7_oneTurn_175 : decode cX7_oneTurn 175 = .ok (.getfield 19, 3) := by decide +kernel
theorem dX7_oneTurn_178 : decode cX7_oneTurn 178 = .ok (.iload_n 1, 1) := by decide +kernel
theorem dX7_oneTurn_179 : decode cX7_oneTurn 179 = .ok (.iaload, 1) := by decide +kernel
theorem dX7_oneTurn_180 : decode cX7_oneTurn 180 = .ok (.ifCond .ne 16, 3) := by decide +kernel
theorem dX7_oneTurn_183 : decode cX7_oneTurn 183 = .ok (.aload_n 0, 1) := by decide +kernel
theorem dX7_oneTurn_184 : decode cX7_oneTurn 184 = .ok (.getfield 90, 3) := by decide +kernel
theorem dX7_oneTurn_187 : decode cX7_oneTurn 187 = .ok (.iload_n 1, 1) := by decide +kernel
theorem dX7_oneTurn_188 : decode cX7_oneTurn 188 = .ok (.baload, 1) := by decide +kernel
theorem dX7_oneTurn_189 : decode cX7_oneTurn 189 = .ok (.ifCond .ne 7, 3) := by decide +kernel
theorem dX7_oneTurn_192 : decode cX7_oneTurn 192 = .ok (.iconst 1, 1) := by decide +kernel
theorem dX7_oneTurn_193 : decode cX7_oneTurn 193 = .ok (.goto 4, 3) := by decide +kernel
theorem dX7_oneTurn_196 : decode cX7_oneTurn 196 = .ok (.iconst 0, 1) := by decide +kernel
theorem dX7_oneTurn_197 : decode cX7_oneTurn 197 = .ok (.iadd, 1) := by decide +kernel
theorem dX7_oneTurn_198 : decode cX7_oneTurn 198 = .ok (.iastore, 1) := by decide +kernel
theorem dX7_oneTurn_199 : decode cX7_oneTurn 199 = .ok (.iinc 1 1, 3) := by decide +kernel
theorem dX7_oneTurn_202 : decode cX7_oneTurn 202 = .ok (.goto (-43), 3) := by decide +kernel
theorem dX7_oneTurn_205 : decode cX7_oneTurn 205 = .ok (.aload_n 0, 1) := by decide +kernel
theorem dX7_oneTurn_206 : decode cX7_oneTurn 206 = .ok (.dup, 1) := by decide +kernel
theorem dX7_oneTurn_207 : decode cX7_oneTurn 207 = .ok (.getfield 100, 3) := by decide +kernel
theorem dX7_oneTurn_210 : decode cX7_oneTurn 210 = .ok (.iconst 1, 1) := by decide +kernel
theorem dX7_oneTurn_211 : decode cX7_oneTurn 211 = .ok (.iadd, 1) := by decide +kernel
theorem dX7_oneTurn_212 : decode cX7_oneTurn 212 = .ok (.putfield 100, 3) := by decide +kernel
theorem dX7_oneTurn_215 : decode cX7_oneTurn 215 = .ok (.return_, 1) := by decide +kernel
theorem dX7_turn_0 : decode cX7_turn 0 = .ok (.iload_n 1, 1) := by decide +kernel
theorem dX7_turn_1 : decode cX7_turn 1 = .ok (.iconst 1, 1) := by decide +kernel
theorem dX7_turn_2 : decode cX7_turn 2 = .ok (.bipush 50, 2) := by decide +kernel
theorem dX7_turn_4 : decode cX7_turn 4 = .ok (.invokestatic 106, 3) := by decide +kernel
theorem dX7_turn_7 : decode cX7_turn 7 = .ok (.ifCond .ne 5, 3) := by decide +kernel
theorem dX7_turn_10 : decode cX7_turn 10 = .ok (.iconst (-1), 1) := by decide +kernel
theorem dX7_turn_11 : decode cX7_turn 11 = .ok (.ireturn, 1) := by decide +kernel
theorem dX7_turn_12 : decode cX7_turn 12 = .ok (.aload_n 0, 1) := by decide +kernel
theorem dX7_turn_13 : decode cX7_turn 13 = .ok (.getfield 150, 3) := by decide +kernel
theorem dX7_turn_16 : decode cX7_turn 16 = .ok (.istore_n 2, 1) := by decide +kernel
theorem dX7_turn_17 : decode cX7_turn 17 = .ok (.iconst 1, 1) := by decide +kernel
theorem dX7_turn_18 : decode cX7_turn 18 = .ok (.istore_n 3, 1) := by decide +kernel
theorem dX7_turn_19 : decode cX7_turn 19 = .ok (.iconst 0, 1) := by decide +kernel
theorem dX7_turn_20 : decode cX7_turn 20 = .ok (.istore 4, 2) := by decide +kernel
theorem dX7_turn_22 : decode cX7_turn 22 = .ok (.iload 4, 2) := by decide +kernel
theorem dX7_turn_24 : decode cX7_turn 24 = .ok (.iload_n 1, 1) := by decide +kernel
theorem dX7_turn_25 : decode cX7_turn 25 = .ok (.if_icmp .ge 38, 3) := by decide +kernel
theorem dX7_turn_28 : decode cX7_turn 28 = .ok (.iload_n 3, 1) := by decide +kernel
theorem dX7_turn_29 : decode cX7_turn 29 = .ok (.ifCond .eq 34, 3) := by decide +kernel
theorem dX7_turn_32 : decode cX7_turn 32 = .ok (.aload_n 0, 1) := by decide +kernel
theorem dX7_turn_33 : decode cX7_turn 33 = .ok (.getfield 150, 3) := by decide +kernel
theorem dX7_turn_36 : decode cX7_turn 36 = .ok (.istore 5, 2) := by decide +kernel
theorem dX7_turn_38 : decode cX7_turn 38 = .ok (.aload_n 0, 1) := by decide +kernel
theorem dX7_turn_39 : decode cX7_turn 39 = .ok (.invokevirtual 184, 3) := by decide +kernel
theorem dX7_turn_42 : decode cX7_turn 42 = .ok (.aload_n 0, 1) := by decide +kernel
theorem dX7_turn_43 : decode cX7_turn 43 = .ok (.getfield 150, 3) := by decide +kernel
theorem dX7_turn_46 : decode cX7_turn 46 = .ok (.iload 5, 2) := by decide +kernel
theorem dX7_turn_48 : decode cX7_turn 48 = .ok (.if_icmp .le 7, 3) := by decide +kernel
theorem dX7_turn_51 : decode cX7_turn 51 = .ok (.iconst 1, 1) := by decide +kernel
theorem dX7_turn_52 : decode cX7_turn 52 = .ok (.goto 4, 3) := by decide +kernel
theorem dX7_turn_55 : decode cX7_turn 55 = .ok (.iconst 0, 1) := by decide +kernel
theorem dX7_turn_56 : decode cX7_turn 56 = .ok (.istore_n 3, 1) := by decide +kernel
theorem dX7_turn_57 : decode cX7_turn 57 = .ok (.iinc 4 1, 3) := by decide +kernel
theorem dX7_turn_60 : decode cX7_turn 60 = .ok (.goto (-38), 3) := by decide +kernel
theorem dX7_turn_63 : decode cX7_turn 63 = .ok (.aload_n 0, 1) := by decide +kernel
theorem dX7_turn_64 : decode cX7_turn 64 = .ok (.getfield 150, 3) := by decide +kernel
theorem dX7_turn_67 : decode cX7_turn 67 = .ok (.iload_n 2, 1) := by decide +kernel
theorem dX7_turn_68 : decode cX7_turn 68 = .ok (.isub, 1) := by decide +kernel
theorem dX7_turn_69 : decode cX7_turn 69 = .ok (.ireturn, 1) := by decide +kernel
theorem dX7_letter_0 : decode cX7_letter 0 = .ok (.aload_n 0, 1) := by decide +kernel
theorem dX7_letter_1 : decode cX7_letter 1 = .ok (.iload_n 1, 1) := by decide +kernel
theorem dX7_letter_2 : decode cX7_letter 2 = .ok (.invokevirtual 110, 3) := by decide +kernel
theorem dX7_letter_5 : decode cX7_letter 5 = .ok (.ifCond .ne 5, 3) := by decide +kernel
theorem dX7_letter_8 : decode cX7_letter 8 = .ok (.iconst (-1), 1) := by decide +kernel
theorem dX7_letter_9 : decode cX7_letter 9 = .ok (.ireturn, 1) := by decide +kernel
theorem dX7_letter_10 : decode cX7_letter 10 = .ok (.aload_n 0, 1) := by decide +kernel
theorem dX7_letter_11 : decode cX7_letter 11 = .ok (.getfield 19, 3) := by decide +kernel
theorem dX7_letter_14 : decode cX7_letter 14 = .ok (.iload_n 1, 1) := by decide +kernel
theorem dX7_letter_15 : decode cX7_letter 15 = .ok (.iaload, 1) := by decide +kernel
theorem dX7_letter_16 : decode cX7_letter 16 = .ok (.invokestatic 118, 3) := by decide +kernel
theorem dX7_letter_19 : decode cX7_letter 19 = .ok (.ifCond .eq 6, 3) := by decide +kernel
theorem dX7_letter_22 : decode cX7_letter 22 = .ok (.bipush (-2), 2) := by decide +kernel
theorem dX7_letter_24 : decode cX7_letter 24 = .ok (.ireturn, 1) := by decide +kernel
theorem dX7_letter_25 : decode cX7_letter 25 = .ok (.aload_n 0, 1) := by decide +kernel
theorem dX7_letter_26 : decode cX7_letter 26 = .ok (.getfield 64, 3) := by decide +kernel
theorem dX7_letter_29 : decode cX7_letter 29 = .ok (.iload_n 1, 1) := by decide +kernel
theorem dX7_letter_30 : decode cX7_letter 30 = .ok (.iaload, 1) := by decide +kernel
theorem dX7_letter_31 : decode cX7_letter 31 = .ok (.bipush 6, 2) := by decide +kernel
theorem dX7_letter_33 : decode cX7_letter 33 = .ok (.if_icmp .ne 6, 3) := by decide +kernel
theorem dX7_letter_36 : decode cX7_letter 36 = .ok (.bipush (-3), 2) := by decide +kernel
theorem dX7_letter_38 : decode cX7_letter 38 = .ok (.ireturn, 1) := by decide +kernel
theorem dX7_letter_39 : decode cX7_letter 39 = .ok (.aload_n 0, 1) := by decide +kernel
theorem dX7_letter_40 : decode cX7_letter 40 = .ok (.getfield 67, 3) := by decide +kernel
theorem dX7_letter_43 : decode cX7_letter 43 = .ok (.bipush 6, 2) := by decide +kernel
theorem dX7_letter_45 : decode cX7_letter 45 = .ok (.iload_n 1, 1) := by decide +kernel
theorem dX7_letter_46 : decode cX7_letter 46 = .ok (.imul, 1) := by decide +kernel
theorem dX7_letter_47 : decode cX7_letter 47 = .ok (.aload_n 0, 1) := by decide +kernel
theorem dX7_letter_48 : decode cX7_letter 48 = .ok (.getfield 64, 3) := by decide +kernel
theorem dX7_letter_51 : decode cX7_letter 51 = .ok (.iload_n 1, 1) := by decide +kernel
theorem dX7_letter_52 : decode cX7_letter 52 = .ok (.iaload, 1) := by decide +kernel
theorem dX7_letter_53 : decode cX7_letter 53 = .ok (.iadd, 1) := by decide +kernel
theorem dX7_letter_54 : decode cX7_letter 54 = .ok (.iload_n 2, 1) := by decide +kernel
theorem dX7_letter_55 : decode cX7_letter 55 = .ok (.iastore, 1) := by decide +kernel
theorem dX7_letter_56 : decode cX7_letter 56 = .ok (.aload_n 0, 1) := by decide +kernel
theorem dX7_letter_57 : decode cX7_letter 57 = .ok (.getfield 64, 3) := by decide +kernel
theorem dX7_letter_60 : decode cX7_letter 60 = .ok (.iload_n 1, 1) := by decide +kernel
theorem dX7_letter_61 : decode cX7_letter 61 = .ok (.dup2, 1) := by decide +kernel
theorem dX7_letter_62 : decode cX7_letter 62 = .ok (.iaload, 1) := by decide +kernel
theorem dX7_letter_63 : decode cX7_letter 63 = .ok (.iconst 1, 1) := by decide +kernel
theorem dX7_letter_64 : decode cX7_letter 64 = .ok (.iadd, 1) := by decide +kernel
theorem dX7_letter_65 : decode cX7_letter 65 = .ok (.iastore, 1) := by decide +kernel
theorem dX7_letter_66 : decode cX7_letter 66 = .ok (.aload_n 0, 1) := by decide +kernel
theorem dX7_letter_67 : decode cX7_letter 67 = .ok (.getfield 64, 3) := by decide +kernel
theorem dX7_letter_70 : decode cX7_letter 70 = .ok (.iload_n 1, 1) := by decide +kernel
theorem dX7_letter_71 : decode cX7_letter 71 = .ok (.iaload, 1) := by decide +kernel
theorem dX7_letter_72 : decode cX7_letter 72 = .ok (.ireturn, 1) := by decide +kernel
theorem dX7_stop_0 : decode cX7_stop 0 = .ok (.aload_n 0, 1) := by decide +kernel
theorem dX7_stop_1 : decode cX7_stop 1 = .ok (.iload_n 1, 1) := by decide +kernel
theorem dX7_stop_2 : decode cX7_stop 2 = .ok (.invokevirtual 110, 3) := by decide +kernel
theorem dX7_stop_5 : decode cX7_stop 5 = .ok (.ifCond .ne 5, 3) := by decide +kernel
theorem dX7_stop_8 : decode cX7_stop 8 = .ok (.iconst (-1), 1) := by decide +kernel
theorem dX7_stop_9 : decode cX7_stop 9 = .ok (.ireturn, 1) := by decide +kernel
theorem dX7_stop_10 : decode cX7_stop 10 = .ok (.aload_n 0, 1) := by decide +kernel
theorem dX7_stop_11 : decode cX7_stop 11 = .ok (.getfield 19, 3) := by decide +kernel
theorem dX7_stop_14 : decode cX7_stop 14 = .ok (.iload_n 1, 1) := by decide +kernel
theorem dX7_stop_15 : decode cX7_stop 15 = .ok (.iaload, 1) := by decide +kernel
theorem dX7_stop_16 : decode cX7_stop 16 = .ok (.invokestatic 118, 3) := by decide +kernel
theorem dX7_stop_19 : decode cX7_stop 19 = .ok (.ifCond .eq 6, 3) := by decide +kernel
theorem dX7_stop_22 : decode cX7_stop 22 = .ok (.bipush (-2), 2) := by decide +kernel
theorem dX7_stop_24 : decode cX7_stop 24 = .ok (.ireturn, 1) := by decide +kernel
theorem dX7_stop_25 : decode cX7_stop 25 = .ok (.aload_n 0, 1) := by decide +kernel
theorem dX7_stop_26 : decode cX7_stop 26 = .ok (.getfield 19, 3) := by decide +kernel
theorem dX7_stop_29 : decode cX7_stop 29 = .ok (.iload_n 1, 1) := by decide +kernel
theorem dX7_stop_30 : decode cX7_stop 30 = .ok (.iconst 5, 1) := by decide +kernel
theorem dX7_stop_31 : decode cX7_stop 31 = .ok (.iastore, 1) := by decide +kernel
theorem dX7_stop_32 : decode cX7_stop 32 = .ok (.iconst 1, 1) := by decide +kernel
theorem dX7_stop_33 : decode cX7_stop 33 = .ok (.ireturn, 1) := by decide +kernel
theorem dX7_again_0 : decode cX7_again 0 = .ok (.aload_n 0, 1) := by decide +kernel
theorem dX7_again_1 : decode cX7_again 1 = .ok (.iload_n 1, 1) := by decide +kernel
theorem dX7_again_2 : decode cX7_again 2 = .ok (.invokevirtual 110, 3) := by decide +kernel
theorem dX7_again_5 : decode cX7_again 5 = .ok (.ifCond .ne 5, 3) := by decide +kernel
theorem dX7_again_8 : decode cX7_again 8 = .ok (.iconst (-1), 1) := by decide +kernel
theorem dX7_again_9 : decode cX7_again 9 = .ok (.ireturn, 1) := by decide +kernel
theorem dX7_again_10 : decode cX7_again 10 = .ok (.aload_n 0, 1) := by decide +kernel
theorem dX7_again_11 : decode cX7_again 11 = .ok (.getfield 19, 3) := by decide +kernel
theorem dX7_again_14 : decode cX7_again 14 = .ok (.iload_n 1, 1) := by decide +kernel
theorem dX7_again_15 : decode cX7_again 15 = .ok (.iaload, 1) := by decide +kernel
theorem dX7_again_16 : decode cX7_again 16 = .ok (.iconst 4, 1) := by decide +kernel
theorem dX7_again_17 : decode cX7_again 17 = .ok (.if_icmp .eq 16, 3) := by decide +kernel
theorem dX7_again_20 : decode cX7_again 20 = .ok (.aload_n 0, 1) := by decide +kernel
theorem dX7_again_21 : decode cX7_again 21 = .ok (.getfield 19, 3) := by decide +kernel
theorem dX7_again_24 : decode cX7_again 24 = .ok (.iload_n 1, 1) := by decide +kernel
theorem dX7_again_25 : decode cX7_again 25 = .ok (.iaload, 1) := by decide +kernel
theorem dX7_again_26 : decode cX7_again 26 = .ok (.iconst 5, 1) := by decide +kernel
theorem dX7_again_27 : decode cX7_again 27 = .ok (.if_icmp .eq 6, 3) := by decide +kernel
theorem dX7_again_30 : decode cX7_again 30 = .ok (.bipush (-2), 2) := by decide +kernel
theorem dX7_again_32 : decode cX7_again 32 = .ok (.ireturn, 1) := by decide +kernel
theorem dX7_again_33 : decode cX7_again 33 = .ok (.aload_n 0, 1) := by decide +kernel
theorem dX7_again_34 : decode cX7_again 34 = .ok (.getfield 19, 3) := by decide +kernel
theorem dX7_again_37 : decode cX7_again 37 = .ok (.iload_n 1, 1) := by decide +kernel
theorem dX7_again_38 : decode cX7_again 38 = .ok (.iconst 0, 1) := by decide +kernel
theorem dX7_again_39 : decode cX7_again 39 = .ok (.iastore, 1) := by decide +kernel
theorem dX7_again_40 : decode cX7_again 40 = .ok (.aload_n 0, 1) := by decide +kernel
theorem dX7_again_41 : decode cX7_again 41 = .ok (.iload_n 1, 1) := by decide +kernel
theorem dX7_again_42 : decode cX7_again 42 = .ok (.invokevirtual 162, 3) := by decide +kernel
theorem dX7_again_45 : decode cX7_again 45 = .ok (.iconst 1, 1) := by decide +kernel
theorem dX7_again_46 : decode cX7_again 46 = .ok (.ireturn, 1) := by decide +kernel
theorem dX7_of_0 : decode cX7_of 0 = .ok (.aload_n 0, 1) := by decide +kernel
theorem dX7_of_1 : decode cX7_of 1 = .ok (.iload_n 1, 1) := by decide +kernel
theorem dX7_of_2 : decode cX7_of 2 = .ok (.invokevirtual 110, 3) := by decide +kernel
theorem dX7_of_5 : decode cX7_of 5 = .ok (.ifCond .ne 5, 3) := by decide +kernel
theorem dX7_of_8 : decode cX7_of 8 = .ok (.iconst (-1), 1) := by decide +kernel
theorem dX7_of_9 : decode cX7_of 9 = .ok (.ireturn, 1) := by decide +kernel
theorem dX7_of_10 : decode cX7_of 10 = .ok (.iload_n 2, 1) := by decide +kernel
theorem dX7_of_11 : decode cX7_of 11 = .ok (.tableswitch 134 0 10 #[57, 64, 71, 78, 85, 92, 99, 106, 113, 120, 127], 57) := by decide +kernel
theorem dX7_of_68 : decode cX7_of 68 = .ok (.aload_n 0, 1) := by decide +kernel
theorem dX7_of_69 : decode cX7_of 69 = .ok (.getfield 19, 3) := by decide +kernel
theorem dX7_of_72 : decode cX7_of 72 = .ok (.iload_n 1, 1) := by decide +kernel
theorem dX7_of_73 : decode cX7_of 73 = .ok (.iaload, 1) := by decide +kernel
theorem dX7_of_74 : decode cX7_of 74 = .ok (.ireturn, 1) := by decide +kernel
theorem dX7_of_75 : decode cX7_of 75 = .ok (.aload_n 0, 1) := by decide +kernel
theorem dX7_of_76 : decode cX7_of 76 = .ok (.getfield 37, 3) := by decide +kernel
theorem dX7_of_79 : decode cX7_of 79 = .ok (.iload_n 1, 1) := by decide +kernel
theorem dX7_of_80 : decode cX7_of 80 = .ok (.iaload, 1) := by decide +kernel
theorem dX7_of_81 : decode cX7_of 81 = .ok (.ireturn, 1) := by decide +kernel
theorem dX7_of_82 : decode cX7_of 82 = .ok (.aload_n 0, 1) := by decide +kernel
theorem dX7_of_83 : decode cX7_of 83 = .ok (.getfield 34, 3) := by decide +kernel
theorem dX7_of_86 : decode cX7_of 86 = .ok (.iload_n 1, 1) := by decide +kernel
theorem dX7_of_87 : decode cX7_of 87 = .ok (.iaload, 1) := by decide +kernel
theorem dX7_of_88 : decode cX7_of 88 = .ok (.ireturn, 1) := by decide +kernel
theorem dX7_of_89 : decode cX7_of 89 = .ok (.aload_n 0, 1) := by decide +kernel
theorem dX7_of_90 : decode cX7_of 90 = .ok (.getfield 64, 3) := by decide +kernel
theorem dX7_of_93 : decode cX7_of 93 = .ok (.iload_n 1, 1) := by decide +kernel
theorem dX7_of_94 : decode cX7_of 94 = .ok (.iaload, 1) := by decide +kernel
theorem dX7_of_95 : decode cX7_of 95 = .ok (.ireturn, 1) := by decide +kernel
theorem dX7_of_96 : decode cX7_of 96 = .ok (.aload_n 0, 1) := by decide +kernel
theorem dX7_of_97 : decode cX7_of 97 = .ok (.getfield 16, 3) := by decide +kernel
theorem dX7_of_100 : decode cX7_of 100 = .ok (.iload_n 1, 1) := by decide +kernel
theorem dX7_of_101 : decode cX7_of 101 = .ok (.iaload, 1) := by decide +kernel
theorem dX7_of_102 : decode cX7_of 102 = .ok (.ireturn, 1) := by decide +kernel
theorem dX7_of_103 : decode cX7_of 103 = .ok (.aload_n 0, 1) := by decide +kernel
theorem dX7_of_104 : decode cX7_of 104 = .ok (.getfield 74, 3) := by decide +kernel
theorem dX7_of_107 : decode cX7_of 107 = .ok (.iload_n 1, 1) := by decide +kernel
theorem dX7_of_108 : decode cX7_of 108 = .ok (.iaload, 1) := by decide +kernel
theorem dX7_of_109 : decode cX7_of 109 = .ok (.ireturn, 1) := by decide +kernel
theorem dX7_of_110 : decode cX7_of 110 = .ok (.aload_n 0, 1) := by decide +kernel
theorem dX7_of_111 : decode cX7_of 111 = .ok (.getfield 77, 3) := by decide +kernel
theorem dX7_of_114 : decode cX7_of 114 = .ok (.iload_n 1, 1) := by decide +kernel
theorem dX7_of_115 : decode cX7_of 115 = .ok (.iaload, 1) := by decide +kernel
theorem dX7_of_116 : decode cX7_of 116 = .ok (.ireturn, 1) := by decide +kernel
theorem dX7_of_117 : decode cX7_of 117 = .ok (.aload_n 0, 1) := by decide +kernel
theorem dX7_of_118 : decode cX7_of 118 = .ok (.getfield 40, 3) := by decide +kernel
theorem dX7_of_121 : decode cX7_of 121 = .ok (.iload_n 1, 1) := by decide +kernel
theorem dX7_of_122 : decode cX7_of 122 = .ok (.iaload, 1) := by decide +kernel
theorem dX7_of_123 : decode cX7_of 123 = .ok (.ireturn, 1) := by decide +kernel
theorem dX7_of_124 : decode cX7_of 124 = .ok (.aload_n 0, 1) := by decide +kernel
theorem dX7_of_125 : decode cX7_of 125 = .ok (.getfield 58, 3) := by decide +kernel
theorem dX7_of_128 : decode cX7_of 128 = .ok (.iload_n 1, 1) := by decide +kernel
theorem dX7_of_129 : decode cX7_of 129 = .ok (.iaload, 1) := by decide +kernel
theorem dX7_of_130 : decode cX7_of 130 = .ok (.ireturn, 1) := by decide +kernel
theorem dX7_of_131 : decode cX7_of 131 = .ok (.aload_n 0, 1) := by decide +kernel
theorem dX7_of_132 : decode cX7_of 132 = .ok (.getfield 83, 3) := by decide +kernel
theorem dX7_of_135 : decode cX7_of 135 = .ok (.iload_n 1, 1) := by decide +kernel
theorem dX7_of_136 : decode cX7_of 136 = .ok (.iaload, 1) := by decide +kernel
theorem dX7_of_137 : decode cX7_of 137 = .ok (.ireturn, 1) := by decide +kernel
theorem dX7_of_138 : decode cX7_of 138 = .ok (.aload_n 0, 1) := by decide +kernel
theorem dX7_of_139 : decode cX7_of 139 = .ok (.getfield 80, 3) := by decide +kernel
theorem dX7_of_142 : decode cX7_of 142 = .ok (.iload_n 1, 1) := by decide +kernel
theorem dX7_of_143 : decode cX7_of 143 = .ok (.iaload, 1) := by decide +kernel
theorem dX7_of_144 : decode cX7_of 144 = .ok (.ireturn, 1) := by decide +kernel
theorem dX7_of_145 : decode cX7_of 145 = .ok (.iconst (-1), 1) := by decide +kernel
theorem dX7_of_146 : decode cX7_of 146 = .ok (.ireturn, 1) := by decide +kernel
theorem dX7_at_0 : decode cX7_at 0 = .ok (.aload_n 0, 1) := by decide +kernel
theorem dX7_at_1 : decode cX7_at 1 = .ok (.iload_n 1, 1) := by decide +kernel
theorem dX7_at_2 : decode cX7_at 2 = .ok (.invokevirtual 110, 3) := by decide +kernel
theorem dX7_at_5 : decode cX7_at 5 = .ok (.ifCond .ne 5, 3) := by decide +kernel
theorem dX7_at_8 : decode cX7_at 8 = .ok (.iconst (-1), 1) := by decide +kernel
theorem dX7_at_9 : decode cX7_at 9 = .ok (.ireturn, 1) := by decide +kernel
theorem dX7_at_10 : decode cX7_at 10 = .ok (.iload_n 2, 1) := by decide +kernel
theorem dX7_at_11 : decode cX7_at 11 = .ok (.ifCond .eq 38, 3) := by decide +kernel
theorem dX7_at_14 : decode cX7_at 14 = .ok (.aload_n 0, 1) := by decide +kernel
theorem dX7_at_15 : decode cX7_at 15 = .ok (.getfield 58, 3) := by decide +kernel
theorem dX7_at_18 : decode cX7_at 18 = .ok (.iload_n 1, 1) := by decide +kernel
theorem dX7_at_19 : decode cX7_at 19 = .ok (.iaload, 1) := by decide +kernel
theorem dX7_at_20 : decode cX7_at 20 = .ok (.bipush (-4), 2) := by decide +kernel
theorem dX7_at_22 : decode cX7_at 22 = .ok (.if_icmp .eq 12, 3) := by decide +kernel
theorem dX7_at_25 : decode cX7_at 25 = .ok (.iload_n 3, 1) := by decide +kernel
theorem dX7_at_26 : decode cX7_at 26 = .ok (.iconst 0, 1) := by decide +kernel
theorem dX7_at_27 : decode cX7_at 27 = .ok (.iconst 2, 1) := by decide +kernel
theorem dX7_at_28 : decode cX7_at 28 = .ok (.invokestatic 106, 3) := by decide +kernel
theorem dX7_at_31 : decode cX7_at 31 = .ok (.ifCond .ne 7, 3) := by decide +kernel
theorem dX7_at_34 : decode cX7_at 34 = .ok (.iconst (-1), 1) := by decide +kernel
theorem dX7_at_35 : decode cX7_at 35 = .ok (.goto 13, 3) := by decide +kernel
theorem dX7_at_38 : decode cX7_at 38 = .ok (.aload_n 0, 1) := by decide +kernel
theorem dX7_at_39 : decode cX7_at 39 = .ok (.getfield 61, 3) := by decide +kernel
theorem dX7_at_42 : decode cX7_at 42 = .ok (.iconst 3, 1) := by decide +kernel
theorem dX7_at_43 : decode cX7_at 43 = .ok (.iload_n 1, 1) := by decide +kernel
theorem dX7_at_44 : decode cX7_at 44 = .ok (.imul, 1) := by decide +kernel
theorem dX7_at_45 : decode cX7_at 45 = .ok (.iload_n 3, 1) := by decide +kernel
theorem dX7_at_46 : decode cX7_at 46 = .ok (.iadd, 1) := by decide +kernel
theorem dX7_at_47 : decode cX7_at 47 = .ok (.iaload, 1) := by decide +kernel
theorem dX7_at_48 : decode cX7_at 48 = .ok (.ireturn, 1) := by decide +kernel
theorem dX7_at_49 : decode cX7_at 49 = .ok (.iload_n 3, 1) := by decide +kernel
theorem dX7_at_50 : decode cX7_at 50 = .ok (.iconst 0, 1) := by decide +kernel
theorem dX7_at_51 : decode cX7_at 51 = .ok (.aload_n 0, 1) := by decide +kernel
theorem dX7_at_52 : decode cX7_at 52 = .ok (.getfield 40, 3) := by decide +kernel
theorem dX7_at_55 : decode cX7_at 55 = .ok (.iload_n 1, 1) := by decide +kernel
theorem dX7_at_56 : decode cX7_at 56 = .ok (.iaload, 1) := by decide +kernel
theorem dX7_at_57 : decode cX7_at 57 = .ok (.iconst 1, 1) := by decide +kernel
theorem dX7_at_58 : decode cX7_at 58 = .ok (.isub, 1) := by decide +kernel
theorem dX7_at_59 : decode cX7_at 59 = .ok (.invokestatic 106, 3) := by decide +kernel
theorem dX7_at_62 : decode cX7_at 62 = .ok (.ifCond .eq 17, 3) := by decide +kernel
theorem dX7_at_65 : decode cX7_at 65 = .ok (.aload_n 0, 1) := by decide +kernel
theorem dX7_at_66 : decode cX7_at 66 = .ok (.getfield 43, 3) := by decide +kernel
theorem dX7_at_69 : decode cX7_at 69 = .ok (.bipush 100, 2) := by decide +kernel
theorem dX7_at_71 : decode cX7_at 71 = .ok (.iload_n 1, 1) := by decide +kernel
theorem dX7_at_72 : decode cX7_at 72 = .ok (.imul, 1) := by decide +kernel
theorem dX7_at_73 : decode cX7_at 73 = .ok (.iload_n 3, 1) := by decide +kernel
theorem dX7_at_74 : decode cX7_at 74 = .ok (.iadd, 1) := by decide +kernel
theorem dX7_at_75 : decode cX7_at 75 = .ok (.iaload, 1) := by decide +kernel
theorem dX7_at_76 : decode cX7_at 76 = .ok (.goto 4, 3) := by decide +kernel
theorem dX7_at_79 : decode cX7_at 79 = .ok (.iconst (-1), 1) := by decide +kernel
theorem dX7_at_80 : decode cX7_at 80 = .ok (.ireturn, 1) := by decide +kernel
theorem dX7_letterAt_0 : decode cX7_letterAt 0 = .ok (.aload_n 0, 1) := by decide +kernel
theorem dX7_letterAt_1 : decode cX7_letterAt 1 = .ok (.iload_n 1, 1) := by decide +kernel
theorem dX7_letterAt_2 : decode cX7_letterAt 2 = .ok (.invokevirtual 110, 3) := by decide +kernel
theorem dX7_letterAt_5 : decode cX7_letterAt 5 = .ok (.ifCond .eq 33, 3) := by decide +kernel
theorem dX7_letterAt_8 : decode cX7_letterAt 8 = .ok (.iload_n 2, 1) := by decide +kernel
theorem dX7_letterAt_9 : decode cX7_letterAt 9 = .ok (.iconst 0, 1) := by decide +kernel
theorem dX7_letterAt_10 : decode cX7_letterAt 10 = .ok (.aload_n 0, 1) := by decide +kernel
theorem dX7_letterAt_11 : decode cX7_letterAt 11 = .ok (.getfield 64, 3) := by decide +kernel
theorem dX7_letterAt_14 : decode cX7_letterAt 14 = .ok (.iload_n 1, 1) := by decide +kernel
theorem dX7_letterAt_15 : decode cX7_letterAt 15 = .ok (.iaload, 1) := by decide +kernel
theorem dX7_letterAt_16 : decode cX7_letterAt 16 = .ok (.iconst 1, 1) := by decide +kernel
theorem dX7_letterAt_17 : decode cX7_letterAt 17 = .ok (.isub, 1) := by decide +kernel
theorem dX7_letterAt_18 : decode cX7_letterAt 18 = .ok (.invokestatic 106, 3) := by decide +kernel
theorem dX7_letterAt_21 : decode cX7_letterAt 21 = .ok (.ifCond .eq 17, 3) := by decide +kernel
theorem dX7_letterAt_24 : decode cX7_letterAt 24 = .ok (.aload_n 0, 1) := by decide +kernel
theorem dX7_letterAt_25 : decode cX7_letterAt 25 = .ok (.getfield 67, 3) := by decide +kernel
theorem dX7_letterAt_28 : decode cX7_letterAt 28 = .ok (.bipush 6, 2) := by decide +kernel
theorem dX7_letterAt_30 : decode cX7_letterAt 30 = .ok (.iload_n 1, 1) := by decide +kernel
theorem dX7_letterAt_31 : decode cX7_letterAt 31 = .ok (.imul, 1) := by decide +kernel
theorem dX7_letterAt_32 : decode cX7_letterAt 32 = .ok (.iload_n 2, 1) := by decide +kernel
theorem dX7_letterAt_33 : decode cX7_letterAt 33 = .ok (.iadd, 1) := by decide +kernel
theorem dX7_letterAt_34 : decode cX7_letterAt 34 = .ok (.iaload, 1) := by decide +kernel
theorem dX7_letterAt_35 : decode cX7_letterAt 35 = .ok (.goto 4, 3) := by decide +kernel
theorem dX7_letterAt_38 : decode cX7_letterAt 38 = .ok (.iconst (-1), 1) := by decide +kernel
theorem dX7_letterAt_39 : decode cX7_letterAt 39 = .ok (.ireturn, 1) := by decide +kernel
theorem dX7_count_0 : decode cX7_count 0 = .ok (.iconst 0, 1) := by decide +kernel
theorem dX7_count_1 : decode cX7_count 1 = .ok (.istore_n 2, 1) := by decide +kernel
theorem dX7_count_2 : decode cX7_count 2 = .ok (.iconst 0, 1) := by decide +kernel
theorem dX7_count_3 : decode cX7_count 3 = .ok (.istore_n 3, 1) := by decide +kernel
theorem dX7_count_4 : decode cX7_count 4 = .ok (.iload_n 3, 1) := by decide +kernel
theorem dX7_count_5 : decode cX7_count 5 = .ok (.aload_n 0, 1) := by decide +kernel
theorem dX7_count_6 : decode cX7_count 6 = .ok (.getfield 103, 3) := by decide +kernel
theorem dX7_count_9 : decode cX7_count 9 = .ok (.if_icmp .ge 29, 3) := by decide +kernel
theorem dX7_count_12 : decode cX7_count 12 = .ok (.iload_n 2, 1) := by decide +kernel
theorem dX7_count_13 : decode cX7_count 13 = .ok (.aload_n 0, 1) := by decide +kernel
theorem dX7_count_14 : decode cX7_count 14 = .ok (.getfield 19, 3) := by decide +kernel
theorem dX7_count_17 : decode cX7_count 17 = .ok (.iload_n 3, 1) := by decide +kernel
theorem dX7_count_18 : decode cX7_count 18 = .ok (.iaload, 1) := by decide +kernel
theorem dX7_count_19 : decode cX7_count 19 = .ok (.invokestatic 118, 3) := by decide +kernel
theorem dX7_count_22 : decode cX7_count 22 = .ok (.ifCond .eq 7, 3) := by decide +kernel
theorem dX7_count_25 : decode cX7_count 25 = .ok (.iconst 0, 1) := by decide +kernel
theorem dX7_count_26 : decode cX7_count 26 = .ok (.goto 4, 3) := by decide +kernel
theorem dX7_count_29 : decode cX7_count 29 = .ok (.iconst 1, 1) := by decide +kernel
theorem dX7_count_30 : decode cX7_count 30 = .ok (.iadd, 1) := by decide +kernel
theorem dX7_count_31 : decode cX7_count 31 = .ok (.istore_n 2, 1) := by decide +kernel
theorem dX7_count_32 : decode cX7_count 32 = .ok (.iinc 3 1, 3) := by decide +kernel
theorem dX7_count_35 : decode cX7_count 35 = .ok (.goto (-31), 3) := by decide +kernel
theorem dX7_count_38 : decode cX7_count 38 = .ok (.iload_n 1, 1) := by decide +kernel
theorem dX7_count_39 : decode cX7_count 39 = .ok (.tableswitch 73 0 6 #[41, 46, 51, 56, 61, 66, 71], 41) := by decide +kernel
theorem dX7_count_80 : decode cX7_count 80 = .ok (.aload_n 0, 1) := by decide +kernel
theorem dX7_count_81 : decode cX7_count 81 = .ok (.getfield 103, 3) := by decide +kernel
theorem dX7_count_84 : decode cX7_count 84 = .ok (.ireturn, 1) := by decide +kernel
theorem dX7_count_85 : decode cX7_count 85 = .ok (.aload_n 0, 1) := by decide +kernel
theorem dX7_count_86 : decode cX7_count 86 = .ok (.getfield 100, 3) := by decide +kernel
theorem dX7_count_89 : decode cX7_count 89 = .ok (.ireturn, 1) := by decide +kernel
theorem dX7_count_90 : decode cX7_count 90 = .ok (.aload_n 0, 1) := by decide +kernel
theorem dX7_count_91 : decode cX7_count 91 = .ok (.getfield 150, 3) := by decide +kernel
theorem dX7_count_94 : decode cX7_count 94 = .ok (.ireturn, 1) := by decide +kernel
theorem dX7_count_95 : decode cX7_count 95 = .ok (.aload_n 0, 1) := by decide +kernel
theorem dX7_count_96 : decode cX7_count 96 = .ok (.getfield 121, 3) := by decide +kernel
theorem dX7_count_99 : decode cX7_count 99 = .ok (.ireturn, 1) := by decide +kernel
theorem dX7_count_100 : decode cX7_count 100 = .ok (.aload_n 0, 1) := by decide +kernel
theorem dX7_count_101 : decode cX7_count 101 = .ok (.getfield 156, 3) := by decide +kernel
theorem dX7_count_104 : decode cX7_count 104 = .ok (.ireturn, 1) := by decide +kernel
theorem dX7_count_105 : decode cX7_count 105 = .ok (.aload_n 0, 1) := by decide +kernel
theorem dX7_count_106 : decode cX7_count 106 = .ok (.getfield 159, 3) := by decide +kernel
theorem dX7_count_109 : decode cX7_count 109 = .ok (.ireturn, 1) := by decide +kernel
theorem dX7_count_110 : decode cX7_count 110 = .ok (.iload_n 2, 1) := by decide +kernel
theorem dX7_count_111 : decode cX7_count 111 = .ok (.ireturn, 1) := by decide +kernel
theorem dX7_count_112 : decode cX7_count 112 = .ok (.iconst (-1), 1) := by decide +kernel
theorem dX7_count_113 : decode cX7_count 113 = .ok (.ireturn, 1) := by decide +kernel
theorem dX7_done_0 : decode cX7_done 0 = .ok (.iload_n 1, 1) := by decide +kernel
theorem dX7_done_1 : decode cX7_done 1 = .ok (.iconst 0, 1) := by decide +kernel
theorem dX7_done_2 : decode cX7_done 2 = .ok (.aload_n 0, 1) := by decide +kernel
theorem dX7_done_3 : decode cX7_done 3 = .ok (.getfield 172, 3) := by decide +kernel
theorem dX7_done_6 : decode cX7_done 6 = .ok (.iconst 1, 1) := by decide +kernel
theorem dX7_done_7 : decode cX7_done 7 = .ok (.isub, 1) := by decide +kernel
theorem dX7_done_8 : decode cX7_done 8 = .ok (.invokestatic 106, 3) := by decide +kernel
theorem dX7_done_11 : decode cX7_done 11 = .ok (.ifCond .eq 12, 3) := by decide +kernel
theorem dX7_done_14 : decode cX7_done 14 = .ok (.aload_n 0, 1) := by decide +kernel
theorem dX7_done_15 : decode cX7_done 15 = .ok (.getfield 93, 3) := by decide +kernel
theorem dX7_done_18 : decode cX7_done 18 = .ok (.iload_n 1, 1) := by decide +kernel
theorem dX7_done_19 : decode cX7_done 19 = .ok (.iaload, 1) := by decide +kernel
theorem dX7_done_20 : decode cX7_done 20 = .ok (.goto 5, 3) := by decide +kernel
theorem dX7_done_23 : decode cX7_done 23 = .ok (.bipush (-4), 2) := by decide +kernel
theorem dX7_done_25 : decode cX7_done 25 = .ok (.ireturn, 1) := by decide +kernel
end
section

/-! A SMALL MACHINE of its own: values, cells, locals, stack; one operation an instruction, in continuation form; below, each operation's soundness over W -/
abbrev xV : Type := Int32 ⊕ Int64 ⊕ Option Nat
abbrev xE : Type := (Nat × List Int32) ⊕ List Int64 ⊕ (Nat × List xV) ⊕ List (Option Nat)
abbrev xH : Type := List xE
abbrev xR : Type := Option (Option xV × xH)
abbrev xK : Type := List (Option xV) → List xV → xH → xR
def xv (v : xV) : Value := match v with
  | .inl n => .int n
  | .inr (.inl n) => .long n
  | .inr (.inr r) => va_rf r
def xnth : List (Option xV) → Nat → Option xV
  | [], _ => none
  | o :: _, 0 => o
  | _ :: t, n + 1 => xnth t n
def xset : List (Option xV) → Nat → xV → List (Option xV)
  | [], _, _ => []
  | _ :: t, 0, v => some v :: t
  | o :: t, n + 1, v => o :: xset t n v
def xsz (q : xE) : Nat := match q with
  | .inl a => a.2.length
  | .inr (.inl a) => a.length
  | .inr (.inr (.inl a)) => a.2.length
  | .inr (.inr (.inr a)) => a.length
def xsl (h : xH) : Nat := (h.map xsz).sum
def xe (cA : Nat → ClassId) (q : xE) : va_E := match q with
  | .inl a => .inl (cA a.1, a.2.length, .inl (fun j => a.2.getD j 0))
  | .inr (.inl a) => .inl (cA 2, a.length, .inr (.inl (fun j => a.getD j 0)))
  | .inr (.inr (.inl a)) => .inr (a.1, a.2.map xv)
  | .inr (.inr (.inr a)) => .inl (cA 3, a.length, .inr (.inr (.inr (.inr (fun j => a.getD j none)))))
def xW (cA : Nat → ClassId) (b0 : Nat) (h : xH) : va_W := h.mapIdx (fun k q => (b0 + k, xe cA q))
def xT (cA : Nat → ClassId) : List (ClassId × FieldType) := [(cA 0, .int), (cA 1, .boolean), (cA 2, .long), (cA 3, .object RX5)]
def xRel (D : va_G) (cA : Nat → ClassId) (b0 : Nat) (h : xH) (H : Heap) : Prop := H.size = b0 + h.length ∧ va_P D vwCl (xW cA b0 h) H
def xTB : List Cond := lw_tbl.filter goodWord
def xL (arr : Array Slot) (nL : Nat) (ls : List (Option xV)) : Prop := arr.size = nL ∧ lv_wf arr ∧ ∀ (i : Nat) (v : xV), xnth ls i = some v → arr[i]? = some (.val (xv v)) ∧ (xv v).category = 1
theorem xW_get (cA : Nat → ClassId) (b0 : Nat) (h : xH) (k : Nat) : (xW cA b0 h)[k]? = (h[k]?).map (fun q => (b0 + k, xe cA q)) := by simp [xW]
theorem xW_at {cA : Nat → ClassId} {b0 : Nat} {h : xH} {k : Nat} {q : xE} (hq : h[k]? = some q) : (xW cA b0 h)[k]? = some (b0 + k, xe cA q) := by simp [xW_get, hq]
theorem xW_set (cA : Nat → ClassId) (b0 : Nat) (h : xH) (k : Nat) (q : xE) : (xW cA b0 h).set k (b0 + k, xe cA q) = xW cA b0 (h.set k q) := by
  apply List.ext_getElem?
  intro j
  rw [xW_get]
  by_cases hj : k = j
  · subst hj
    by_cases hl : k < h.length
    · simp [List.getElem?_set, hl, xW]
    · simp [List.getElem?_set, hl, xW]
  · rw [List.getElem?_set_ne hj, List.getElem?_set_ne hj, xW_get]
theorem xW_push (cA : Nat → ClassId) (b0 : Nat) (h : xH) (q : xE) : xW cA b0 (h ++ [q]) = xW cA b0 h ++ [(b0 + h.length, xe cA q)] := by simp [xW, List.mapIdx_append]
theorem xW_D (cA : Nat → ClassId) (b0 : Nat) (h : xH) : va_D (fun q => b0 ≤ q) (xW cA b0 h) := by
  refine ⟨fun i j p q hi hj he => ?_, fun k q hk => ?_⟩
  · rw [xW_get] at hi hj
    obtain ⟨a, ha, rfl⟩ := Option.map_eq_some_iff.mp hi
    obtain ⟨b, hb, rfl⟩ := Option.map_eq_some_iff.mp hj
    dsimp only at he
    omega
  · rw [xW_get] at hk
    obtain ⟨a, ha, rfl⟩ := Option.map_eq_some_iff.mp hk
    show b0 ≤ b0 + k
    omega
theorem xT_len (cA : Nat → ClassId) : (xT cA)[0]? = some (cA 0, .int) ∧ (xT cA)[1]? = some (cA 1, .boolean) ∧ (xT cA)[2]? = some (cA 2, .long) ∧ (xT cA)[3]? = some (cA 3, .object RX5) := ⟨rfl, rfl, rfl, rfl⟩
theorem xsl_push (h : xH) (q : xE) : xsl (h ++ [q]) = xsl h + xsz q := by simp [xsl]
theorem xsl_set {h : xH} {k : Nat} {q q' : xE} (hk : h[k]? = some q) (hz : xsz q' = xsz q) : xsl (h.set k q') = xsl h := by
  induction h generalizing k with
  | nil => simp at hk
  | cons a t ih =>
    cases k with
    | zero =>
      simp at hk
      subst hk
      simp [xsl, hz]
    | succ k =>
      simp at hk
      have := ih hk
      simp only [xsl, List.set_cons_succ, List.map_cons, List.sum_cons] at this ⊢
      omega
theorem xgood {ws : List Cond} (h : ∀ w ∈ ws, w ∈ xTB) : GoodIn xTB ws := fun w hw => ⟨h w hw, good_of_word (List.mem_filter.mp (h w hw)).2⟩
theorem xmem {w : Cond} (i : Nat) (h : lw_tbl[i]? = some w) (hg : goodWord w = true) : w ∈ xTB := List.mem_filter.mpr ⟨List.mem_of_getElem? h, hg⟩
theorem xnth_set_self {ls : List (Option xV)} {i : Nat} {v w : xV} (h : xnth (xset ls i v) i = some w) : w = v := by
  induction ls generalizing i with
  | nil => simp [xset, xnth] at h
  | cons a t ih =>
    cases i with
    | zero => simp [xset, xnth] at h; exact h.symm
    | succ i => simp only [xset, xnth] at h; exact ih h
theorem xnth_set_ne {ls : List (Option xV)} {i j : Nat} {v : xV} (hij : j ≠ i) : xnth (xset ls i v) j = xnth ls j := by
  induction ls generalizing i j with
  | nil => simp [xset]
  | cons a t ih =>
    cases i with
    | zero =>
      cases j with
      | zero => exact absurd rfl hij
      | succ j => simp [xset, xnth]
    | succ i =>
      cases j with
      | zero => simp [xset, xnth]
      | succ j => simp only [xset, xnth]; exact ih (by omega)
def xP (nL : Nat) (ls : List (Option xV)) : List (Nat × Value) := (List.range nL).filterMap (fun j => (xnth ls j).map (fun v => (j, xv v)))
theorem xL_has {arr : Array Slot} {nL : Nat} {ls : List (Option xV)} (h : xL arr nL ls) : lv_has arr nL (xP nL ls) := by
  refine ⟨h.1, h.2.1, fun q hq => ?_⟩
  obtain ⟨j, -, hj⟩ := List.mem_filterMap.mp hq
  obtain ⟨v, hv, rfl⟩ := Option.map_eq_some_iff.mp hj
  exact (h.2.2 j v hv).1
theorem xL_mem {arr : Array Slot} {nL : Nat} {ls : List (Option xV)} (h : xL arr nL ls) {j : Nat} {v : xV} (hv : xnth ls j = some v) : (j, xv v) ∈ xP nL ls := by
  refine List.mem_filterMap.mpr ⟨j, ?_, by rw [hv]; rfl⟩
  have := (Array.getElem?_eq_some_iff.mp (h.2.2 j v hv).1).1
  rw [h.1] at this
  exact List.mem_range.mpr this
theorem xL_st {arr arr' : Array Slot} {nL i : Nat} {ls : List (Option xV)} {v : xV} (h : xL arr nL ls) (h' : lv_has arr' nL ((i, xv v) :: (xP nL ls).filter (fun q => !(q.1 == i) && !(q.1 + 1 == i && q.2.category == 2)))) (hc : (xv v).category = 1) : xL arr' nL (xset ls i v) := by
  refine ⟨h'.1, h'.2.1, fun j w hj => ?_⟩
  by_cases hji : j = i
  · subst hji
    obtain rfl := xnth_set_self hj
    exact ⟨h'.2.2 _ List.mem_cons_self, hc⟩
  · rw [xnth_set_ne hji] at hj
    obtain ⟨g1, g2⟩ := h.2.2 j w hj
    exact ⟨h'.2.2 (j, xv w) (List.mem_cons_of_mem _ (List.mem_filter.mpr ⟨xL_mem h hj, by simp [hji, g2]⟩)), g2⟩
theorem xcat_i (n : Int32) : (xv (.inl n)).category = 1 := rfl
theorem xcat_r (r : Option Nat) : (xv (.inr (.inr r))).category = 1 := by cases r <;> rfl
theorem xcat_le (v : xV) : (xv v).category ≤ 2 := by
  rcases v with n | n | r
  · exact (by decide : 1 ≤ 2)
  · exact Nat.le_refl 2
  · rw [xcat_r]; decide
theorem xcats (st : List xV) : ((st.map xv).map fun v => v.category).sum ≤ 2 * st.length := by
  induction st with
  | nil => simp
  | cons a t ih =>
    have := xcat_le a
    simp only [List.map_cons, List.sum_cons, List.length_cons]
    omega
/-- reading and writing the cells -/
def xat (b0 : Nat) (h : xH) (a : Nat) : Option xE := if b0 ≤ a then h[a - b0]? else none
def xg (b0 : Nat) (h : xH) (a ci k : Nat) : Option xV := match xat b0 h a with
  | some (.inr (.inr (.inl q))) => if q.1 = ci then q.2[k]? else none
  | _ => none
def xgI (b0 : Nat) (h : xH) (a ci k : Nat) : Option Int32 := match xg b0 h a ci k with
  | some (.inl n) => some n
  | _ => none
def xgR (b0 : Nat) (h : xH) (a ci k : Nat) : Option (Option Nat) := match xg b0 h a ci k with
  | some (.inr (.inr r)) => some r
  | _ => none
def xp (b0 : Nat) (h : xH) (a ci k : Nat) (v : xV) : Option xH := match xat b0 h a with
  | some (.inr (.inr (.inl q))) => if q.1 = ci ∧ k < q.2.length then some (h.set (a - b0) (.inr (.inr (.inl (ci, q.2.set k v))))) else none
  | _ => none
def xis (b0 : Nat) (h : xH) (a ci : Nat) : Bool := match xat b0 h a with
  | some (.inr (.inr (.inl q))) => q.1 == ci
  | _ => false
def xal (b0 : Nat) (h : xH) (a : Nat) : Option Nat := match xat b0 h a with
  | some (.inl q) => if q.1 = 0 then some q.2.length else none
  | some (.inr (.inl q)) => some q.length
  | some (.inr (.inr (.inr q))) => some q.length
  | _ => none
/-- int (t = 0) and boolean (t = 1) arrays -/
def xai (b0 t : Nat) (h : xH) (a : Nat) (i : Int32) : Option Int32 := match xat b0 h a with
  | some (.inl q) => if q.1 = t ∧ ¬ i < 0 then q.2[i.toNatClampNeg]? else none
  | _ => none
def xsi (b0 t : Nat) (h : xH) (a : Nat) (i n : Int32) : Option xH := match xat b0 h a with
  | some (.inl q) => if q.1 = t ∧ ¬ i < 0 ∧ i.toNatClampNeg < q.2.length then some (h.set (a - b0) (.inl (t, q.2.set i.toNatClampNeg n))) else none
  | _ => none
def xaj (b0 : Nat) (h : xH) (a : Nat) (i : Int32) : Option Int64 := match xat b0 h a with
  | some (.inr (.inl q)) => if ¬ i < 0 then q[i.toNatClampNeg]? else none
  | _ => none
def xsj (b0 : Nat) (h : xH) (a : Nat) (i : Int32) (n : Int64) : Option xH := match xat b0 h a with
  | some (.inr (.inl q)) => if ¬ i < 0 ∧ i.toNatClampNeg < q.length then some (h.set (a - b0) (.inr (.inl (q.set i.toNatClampNeg n)))) else none
  | _ => none
def xaq (b0 : Nat) (h : xH) (a : Nat) (i : Int32) : Option (Option Nat) := match xat b0 h a with
  | some (.inr (.inr (.inr q))) => if ¬ i < 0 then q[i.toNatClampNeg]? else none
  | _ => none
def xsq (b0 : Nat) (h : xH) (a : Nat) (i : Int32) (r : Nat) : Option xH := match xat b0 h a with
  | some (.inr (.inr (.inr q))) => if ¬ i < 0 ∧ i.toNatClampNeg < q.length then some (h.set (a - b0) (.inr (.inr (.inr (q.set i.toNatClampNeg (some r)))))) else none
  | _ => none
theorem xat_inv {b0 : Nat} {h : xH} {a : Nat} {q : xE} (e : xat b0 h a = some q) : ∃ k, a = b0 + k ∧ h[k]? = some q ∧ a - b0 = k := by
  unfold xat at e
  split at e
  · rename_i hb
    exact ⟨a - b0, by omega, e, rfl⟩
  · cases e
theorem xg_inv {b0 : Nat} {h : xH} {a ci k : Nat} {v : xV} (e : xg b0 h a ci k = some v) : ∃ q fs, a = b0 + q ∧ h[q]? = some (.inr (.inr (.inl (ci, fs)))) ∧ fs[k]? = some v := by
  unfold xg at e
  split at e
  · rename_i q hq
    obtain ⟨j, rfl, h1, -⟩ := xat_inv hq
    split at e
    · rename_i hc
      obtain ⟨c1, fs⟩ := q
      dsimp only at hc e
      subst hc
      exact ⟨j, fs, rfl, h1, e⟩
    · cases e
  · cases e
theorem xgI_inv {b0 : Nat} {h : xH} {a ci k : Nat} {n : Int32} (e : xgI b0 h a ci k = some n) : xg b0 h a ci k = some (.inl n) := by
  unfold xgI at e
  split at e
  · rename_i m hm
    cases e
    exact hm
  · cases e
theorem xgR_inv {b0 : Nat} {h : xH} {a ci k : Nat} {r : Option Nat} (e : xgR b0 h a ci k = some r) : xg b0 h a ci k = some (.inr (.inr r)) := by
  unfold xgR at e
  split at e
  · rename_i m hm
    cases e
    exact hm
  · cases e
theorem xp_inv {b0 : Nat} {h h1 : xH} {a ci k : Nat} {v : xV} (e : xp b0 h a ci k v = some h1) : ∃ q fs, a = b0 + q ∧ h[q]? = some (.inr (.inr (.inl (ci, fs)))) ∧ k < fs.length ∧ h1 = h.set q (.inr (.inr (.inl (ci, fs.set k v)))) := by
  unfold xp at e
  split at e
  · rename_i q hq
    obtain ⟨j, rfl, h2, h3⟩ := xat_inv hq
    split at e
    · rename_i hc
      obtain ⟨c1, fs⟩ := q
      dsimp only at hc e
      obtain ⟨rfl, hk⟩ := hc
      rw [h3] at e
      cases e
      exact ⟨j, fs, rfl, h2, hk, rfl⟩
    · cases e
  · cases e
theorem xis_inv {b0 : Nat} {h : xH} {a ci : Nat} (e : xis b0 h a ci = true) : ∃ q fs, a = b0 + q ∧ h[q]? = some (.inr (.inr (.inl (ci, fs)))) := by
  unfold xis at e
  split at e
  · rename_i q hq
    obtain ⟨j, rfl, h1, -⟩ := xat_inv hq
    obtain ⟨c1, fs⟩ := q
    have : c1 = ci := by simpa using e
    subst this
    exact ⟨j, fs, rfl, h1⟩
  · cases e
theorem xai_inv {b0 t : Nat} {h : xH} {a : Nat} {i n : Int32} (e : xai b0 t h a i = some n) : ∃ q xs, a = b0 + q ∧ h[q]? = some (.inl (t, xs)) ∧ vp_in i xs.length ∧ xs[i.toNatClampNeg]? = some n := by
  unfold xai at e
  split at e
  · rename_i q hq
    obtain ⟨j, rfl, h1, -⟩ := xat_inv hq
    split at e
    · rename_i hc
      obtain ⟨c1, fs⟩ := q
      dsimp only at hc e
      obtain ⟨rfl, hi⟩ := hc
      have hlt := (List.getElem?_eq_some_iff.mp e).1
      exact ⟨j, fs, rfl, h1, fun hh => hh.elim hi (fun h9 => by omega), e⟩
    · cases e
  · cases e
theorem xsi_inv {b0 t : Nat} {h h1 : xH} {a : Nat} {i n : Int32} (e : xsi b0 t h a i n = some h1) : ∃ q xs, a = b0 + q ∧ h[q]? = some (.inl (t, xs)) ∧ vp_in i xs.length ∧ h1 = h.set q (.inl (t, xs.set i.toNatClampNeg n)) := by
  unfold xsi at e
  split at e
  · rename_i q hq
    obtain ⟨j, rfl, h2, h3⟩ := xat_inv hq
    split at e
    · rename_i hc
      obtain ⟨c1, fs⟩ := q
      dsimp only at hc e
      obtain ⟨rfl, hi, hlt⟩ := hc
      rw [h3] at e
      cases e
      exact ⟨j, fs, rfl, h2, fun hh => hh.elim hi (fun h9 => by omega), rfl⟩
    · cases e
  · cases e
theorem xaj_inv {b0 : Nat} {h : xH} {a : Nat} {i : Int32} {n : Int64} (e : xaj b0 h a i = some n) : ∃ q xs, a = b0 + q ∧ h[q]? = some (.inr (.inl xs)) ∧ vp_in i xs.length ∧ xs[i.toNatClampNeg]? = some n := by
  unfold xaj at e
  split at e
  · rename_i q hq
    obtain ⟨j, rfl, h1, -⟩ := xat_inv hq
    split at e
    · rename_i hi
      have hlt := (List.getElem?_eq_some_iff.mp e).1
      exact ⟨j, q, rfl, h1, fun hh => hh.elim hi (fun h9 => by omega), e⟩
    · cases e
  · cases e
theorem xsj_inv {b0 : Nat} {h h1 : xH} {a : Nat} {i : Int32} {n : Int64} (e : xsj b0 h a i n = some h1) : ∃ q xs, a = b0 + q ∧ h[q]? = some (.inr (.inl xs)) ∧ vp_in i xs.length ∧ h1 = h.set q (.inr (.inl (xs.set i.toNatClampNeg n))) := by
  unfold xsj at e
  split at e
  · rename_i q hq
    obtain ⟨j, rfl, h2, h3⟩ := xat_inv hq
    split at e
    · rename_i hc
      rw [h3] at e
      cases e
      exact ⟨j, q, rfl, h2, fun hh => hh.elim hc.1 (fun h9 => by omega), rfl⟩
    · cases e
  · cases e
theorem xaq_inv {b0 : Nat} {h : xH} {a : Nat} {i : Int32} {r : Option Nat} (e : xaq b0 h a i = some r) : ∃ q xs, a = b0 + q ∧ h[q]? = some (.inr (.inr (.inr xs))) ∧ vp_in i xs.length ∧ xs[i.toNatClampNeg]? = some r := by
  unfold xaq at e
  split at e
  · rename_i q hq
    obtain ⟨j, rfl, h1, -⟩ := xat_inv hq
    split at e
    · rename_i hi
      have hlt := (List.getElem?_eq_some_iff.mp e).1
      exact ⟨j, q, rfl, h1, fun hh => hh.elim hi (fun h9 => by omega), e⟩
    · cases e
  · cases e
theorem xsq_inv {b0 : Nat} {h h1 : xH} {a : Nat} {i : Int32} {r : Nat} (e : xsq b0 h a i r = some h1) : ∃ q xs, a = b0 + q ∧ h[q]? = some (.inr (.inr (.inr xs))) ∧ vp_in i xs.length ∧ h1 = h.set q (.inr (.inr (.inr (xs.set i.toNatClampNeg (some r))))) := by
  unfold xsq at e
  split at e
  · rename_i q hq
    obtain ⟨j, rfl, h2, h3⟩ := xat_inv hq
    split at e
    · rename_i hc
      rw [h3] at e
      cases e
      exact ⟨j, q, rfl, h2, fun hh => hh.elim hc.1 (fun h9 => by omega), rfl⟩
    · cases e
  · cases e
end
section

def xC (p : Program) (R : Room) (s : State) (m : MethodId) (args : Array Value) (meth : Method) (c : Code) (cc : ByteArray) (nL : Nat) (ret : Option FieldType) (own nm : String) (fr lo : Nat) (D : va_G) (cA : Nat → ClassId) (b0 : Nat) (hs : xH) (res : Option xV × xH) : Prop :=
  p.tables.exec = Jvm.exec ∧ c.code = cc ∧ c.maxLocals = nL ∧ s.vm.findClass own = some m.cls ∧ (∀ w ∈ xTB, w.before args s = true) ∧ (va_K D vwCl (xT cA) s ∧ va_AO RX5 s) ∧ b0 ≤ s.heap.size ∧ (res.2.length - hs.length ≤ R.cells ∧ xsl res.2 - xsl hs ≤ R.slots) ∧ meth.locks = false ∧ meth.sig.returnType = ret ∧ meth.name = nm ∧ fr ≤ R.frames ∧ lo ≤ R.locals
/-- a piece of code in the small machine, T, that stands at pc: where T ends with res, the machine comes to Q -/
def xS (p : Program) (l : Launch) (e : Env) (R : Room) (s : State) (m : MethodId) (args : Array Value) (below : List Frame) (meth : Method) (c : Code) (cc : ByteArray) (nL : Nat) (ret : Option FieldType) (own nm : String) (fr lo : Nat) (D : va_G) (cA : Nat → ClassId) (b0 : Nat) (hs : xH) (res : Option xV × xH) (Q : State → Prop) (T : xK) (pc : Nat) : Prop :=
  ∀ (ls : List (Option xV)) (st : List xV) (h : xH), T ls st h = some res → (h.length ≤ res.2.length ∧ xsl h ≤ xsl res.2) ∧
    (xC p R s m args meth c cc nL ret own nm fr lo D cA b0 hs res → ∀ (arr : Array Slot) (H : Heap) (locs : List Loc), xL arr nL ls → xRel D cA b0 h H → va_S (fun q => b0 ≤ q) s.heap H locs → (hs.length ≤ h.length ∧ xsl hs ≤ xsl h) →
      W p l e R s m args below meth c H locs (h.length - hs.length) (xsl h - xsl hs) Q (F0 m pc arr (st.map xv)))
section XOPS
variable {p : Program} {l : Launch} {e : Env} {R : Room} {s : State} {m : MethodId} {args : Array Value} {below : List Frame} {meth : Method} {c : Code} {cc : ByteArray} {nL : Nat} {ret : Option FieldType} {own nm : String} {fr lo : Nat} {D : va_G} {cA : Nat → ClassId} {b0 : Nat} {hs : xH} {res : Option xV × xH} {Q : State → Prop}
variable {pc : Nat} {T kT kF : xK}

def oCst (v : Int32) (T : xK) (ls : List (Option xV)) (st : List xV) (h : xH) : xR :=
  T ls (.inl v :: st) h
theorem s_iconst {n : Int} {v : Int32}  (hd : decode cc pc = .ok (.iconst n, 1)) (hv : Int32.ofInt n = v) (K : xS p l e R s m args below meth c cc nL ret own nm fr lo D cA b0 hs res Q T (pc + 1)) : xS p l e R s m args below meth c cc nL ret own nm fr lo D cA b0 hs res Q (oCst v T) pc := by
  intro ls st h hT
  change T ls (.inl v :: st) h = some res at hT
  obtain ⟨g1, g2⟩ := K _ _ _ hT
  exact ⟨g1, fun C arr H locs a1 a2 a3 a4 => lv_iconst C.1 C.2.1 hd hv (g2 C arr H locs a1 a2 a3 a4)⟩
theorem s_bipush {n : Int} {v : Int32}  (hd : decode cc pc = .ok (.bipush n, 2)) (hv : (Int8.ofInt n).toInt32 = v) (K : xS p l e R s m args below meth c cc nL ret own nm fr lo D cA b0 hs res Q T (pc + 2)) : xS p l e R s m args below meth c cc nL ret own nm fr lo D cA b0 hs res Q (oCst v T) pc := by
  intro ls st h hT
  change T ls (.inl v :: st) h = some res at hT
  obtain ⟨g1, g2⟩ := K _ _ _ hT
  exact ⟨g1, fun C arr H locs a1 a2 a3 a4 => lv_bipush C.1 C.2.1 hd hv (g2 C arr H locs a1 a2 a3 a4)⟩
theorem s_sipush {n : Int} {v : Int32}  (hd : decode cc pc = .ok (.sipush n, 3)) (hv : (Int16.ofInt n).toInt32 = v) (K : xS p l e R s m args below meth c cc nL ret own nm fr lo D cA b0 hs res Q T (pc + 3)) : xS p l e R s m args below meth c cc nL ret own nm fr lo D cA b0 hs res Q (oCst v T) pc := by
  intro ls st h hT
  change T ls (.inl v :: st) h = some res at hT
  obtain ⟨g1, g2⟩ := K _ _ _ hT
  exact ⟨g1, fun C arr H locs a1 a2 a3 a4 => lv_sipush C.1 C.2.1 hd hv (g2 C arr H locs a1 a2 a3 a4)⟩
def oNul (T : xK) (ls : List (Option xV)) (st : List xV) (h : xH) : xR :=
  T ls (.inr (.inr none) :: st) h
theorem s_null   (hd : decode cc pc = .ok (.aconst_null, 1)) (K : xS p l e R s m args below meth c cc nL ret own nm fr lo D cA b0 hs res Q T (pc + 1)) : xS p l e R s m args below meth c cc nL ret own nm fr lo D cA b0 hs res Q (oNul T) pc := by
  intro ls st h hT
  change T ls (.inr (.inr none) :: st) h = some res at hT
  obtain ⟨g1, g2⟩ := K _ _ _ hT
  exact ⟨g1, fun C arr H locs a1 a2 a3 a4 => lv_null C.1 C.2.1 hd (g2 C arr H locs a1 a2 a3 a4)⟩
def oILd (i : Nat) (T : xK) (ls : List (Option xV)) (st : List xV) (h : xH) : xR :=
  match xnth ls i with
  | some (.inl v) => T ls (.inl v :: st) h
  | _ => none
def oALd (i : Nat) (T : xK) (ls : List (Option xV)) (st : List xV) (h : xH) : xR :=
  match xnth ls i with
  | some (.inr (.inr v)) => T ls (.inr (.inr v) :: st) h
  | _ => none
theorem s_iload {i : Nat}  (hd : decode cc pc = .ok (.iload i, 2)) (K : xS p l e R s m args below meth c cc nL ret own nm fr lo D cA b0 hs res Q T (pc + 2)) : xS p l e R s m args below meth c cc nL ret own nm fr lo D cA b0 hs res Q (oILd i T) pc := by
  intro ls st h hT
  obtain ⟨v, hv, hT⟩ : ∃ v, xnth ls i = some (.inl v) ∧ T ls (.inl v :: st) h = some res := by
    unfold oILd at hT
    split at hT
    · rename_i v hv
      exact ⟨v, hv, hT⟩
    · cases hT
  obtain ⟨g1, g2⟩ := K _ _ _ hT
  exact ⟨g1, fun C arr H locs a1 a2 a3 a4 => lv_iload C.1 C.2.1 hd (a1.2.2 i _ hv).1 (g2 C arr H locs a1 a2 a3 a4)⟩
theorem s_iload_n {k : Fin 4} {i : Nat}  (hd : decode cc pc = .ok (.iload_n k, 1)) (hi : (k : Nat) = i) (K : xS p l e R s m args below meth c cc nL ret own nm fr lo D cA b0 hs res Q T (pc + 1)) : xS p l e R s m args below meth c cc nL ret own nm fr lo D cA b0 hs res Q (oILd i T) pc := by
  intro ls st h hT
  obtain ⟨v, hv, hT⟩ : ∃ v, xnth ls i = some (.inl v) ∧ T ls (.inl v :: st) h = some res := by
    unfold oILd at hT
    split at hT
    · rename_i v hv
      exact ⟨v, hv, hT⟩
    · cases hT
  obtain ⟨g1, g2⟩ := K _ _ _ hT
  exact ⟨g1, fun C arr H locs a1 a2 a3 a4 => lv_iload_n C.1 C.2.1 hd hi (a1.2.2 i _ hv).1 (g2 C arr H locs a1 a2 a3 a4)⟩
theorem s_aload {i : Nat}  (hd : decode cc pc = .ok (.aload i, 2)) (K : xS p l e R s m args below meth c cc nL ret own nm fr lo D cA b0 hs res Q T (pc + 2)) : xS p l e R s m args below meth c cc nL ret own nm fr lo D cA b0 hs res Q (oALd i T) pc := by
  intro ls st h hT
  obtain ⟨v, hv, hT⟩ : ∃ v, xnth ls i = some (.inr (.inr v)) ∧ T ls (.inr (.inr v) :: st) h = some res := by
    unfold oALd at hT
    split at hT
    · rename_i v hv
      exact ⟨v, hv, hT⟩
    · cases hT
  obtain ⟨g1, g2⟩ := K _ _ _ hT
  refine ⟨g1, fun C arr H locs a1 a2 a3 a4 => ?_⟩
  have hq := (a1.2.2 i _ hv).1
  have hg := g2 C arr H locs a1 a2 a3 a4
  cases v with
  | none => exact lv_aloadN C.1 C.2.1 hd hq hg
  | some a => exact lv_aload C.1 C.2.1 hd hq hg
theorem s_aload_n {k : Fin 4} {i : Nat}  (hd : decode cc pc = .ok (.aload_n k, 1)) (hi : (k : Nat) = i) (K : xS p l e R s m args below meth c cc nL ret own nm fr lo D cA b0 hs res Q T (pc + 1)) : xS p l e R s m args below meth c cc nL ret own nm fr lo D cA b0 hs res Q (oALd i T) pc := by
  intro ls st h hT
  obtain ⟨v, hv, hT⟩ : ∃ v, xnth ls i = some (.inr (.inr v)) ∧ T ls (.inr (.inr v) :: st) h = some res := by
    unfold oALd at hT
    split at hT
    · rename_i v hv
      exact ⟨v, hv, hT⟩
    · cases hT
  obtain ⟨g1, g2⟩ := K _ _ _ hT
  refine ⟨g1, fun C arr H locs a1 a2 a3 a4 => ?_⟩
  have hq := (a1.2.2 i _ hv).1
  have hg := g2 C arr H locs a1 a2 a3 a4
  cases v with
  | none => exact lv_aload_nN C.1 C.2.1 hd hi hq hg
  | some a => exact lv_aload_n C.1 C.2.1 hd hi hq hg
def oISt (i : Nat) (T : xK) (ls : List (Option xV)) (st : List xV) (h : xH) : xR :=
  match st with
  | .inl v :: st => T (xset ls i (.inl v)) st h
  | _ => none
def oASt (i : Nat) (T : xK) (ls : List (Option xV)) (st : List xV) (h : xH) : xR :=
  match st with
  | .inr (.inr v) :: st => T (xset ls i (.inr (.inr v))) st h
  | _ => none
theorem s_istore {i : Nat}  (hd : decode cc pc = .ok (.istore i, 2)) (hn : i < nL) (K : xS p l e R s m args below meth c cc nL ret own nm fr lo D cA b0 hs res Q T (pc + 2)) : xS p l e R s m args below meth c cc nL ret own nm fr lo D cA b0 hs res Q (oISt i T) pc := by
  intro ls st h hT
  obtain ⟨v, st', rfl, hU⟩ : ∃ v st', st = .inl v :: st' ∧ T (xset ls i (.inl v)) st' h = some res := by
    unfold oISt at hT
    split at hT
    · exact ⟨_, _, rfl, hT⟩
    · cases hT
  replace hT := hU
  obtain ⟨g1, g2⟩ := K _ _ _ hT
  exact ⟨g1, fun C arr H locs a1 a2 a3 a4 => lv_istore C.1 C.2.1 hd (xL_has a1) hn rfl (fun arr' h' => g2 C arr' H locs (xL_st a1 h' rfl) a2 a3 a4)⟩
theorem s_istore_n {k : Fin 4} {i : Nat}  (hd : decode cc pc = .ok (.istore_n k, 1)) (hi : (k : Nat) = i) (hn : i < nL) (K : xS p l e R s m args below meth c cc nL ret own nm fr lo D cA b0 hs res Q T (pc + 1)) : xS p l e R s m args below meth c cc nL ret own nm fr lo D cA b0 hs res Q (oISt i T) pc := by
  intro ls st h hT
  obtain ⟨v, st', rfl, hU⟩ : ∃ v st', st = .inl v :: st' ∧ T (xset ls i (.inl v)) st' h = some res := by
    unfold oISt at hT
    split at hT
    · exact ⟨_, _, rfl, hT⟩
    · cases hT
  replace hT := hU
  obtain ⟨g1, g2⟩ := K _ _ _ hT
  exact ⟨g1, fun C arr H locs a1 a2 a3 a4 => lv_istore_n C.1 C.2.1 hd hi (xL_has a1) hn rfl (fun arr' h' => g2 C arr' H locs (xL_st a1 h' rfl) a2 a3 a4)⟩
theorem s_astore {i : Nat}  (hd : decode cc pc = .ok (.astore i, 2)) (hn : i < nL) (K : xS p l e R s m args below meth c cc nL ret own nm fr lo D cA b0 hs res Q T (pc + 2)) : xS p l e R s m args below meth c cc nL ret own nm fr lo D cA b0 hs res Q (oASt i T) pc := by
  intro ls st h hT
  obtain ⟨v, st', rfl, hU⟩ : ∃ v st', st = .inr (.inr v) :: st' ∧ T (xset ls i (.inr (.inr v))) st' h = some res := by
    unfold oASt at hT
    split at hT
    · exact ⟨_, _, rfl, hT⟩
    · cases hT
  replace hT := hU
  obtain ⟨g1, g2⟩ := K _ _ _ hT
  refine ⟨g1, fun C arr H locs a1 a2 a3 a4 => ?_⟩
  cases v with
  | none => exact lv_astoreN C.1 C.2.1 hd (xL_has a1) hn rfl (fun arr' h' => g2 C arr' H locs (xL_st a1 h' rfl) a2 a3 a4)
  | some a => exact lv_astore C.1 C.2.1 hd (xL_has a1) hn rfl (fun arr' h' => g2 C arr' H locs (xL_st a1 h' rfl) a2 a3 a4)
theorem s_astore_n {k : Fin 4} {i : Nat}  (hd : decode cc pc = .ok (.astore_n k, 1)) (hi : (k : Nat) = i) (hn : i < nL) (K : xS p l e R s m args below meth c cc nL ret own nm fr lo D cA b0 hs res Q T (pc + 1)) : xS p l e R s m args below meth c cc nL ret own nm fr lo D cA b0 hs res Q (oASt i T) pc := by
  intro ls st h hT
  obtain ⟨v, st', rfl, hU⟩ : ∃ v st', st = .inr (.inr v) :: st' ∧ T (xset ls i (.inr (.inr v))) st' h = some res := by
    unfold oASt at hT
    split at hT
    · exact ⟨_, _, rfl, hT⟩
    · cases hT
  replace hT := hU
  obtain ⟨g1, g2⟩ := K _ _ _ hT
  refine ⟨g1, fun C arr H locs a1 a2 a3 a4 => ?_⟩
  cases v with
  | none => exact lv_astore_nN C.1 C.2.1 hd hi (xL_has a1) hn rfl (fun arr' h' => g2 C arr' H locs (xL_st a1 h' rfl) a2 a3 a4)
  | some a => exact lv_astore_n C.1 C.2.1 hd hi (xL_has a1) hn rfl (fun arr' h' => g2 C arr' H locs (xL_st a1 h' rfl) a2 a3 a4)
def oInc (i : Nat) (d : Int32) (T : xK) (ls : List (Option xV)) (st : List xV) (h : xH) : xR :=
  match xnth ls i with
  | some (.inl v) => T (xset ls i (.inl (v + d))) st h
  | _ => none
theorem s_iinc {i : Nat} {n : Int} {d : Int32}  (hd : decode cc pc = .ok (.iinc i n, 3)) (hv : Int32.ofInt n = d) (hn : i < nL) (K : xS p l e R s m args below meth c cc nL ret own nm fr lo D cA b0 hs res Q T (pc + 3)) : xS p l e R s m args below meth c cc nL ret own nm fr lo D cA b0 hs res Q (oInc i d T) pc := by
  intro ls st h hT
  obtain ⟨v, hx, hT⟩ : ∃ v, xnth ls i = some (.inl v) ∧ T (xset ls i (.inl (v + d))) st h = some res := by
    unfold oInc at hT
    split at hT
    · rename_i v hx
      exact ⟨v, hx, hT⟩
    · cases hT
  obtain ⟨g1, g2⟩ := K _ _ _ hT
  refine ⟨g1, fun C arr H locs a1 a2 a3 a4 => ?_⟩
  obtain ⟨k, hk⟩ := List.getElem?_of_mem (xL_mem a1 hx)
  exact lv_iinc (v := v + d) C.1 C.2.1 hd (xL_has a1) hk (by rw [hv]) hn rfl (fun arr' h' => g2 C arr' H locs (xL_st (v := .inl (v + d)) a1 h' rfl) a2 a3 a4)
def oAdd (T : xK) (ls : List (Option xV)) (st : List xV) (h : xH) : xR :=
  match st with
  | .inl y1 :: .inl x1 :: st => T ls (.inl (x1 + y1) :: st) h
  | _ => none
theorem s_iadd   (hd : decode cc pc = .ok (.iadd, 1)) (K : xS p l e R s m args below meth c cc nL ret own nm fr lo D cA b0 hs res Q T (pc + 1)) : xS p l e R s m args below meth c cc nL ret own nm fr lo D cA b0 hs res Q (oAdd T) pc := by
  intro ls st h hT
  obtain ⟨y1, x1, st', rfl, hU⟩ : ∃ y1 x1 st', st = .inl y1 :: .inl x1 :: st' ∧ T ls (.inl (x1 + y1) :: st') h = some res := by
    unfold oAdd at hT
    split at hT
    · exact ⟨_, _, _, rfl, hT⟩
    · cases hT
  replace hT := hU
  obtain ⟨g1, g2⟩ := K _ _ _ hT
  exact ⟨g1, fun C arr H locs a1 a2 a3 a4 => lv_iadd C.1 C.2.1 hd (g2 C arr H locs a1 a2 a3 a4)⟩
def oSub (T : xK) (ls : List (Option xV)) (st : List xV) (h : xH) : xR :=
  match st with
  | .inl y1 :: .inl x1 :: st => T ls (.inl (x1 - y1) :: st) h
  | _ => none
theorem s_isub   (hd : decode cc pc = .ok (.isub, 1)) (K : xS p l e R s m args below meth c cc nL ret own nm fr lo D cA b0 hs res Q T (pc + 1)) : xS p l e R s m args below meth c cc nL ret own nm fr lo D cA b0 hs res Q (oSub T) pc := by
  intro ls st h hT
  obtain ⟨y1, x1, st', rfl, hU⟩ : ∃ y1 x1 st', st = .inl y1 :: .inl x1 :: st' ∧ T ls (.inl (x1 - y1) :: st') h = some res := by
    unfold oSub at hT
    split at hT
    · exact ⟨_, _, _, rfl, hT⟩
    · cases hT
  replace hT := hU
  obtain ⟨g1, g2⟩ := K _ _ _ hT
  exact ⟨g1, fun C arr H locs a1 a2 a3 a4 => lv_isub C.1 C.2.1 hd (g2 C arr H locs a1 a2 a3 a4)⟩
def oMul (T : xK) (ls : List (Option xV)) (st : List xV) (h : xH) : xR :=
  match st with
  | .inl y1 :: .inl x1 :: st => T ls (.inl (x1 * y1) :: st) h
  | _ => none
theorem s_imul   (hd : decode cc pc = .ok (.imul, 1)) (K : xS p l e R s m args below meth c cc nL ret own nm fr lo D cA b0 hs res Q T (pc + 1)) : xS p l e R s m args below meth c cc nL ret own nm fr lo D cA b0 hs res Q (oMul T) pc := by
  intro ls st h hT
  obtain ⟨y1, x1, st', rfl, hU⟩ : ∃ y1 x1 st', st = .inl y1 :: .inl x1 :: st' ∧ T ls (.inl (x1 * y1) :: st') h = some res := by
    unfold oMul at hT
    split at hT
    · exact ⟨_, _, _, rfl, hT⟩
    · cases hT
  replace hT := hU
  obtain ⟨g1, g2⟩ := K _ _ _ hT
  exact ⟨g1, fun C arr H locs a1 a2 a3 a4 => lv_imul C.1 C.2.1 hd (g2 C arr H locs a1 a2 a3 a4)⟩
def oAnd (T : xK) (ls : List (Option xV)) (st : List xV) (h : xH) : xR :=
  match st with
  | .inl y1 :: .inl x1 :: st => T ls (.inl (x1 &&& y1) :: st) h
  | _ => none
theorem s_iand   (hd : decode cc pc = .ok (.iand, 1)) (K : xS p l e R s m args below meth c cc nL ret own nm fr lo D cA b0 hs res Q T (pc + 1)) : xS p l e R s m args below meth c cc nL ret own nm fr lo D cA b0 hs res Q (oAnd T) pc := by
  intro ls st h hT
  obtain ⟨y1, x1, st', rfl, hU⟩ : ∃ y1 x1 st', st = .inl y1 :: .inl x1 :: st' ∧ T ls (.inl (x1 &&& y1) :: st') h = some res := by
    unfold oAnd at hT
    split at hT
    · exact ⟨_, _, _, rfl, hT⟩
    · cases hT
  replace hT := hU
  obtain ⟨g1, g2⟩ := K _ _ _ hT
  exact ⟨g1, fun C arr H locs a1 a2 a3 a4 => lv_iand C.1 C.2.1 hd (g2 C arr H locs a1 a2 a3 a4)⟩
def oDiv (T : xK) (ls : List (Option xV)) (st : List xV) (h : xH) : xR :=
  match st with
  | .inl y1 :: .inl x1 :: st => if y1 = 0 then none else T ls (.inl (x1 / y1) :: st) h
  | _ => none
theorem s_idiv  (hd : decode cc pc = .ok (.idiv, 1)) (K : xS p l e R s m args below meth c cc nL ret own nm fr lo D cA b0 hs res Q T (pc + 1)) : xS p l e R s m args below meth c cc nL ret own nm fr lo D cA b0 hs res Q (oDiv T) pc := by
  intro ls st h hT
  obtain ⟨y1, x1, st', rfl, hU⟩ : ∃ y1 x1 st', st = .inl y1 :: .inl x1 :: st' ∧ (if y1 = 0 then none else T ls (.inl (x1 / y1) :: st') h) = some res := by
    unfold oDiv at hT
    split at hT
    · exact ⟨_, _, _, rfl, hT⟩
    · cases hT
  replace hT := hU
  by_cases hy : y1 = 0
  · rw [if_pos hy] at hT; cases hT
  · rw [if_neg hy] at hT
    obtain ⟨g1, g2⟩ := K _ _ _ hT
    exact ⟨g1, fun C arr H locs a1 a2 a3 a4 => lv_idiv C.1 C.2.1 hd hy (g2 C arr H locs a1 a2 a3 a4)⟩
def oI2L (T : xK) (ls : List (Option xV)) (st : List xV) (h : xH) : xR :=
  match st with
  | .inl x1 :: st => T ls (.inr (.inl x1.toInt64) :: st) h
  | _ => none
theorem s_i2l   (hd : decode cc pc = .ok (.i2l, 1)) (K : xS p l e R s m args below meth c cc nL ret own nm fr lo D cA b0 hs res Q T (pc + 1)) : xS p l e R s m args below meth c cc nL ret own nm fr lo D cA b0 hs res Q (oI2L T) pc := by
  intro ls st h hT
  obtain ⟨x1, st', rfl, hU⟩ : ∃ x1 st', st = .inl x1 :: st' ∧ T ls (.inr (.inl x1.toInt64) :: st') h = some res := by
    unfold oI2L at hT
    split at hT
    · exact ⟨_, _, rfl, hT⟩
    · cases hT
  replace hT := hU
  obtain ⟨g1, g2⟩ := K _ _ _ hT
  exact ⟨g1, fun C arr H locs a1 a2 a3 a4 => lv_i2l C.1 C.2.1 hd rfl (g2 C arr H locs a1 a2 a3 a4)⟩
def oLadd (T : xK) (ls : List (Option xV)) (st : List xV) (h : xH) : xR :=
  match st with
  | .inr (.inl y1) :: .inr (.inl x1) :: st => T ls (.inr (.inl (x1 + y1)) :: st) h
  | _ => none
theorem s_ladd   (hd : decode cc pc = .ok (.ladd, 1)) (K : xS p l e R s m args below meth c cc nL ret own nm fr lo D cA b0 hs res Q T (pc + 1)) : xS p l e R s m args below meth c cc nL ret own nm fr lo D cA b0 hs res Q (oLadd T) pc := by
  intro ls st h hT
  obtain ⟨y1, x1, st', rfl, hU⟩ : ∃ y1 x1 st', st = .inr (.inl y1) :: .inr (.inl x1) :: st' ∧ T ls (.inr (.inl (x1 + y1)) :: st') h = some res := by
    unfold oLadd at hT
    split at hT
    · exact ⟨_, _, _, rfl, hT⟩
    · cases hT
  replace hT := hU
  obtain ⟨g1, g2⟩ := K _ _ _ hT
  exact ⟨g1, fun C arr H locs a1 a2 a3 a4 => lv_ladd C.1 C.2.1 hd (g2 C arr H locs a1 a2 a3 a4)⟩
def oLcmp (T : xK) (ls : List (Option xV)) (st : List xV) (h : xH) : xR :=
  match st with
  | .inr (.inl y1) :: .inr (.inl x1) :: st => T ls (.inl (lg_cmp x1 y1) :: st) h
  | _ => none
theorem s_lcmp   (hd : decode cc pc = .ok (.lcmp, 1)) (K : xS p l e R s m args below meth c cc nL ret own nm fr lo D cA b0 hs res Q T (pc + 1)) : xS p l e R s m args below meth c cc nL ret own nm fr lo D cA b0 hs res Q (oLcmp T) pc := by
  intro ls st h hT
  obtain ⟨y1, x1, st', rfl, hU⟩ : ∃ y1 x1 st', st = .inr (.inl y1) :: .inr (.inl x1) :: st' ∧ T ls (.inl (lg_cmp x1 y1) :: st') h = some res := by
    unfold oLcmp at hT
    split at hT
    · exact ⟨_, _, _, rfl, hT⟩
    · cases hT
  replace hT := hU
  obtain ⟨g1, g2⟩ := K _ _ _ hT
  exact ⟨g1, fun C arr H locs a1 a2 a3 a4 => W.lcmp C.1 C.2.1 hd (g2 C arr H locs a1 a2 a3 a4)⟩
def oDup (T : xK) (ls : List (Option xV)) (st : List xV) (h : xH) : xR :=
  match st with
  | .inl v :: st => T ls (.inl v :: .inl v :: st) h
  | .inr (.inr v) :: st => T ls (.inr (.inr v) :: .inr (.inr v) :: st) h
  | _ => none
theorem s_dup  (hd : decode cc pc = .ok (.dup, 1)) (K : xS p l e R s m args below meth c cc nL ret own nm fr lo D cA b0 hs res Q T (pc + 1)) : xS p l e R s m args below meth c cc nL ret own nm fr lo D cA b0 hs res Q (oDup T) pc := by
  intro ls st h hT
  obtain ⟨v, st', rfl, hc, hT⟩ : ∃ v st', st = v :: st' ∧ (xv v).category = 1 ∧ T ls (v :: v :: st') h = some res := by
    unfold oDup at hT
    split at hT
    · exact ⟨_, _, rfl, rfl, hT⟩
    · exact ⟨_, _, rfl, xcat_r _, hT⟩
    · cases hT
  obtain ⟨g1, g2⟩ := K _ _ _ hT
  exact ⟨g1, fun C arr H locs a1 a2 a3 a4 => lv_dup C.1 C.2.1 hd hc (g2 C arr H locs a1 a2 a3 a4)⟩
def oDup2 (T : xK) (ls : List (Option xV)) (st : List xV) (h : xH) : xR :=
  match st with
  | .inl v :: .inr (.inr r) :: st => T ls (.inl v :: .inr (.inr r) :: .inl v :: .inr (.inr r) :: st) h
  | _ => none
theorem s_dup2  (hd : decode cc pc = .ok (.dup2, 1)) (K : xS p l e R s m args below meth c cc nL ret own nm fr lo D cA b0 hs res Q T (pc + 1)) : xS p l e R s m args below meth c cc nL ret own nm fr lo D cA b0 hs res Q (oDup2 T) pc := by
  intro ls st h hT
  obtain ⟨v, r, st', rfl, hU⟩ : ∃ v r st', st = .inl v :: .inr (.inr r) :: st' ∧ T ls (.inl v :: .inr (.inr r) :: .inl v :: .inr (.inr r) :: st') h = some res := by
    unfold oDup2 at hT
    split at hT
    · exact ⟨_, _, _, rfl, hT⟩
    · cases hT
  replace hT := hU
  obtain ⟨g1, g2⟩ := K _ _ _ hT
  exact ⟨g1, fun C arr H locs a1 a2 a3 a4 => lv_dup2_11 C.1 C.2.1 hd rfl (xcat_r r) (g2 C arr H locs a1 a2 a3 a4)⟩
def oC2eq (kT kF : xK) (ls : List (Option xV)) (st : List xV) (h : xH) : xR :=
  match st with
  | .inl y1 :: .inl x1 :: st => if x1 = y1 then kT ls st h else kF ls st h
  | _ => none
theorem s_c2eq {off : Int} {tgt : Nat}  (hd : decode cc pc = .ok (.if_icmp .eq off, 3)) (ht : (pc : Int) + off = (tgt : Int)) (KT : xS p l e R s m args below meth c cc nL ret own nm fr lo D cA b0 hs res Q kT tgt) (KF : xS p l e R s m args below meth c cc nL ret own nm fr lo D cA b0 hs res Q kF (pc + 3)) : xS p l e R s m args below meth c cc nL ret own nm fr lo D cA b0 hs res Q (oC2eq kT kF) pc := by
  intro ls st h hT
  obtain ⟨y1, x1, st', rfl, hU⟩ : ∃ y1 x1 st', st = .inl y1 :: .inl x1 :: st' ∧ (if x1 = y1 then kT ls st' h else kF ls st' h) = some res := by
    unfold oC2eq at hT
    split at hT
    · exact ⟨_, _, _, rfl, hT⟩
    · cases hT
  replace hT := hU
  by_cases hc : x1 = y1
  · rw [if_pos hc] at hT
    obtain ⟨g1, g2⟩ := KT _ _ _ hT
    exact ⟨g1, fun C arr H locs a1 a2 a3 a4 => lv_icmp_eq C.1 C.2.1 hd ht (fun _ => g2 C arr H locs a1 a2 a3 a4) (fun hn => absurd hc hn)⟩
  · rw [if_neg hc] at hT
    obtain ⟨g1, g2⟩ := KF _ _ _ hT
    exact ⟨g1, fun C arr H locs a1 a2 a3 a4 => lv_icmp_eq C.1 C.2.1 hd ht (fun hn => absurd hn hc) (fun _ => g2 C arr H locs a1 a2 a3 a4)⟩
def oC1eq (kT kF : xK) (ls : List (Option xV)) (st : List xV) (h : xH) : xR :=
  match st with
  | .inl x1 :: st => if x1 = 0 then kT ls st h else kF ls st h
  | _ => none
theorem s_c1eq {off : Int} {tgt : Nat}  (hd : decode cc pc = .ok (.ifCond .eq off, 3)) (ht : (pc : Int) + off = (tgt : Int)) (KT : xS p l e R s m args below meth c cc nL ret own nm fr lo D cA b0 hs res Q kT tgt) (KF : xS p l e R s m args below meth c cc nL ret own nm fr lo D cA b0 hs res Q kF (pc + 3)) : xS p l e R s m args below meth c cc nL ret own nm fr lo D cA b0 hs res Q (oC1eq kT kF) pc := by
  intro ls st h hT
  obtain ⟨x1, st', rfl, hU⟩ : ∃ x1 st', st = .inl x1 :: st' ∧ (if x1 = 0 then kT ls st' h else kF ls st' h) = some res := by
    unfold oC1eq at hT
    split at hT
    · exact ⟨_, _, rfl, hT⟩
    · cases hT
  replace hT := hU
  by_cases hc : x1 = 0
  · rw [if_pos hc] at hT
    obtain ⟨g1, g2⟩ := KT _ _ _ hT
    exact ⟨g1, fun C arr H locs a1 a2 a3 a4 => lv_if_eq C.1 C.2.1 hd ht (fun _ => g2 C arr H locs a1 a2 a3 a4) (fun hn => absurd hc hn)⟩
  · rw [if_neg hc] at hT
    obtain ⟨g1, g2⟩ := KF _ _ _ hT
    exact ⟨g1, fun C arr H locs a1 a2 a3 a4 => lv_if_eq C.1 C.2.1 hd ht (fun hn => absurd hn hc) (fun _ => g2 C arr H locs a1 a2 a3 a4)⟩
def oC2ne (kT kF : xK) (ls : List (Option xV)) (st : List xV) (h : xH) : xR :=
  match st with
  | .inl y1 :: .inl x1 :: st => if x1 = y1 then kF ls st h else kT ls st h
  | _ => none
theorem s_c2ne {off : Int} {tgt : Nat}  (hd : decode cc pc = .ok (.if_icmp .ne off, 3)) (ht : (pc : Int) + off = (tgt : Int)) (KT : xS p l e R s m args below meth c cc nL ret own nm fr lo D cA b0 hs res Q kT tgt) (KF : xS p l e R s m args below meth c cc nL ret own nm fr lo D cA b0 hs res Q kF (pc + 3)) : xS p l e R s m args below meth c cc nL ret own nm fr lo D cA b0 hs res Q (oC2ne kT kF) pc := by
  intro ls st h hT
  obtain ⟨y1, x1, st', rfl, hU⟩ : ∃ y1 x1 st', st = .inl y1 :: .inl x1 :: st' ∧ (if x1 = y1 then kF ls st' h else kT ls st' h) = some res := by
    unfold oC2ne at hT
    split at hT
    · exact ⟨_, _, _, rfl, hT⟩
    · cases hT
  replace hT := hU
  by_cases hc : x1 = y1
  · rw [if_pos hc] at hT
    obtain ⟨g1, g2⟩ := KF _ _ _ hT
    exact ⟨g1, fun C arr H locs a1 a2 a3 a4 => lv_icmp_ne C.1 C.2.1 hd ht (fun hn => absurd hc hn) (fun _ => g2 C arr H locs a1 a2 a3 a4)⟩
  · rw [if_neg hc] at hT
    obtain ⟨g1, g2⟩ := KT _ _ _ hT
    exact ⟨g1, fun C arr H locs a1 a2 a3 a4 => lv_icmp_ne C.1 C.2.1 hd ht (fun _ => g2 C arr H locs a1 a2 a3 a4) (fun hn => absurd hn hc)⟩
def oC1ne (kT kF : xK) (ls : List (Option xV)) (st : List xV) (h : xH) : xR :=
  match st with
  | .inl x1 :: st => if x1 = 0 then kF ls st h else kT ls st h
  | _ => none
theorem s_c1ne {off : Int} {tgt : Nat}  (hd : decode cc pc = .ok (.ifCond .ne off, 3)) (ht : (pc : Int) + off = (tgt : Int)) (KT : xS p l e R s m args below meth c cc nL ret own nm fr lo D cA b0 hs res Q kT tgt) (KF : xS p l e R s m args below meth c cc nL ret own nm fr lo D cA b0 hs res Q kF (pc + 3)) : xS p l e R s m args below meth c cc nL ret own nm fr lo D cA b0 hs res Q (oC1ne kT kF) pc := by
  intro ls st h hT
  obtain ⟨x1, st', rfl, hU⟩ : ∃ x1 st', st = .inl x1 :: st' ∧ (if x1 = 0 then kF ls st' h else kT ls st' h) = some res := by
    unfold oC1ne at hT
    split at hT
    · exact ⟨_, _, rfl, hT⟩
    · cases hT
  replace hT := hU
  by_cases hc : x1 = 0
  · rw [if_pos hc] at hT
    obtain ⟨g1, g2⟩ := KF _ _ _ hT
    exact ⟨g1, fun C arr H locs a1 a2 a3 a4 => lv_if_ne C.1 C.2.1 hd ht (fun hn => absurd hc hn) (fun _ => g2 C arr H locs a1 a2 a3 a4)⟩
  · rw [if_neg hc] at hT
    obtain ⟨g1, g2⟩ := KT _ _ _ hT
    exact ⟨g1, fun C arr H locs a1 a2 a3 a4 => lv_if_ne C.1 C.2.1 hd ht (fun _ => g2 C arr H locs a1 a2 a3 a4) (fun hn => absurd hn hc)⟩
def oC2lt (kT kF : xK) (ls : List (Option xV)) (st : List xV) (h : xH) : xR :=
  match st with
  | .inl y1 :: .inl x1 :: st => if x1 < y1 then kT ls st h else kF ls st h
  | _ => none
theorem s_c2lt {off : Int} {tgt : Nat}  (hd : decode cc pc = .ok (.if_icmp .lt off, 3)) (ht : (pc : Int) + off = (tgt : Int)) (KT : xS p l e R s m args below meth c cc nL ret own nm fr lo D cA b0 hs res Q kT tgt) (KF : xS p l e R s m args below meth c cc nL ret own nm fr lo D cA b0 hs res Q kF (pc + 3)) : xS p l e R s m args below meth c cc nL ret own nm fr lo D cA b0 hs res Q (oC2lt kT kF) pc := by
  intro ls st h hT
  obtain ⟨y1, x1, st', rfl, hU⟩ : ∃ y1 x1 st', st = .inl y1 :: .inl x1 :: st' ∧ (if x1 < y1 then kT ls st' h else kF ls st' h) = some res := by
    unfold oC2lt at hT
    split at hT
    · exact ⟨_, _, _, rfl, hT⟩
    · cases hT
  replace hT := hU
  by_cases hc : x1 < y1
  · rw [if_pos hc] at hT
    obtain ⟨g1, g2⟩ := KT _ _ _ hT
    exact ⟨g1, fun C arr H locs a1 a2 a3 a4 => lv_icmp_lt C.1 C.2.1 hd ht (fun _ => g2 C arr H locs a1 a2 a3 a4) (fun hn => absurd hc hn)⟩
  · rw [if_neg hc] at hT
    obtain ⟨g1, g2⟩ := KF _ _ _ hT
    exact ⟨g1, fun C arr H locs a1 a2 a3 a4 => lv_icmp_lt C.1 C.2.1 hd ht (fun hn => absurd hn hc) (fun _ => g2 C arr H locs a1 a2 a3 a4)⟩
def oC1lt (kT kF : xK) (ls : List (Option xV)) (st : List xV) (h : xH) : xR :=
  match st with
  | .inl x1 :: st => if x1 < 0 then kT ls st h else kF ls st h
  | _ => none
theorem s_c1lt {off : Int} {tgt : Nat}  (hd : decode cc pc = .ok (.ifCond .lt off, 3)) (ht : (pc : Int) + off = (tgt : Int)) (KT : xS p l e R s m args below meth c cc nL ret own nm fr lo D cA b0 hs res Q kT tgt) (KF : xS p l e R s m args below meth c cc nL ret own nm fr lo D cA b0 hs res Q kF (pc + 3)) : xS p l e R s m args below meth c cc nL ret own nm fr lo D cA b0 hs res Q (oC1lt kT kF) pc := by
  intro ls st h hT
  obtain ⟨x1, st', rfl, hU⟩ : ∃ x1 st', st = .inl x1 :: st' ∧ (if x1 < 0 then kT ls st' h else kF ls st' h) = some res := by
    unfold oC1lt at hT
    split at hT
    · exact ⟨_, _, rfl, hT⟩
    · cases hT
  replace hT := hU
  by_cases hc : x1 < 0
  · rw [if_pos hc] at hT
    obtain ⟨g1, g2⟩ := KT _ _ _ hT
    exact ⟨g1, fun C arr H locs a1 a2 a3 a4 => lv_if_lt C.1 C.2.1 hd ht (fun _ => g2 C arr H locs a1 a2 a3 a4) (fun hn => absurd hc hn)⟩
  · rw [if_neg hc] at hT
    obtain ⟨g1, g2⟩ := KF _ _ _ hT
    exact ⟨g1, fun C arr H locs a1 a2 a3 a4 => lv_if_lt C.1 C.2.1 hd ht (fun hn => absurd hn hc) (fun _ => g2 C arr H locs a1 a2 a3 a4)⟩
def oC2ge (kT kF : xK) (ls : List (Option xV)) (st : List xV) (h : xH) : xR :=
  match st with
  | .inl y1 :: .inl x1 :: st => if y1 ≤ x1 then kT ls st h else kF ls st h
  | _ => none
theorem s_c2ge {off : Int} {tgt : Nat}  (hd : decode cc pc = .ok (.if_icmp .ge off, 3)) (ht : (pc : Int) + off = (tgt : Int)) (KT : xS p l e R s m args below meth c cc nL ret own nm fr lo D cA b0 hs res Q kT tgt) (KF : xS p l e R s m args below meth c cc nL ret own nm fr lo D cA b0 hs res Q kF (pc + 3)) : xS p l e R s m args below meth c cc nL ret own nm fr lo D cA b0 hs res Q (oC2ge kT kF) pc := by
  intro ls st h hT
  obtain ⟨y1, x1, st', rfl, hU⟩ : ∃ y1 x1 st', st = .inl y1 :: .inl x1 :: st' ∧ (if y1 ≤ x1 then kT ls st' h else kF ls st' h) = some res := by
    unfold oC2ge at hT
    split at hT
    · exact ⟨_, _, _, rfl, hT⟩
    · cases hT
  replace hT := hU
  by_cases hc : y1 ≤ x1
  · rw [if_pos hc] at hT
    obtain ⟨g1, g2⟩ := KT _ _ _ hT
    exact ⟨g1, fun C arr H locs a1 a2 a3 a4 => lv_icmp_ge C.1 C.2.1 hd ht (fun _ => g2 C arr H locs a1 a2 a3 a4) (fun hn => absurd hc hn)⟩
  · rw [if_neg hc] at hT
    obtain ⟨g1, g2⟩ := KF _ _ _ hT
    exact ⟨g1, fun C arr H locs a1 a2 a3 a4 => lv_icmp_ge C.1 C.2.1 hd ht (fun hn => absurd hn hc) (fun _ => g2 C arr H locs a1 a2 a3 a4)⟩
def oC1ge (kT kF : xK) (ls : List (Option xV)) (st : List xV) (h : xH) : xR :=
  match st with
  | .inl x1 :: st => if 0 ≤ x1 then kT ls st h else kF ls st h
  | _ => none
theorem s_c1ge {off : Int} {tgt : Nat}  (hd : decode cc pc = .ok (.ifCond .ge off, 3)) (ht : (pc : Int) + off = (tgt : Int)) (KT : xS p l e R s m args below meth c cc nL ret own nm fr lo D cA b0 hs res Q kT tgt) (KF : xS p l e R s m args below meth c cc nL ret own nm fr lo D cA b0 hs res Q kF (pc + 3)) : xS p l e R s m args below meth c cc nL ret own nm fr lo D cA b0 hs res Q (oC1ge kT kF) pc := by
  intro ls st h hT
  obtain ⟨x1, st', rfl, hU⟩ : ∃ x1 st', st = .inl x1 :: st' ∧ (if 0 ≤ x1 then kT ls st' h else kF ls st' h) = some res := by
    unfold oC1ge at hT
    split at hT
    · exact ⟨_, _, rfl, hT⟩
    · cases hT
  replace hT := hU
  by_cases hc : 0 ≤ x1
  · rw [if_pos hc] at hT
    obtain ⟨g1, g2⟩ := KT _ _ _ hT
    exact ⟨g1, fun C arr H locs a1 a2 a3 a4 => lv_if_ge C.1 C.2.1 hd ht (fun _ => g2 C arr H locs a1 a2 a3 a4) (fun hn => absurd hc hn)⟩
  · rw [if_neg hc] at hT
    obtain ⟨g1, g2⟩ := KF _ _ _ hT
    exact ⟨g1, fun C arr H locs a1 a2 a3 a4 => lv_if_ge C.1 C.2.1 hd ht (fun hn => absurd hn hc) (fun _ => g2 C arr H locs a1 a2 a3 a4)⟩
def oC2gt (kT kF : xK) (ls : List (Option xV)) (st : List xV) (h : xH) : xR :=
  match st with
  | .inl y1 :: .inl x1 :: st => if y1 < x1 then kT ls st h else kF ls st h
  | _ => none
theorem s_c2gt {off : Int} {tgt : Nat}  (hd : decode cc pc = .ok (.if_icmp .gt off, 3)) (ht : (pc : Int) + off = (tgt : Int)) (KT : xS p l e R s m args below meth c cc nL ret own nm fr lo D cA b0 hs res Q kT tgt) (KF : xS p l e R s m args below meth c cc nL ret own nm fr lo D cA b0 hs res Q kF (pc + 3)) : xS p l e R s m args below meth c cc nL ret own nm fr lo D cA b0 hs res Q (oC2gt kT kF) pc := by
  intro ls st h hT
  obtain ⟨y1, x1, st', rfl, hU⟩ : ∃ y1 x1 st', st = .inl y1 :: .inl x1 :: st' ∧ (if y1 < x1 then kT ls st' h else kF ls st' h) = some res := by
    unfold oC2gt at hT
    split at hT
    · exact ⟨_, _, _, rfl, hT⟩
    · cases hT
  replace hT := hU
  by_cases hc : y1 < x1
  · rw [if_pos hc] at hT
    obtain ⟨g1, g2⟩ := KT _ _ _ hT
    exact ⟨g1, fun C arr H locs a1 a2 a3 a4 => lv_icmp_gt C.1 C.2.1 hd ht (fun _ => g2 C arr H locs a1 a2 a3 a4) (fun hn => absurd hc hn)⟩
  · rw [if_neg hc] at hT
    obtain ⟨g1, g2⟩ := KF _ _ _ hT
    exact ⟨g1, fun C arr H locs a1 a2 a3 a4 => lv_icmp_gt C.1 C.2.1 hd ht (fun hn => absurd hn hc) (fun _ => g2 C arr H locs a1 a2 a3 a4)⟩
def oC1gt (kT kF : xK) (ls : List (Option xV)) (st : List xV) (h : xH) : xR :=
  match st with
  | .inl x1 :: st => if 0 < x1 then kT ls st h else kF ls st h
  | _ => none
theorem s_c1gt {off : Int} {tgt : Nat}  (hd : decode cc pc = .ok (.ifCond .gt off, 3)) (ht : (pc : Int) + off = (tgt : Int)) (KT : xS p l e R s m args below meth c cc nL ret own nm fr lo D cA b0 hs res Q kT tgt) (KF : xS p l e R s m args below meth c cc nL ret own nm fr lo D cA b0 hs res Q kF (pc + 3)) : xS p l e R s m args below meth c cc nL ret own nm fr lo D cA b0 hs res Q (oC1gt kT kF) pc := by
  intro ls st h hT
  obtain ⟨x1, st', rfl, hU⟩ : ∃ x1 st', st = .inl x1 :: st' ∧ (if 0 < x1 then kT ls st' h else kF ls st' h) = some res := by
    unfold oC1gt at hT
    split at hT
    · exact ⟨_, _, rfl, hT⟩
    · cases hT
  replace hT := hU
  by_cases hc : 0 < x1
  · rw [if_pos hc] at hT
    obtain ⟨g1, g2⟩ := KT _ _ _ hT
    exact ⟨g1, fun C arr H locs a1 a2 a3 a4 => lv_if_gt C.1 C.2.1 hd ht (fun _ => g2 C arr H locs a1 a2 a3 a4) (fun hn => absurd hc hn)⟩
  · rw [if_neg hc] at hT
    obtain ⟨g1, g2⟩ := KF _ _ _ hT
    exact ⟨g1, fun C arr H locs a1 a2 a3 a4 => lv_if_gt C.1 C.2.1 hd ht (fun hn => absurd hn hc) (fun _ => g2 C arr H locs a1 a2 a3 a4)⟩
def oC2le (kT kF : xK) (ls : List (Option xV)) (st : List xV) (h : xH) : xR :=
  match st with
  | .inl y1 :: .inl x1 :: st => if x1 ≤ y1 then kT ls st h else kF ls st h
  | _ => none
theorem s_c2le {off : Int} {tgt : Nat}  (hd : decode cc pc = .ok (.if_icmp .le off, 3)) (ht : (pc : Int) + off = (tgt : Int)) (KT : xS p l e R s m args below meth c cc nL ret own nm fr lo D cA b0 hs res Q kT tgt) (KF : xS p l e R s m args below meth c cc nL ret own nm fr lo D cA b0 hs res Q kF (pc + 3)) : xS p l e R s m args below meth c cc nL ret own nm fr lo D cA b0 hs res Q (oC2le kT kF) pc := by
  intro ls st h hT
  obtain ⟨y1, x1, st', rfl, hU⟩ : ∃ y1 x1 st', st = .inl y1 :: .inl x1 :: st' ∧ (if x1 ≤ y1 then kT ls st' h else kF ls st' h) = some res := by
    unfold oC2le at hT
    split at hT
    · exact ⟨_, _, _, rfl, hT⟩
    · cases hT
  replace hT := hU
  by_cases hc : x1 ≤ y1
  · rw [if_pos hc] at hT
    obtain ⟨g1, g2⟩ := KT _ _ _ hT
    exact ⟨g1, fun C arr H locs a1 a2 a3 a4 => lv_icmp_le C.1 C.2.1 hd ht (fun _ => g2 C arr H locs a1 a2 a3 a4) (fun hn => absurd hc hn)⟩
  · rw [if_neg hc] at hT
    obtain ⟨g1, g2⟩ := KF _ _ _ hT
    exact ⟨g1, fun C arr H locs a1 a2 a3 a4 => lv_icmp_le C.1 C.2.1 hd ht (fun hn => absurd hn hc) (fun _ => g2 C arr H locs a1 a2 a3 a4)⟩
def oC1le (kT kF : xK) (ls : List (Option xV)) (st : List xV) (h : xH) : xR :=
  match st with
  | .inl x1 :: st => if x1 ≤ 0 then kT ls st h else kF ls st h
  | _ => none
theorem s_c1le {off : Int} {tgt : Nat}  (hd : decode cc pc = .ok (.ifCond .le off, 3)) (ht : (pc : Int) + off = (tgt : Int)) (KT : xS p l e R s m args below meth c cc nL ret own nm fr lo D cA b0 hs res Q kT tgt) (KF : xS p l e R s m args below meth c cc nL ret own nm fr lo D cA b0 hs res Q kF (pc + 3)) : xS p l e R s m args below meth c cc nL ret own nm fr lo D cA b0 hs res Q (oC1le kT kF) pc := by
  intro ls st h hT
  obtain ⟨x1, st', rfl, hU⟩ : ∃ x1 st', st = .inl x1 :: st' ∧ (if x1 ≤ 0 then kT ls st' h else kF ls st' h) = some res := by
    unfold oC1le at hT
    split at hT
    · exact ⟨_, _, rfl, hT⟩
    · cases hT
  replace hT := hU
  by_cases hc : x1 ≤ 0
  · rw [if_pos hc] at hT
    obtain ⟨g1, g2⟩ := KT _ _ _ hT
    exact ⟨g1, fun C arr H locs a1 a2 a3 a4 => lv_if_le C.1 C.2.1 hd ht (fun _ => g2 C arr H locs a1 a2 a3 a4) (fun hn => absurd hc hn)⟩
  · rw [if_neg hc] at hT
    obtain ⟨g1, g2⟩ := KF _ _ _ hT
    exact ⟨g1, fun C arr H locs a1 a2 a3 a4 => lv_if_le C.1 C.2.1 hd ht (fun hn => absurd hn hc) (fun _ => g2 C arr H locs a1 a2 a3 a4)⟩
def oCnull (kT kF : xK) (ls : List (Option xV)) (st : List xV) (h : xH) : xR :=
  match st with
  | .inr (.inr none) :: st => kT ls st h
  | .inr (.inr (some _)) :: st => kF ls st h
  | _ => none
theorem s_cnull {off : Int} {tgt : Nat}  (hd : decode cc pc = .ok (.ifnull off, 3)) (ht : (pc : Int) + off = (tgt : Int)) (KT : xS p l e R s m args below meth c cc nL ret own nm fr lo D cA b0 hs res Q kT tgt) (KF : xS p l e R s m args below meth c cc nL ret own nm fr lo D cA b0 hs res Q kF (pc + 3)) : xS p l e R s m args below meth c cc nL ret own nm fr lo D cA b0 hs res Q (oCnull kT kF) pc := by
  intro ls st h hT
  unfold oCnull at hT
  split at hT
  · obtain ⟨g1, g2⟩ := KT _ _ _ hT
    exact ⟨g1, fun C arr H locs a1 a2 a3 a4 => lv_ifnullN C.1 C.2.1 hd ht (g2 C arr H locs a1 a2 a3 a4)⟩
  · obtain ⟨g1, g2⟩ := KF _ _ _ hT
    exact ⟨g1, fun C arr H locs a1 a2 a3 a4 => lv_ifnull C.1 C.2.1 hd (g2 C arr H locs a1 a2 a3 a4)⟩
  · cases hT
def oCnonnull (kT kF : xK) (ls : List (Option xV)) (st : List xV) (h : xH) : xR :=
  match st with
  | .inr (.inr none) :: st => kF ls st h
  | .inr (.inr (some _)) :: st => kT ls st h
  | _ => none
theorem s_cnonnull {off : Int} {tgt : Nat}  (hd : decode cc pc = .ok (.ifnonnull off, 3)) (ht : (pc : Int) + off = (tgt : Int)) (KT : xS p l e R s m args below meth c cc nL ret own nm fr lo D cA b0 hs res Q kT tgt) (KF : xS p l e R s m args below meth c cc nL ret own nm fr lo D cA b0 hs res Q kF (pc + 3)) : xS p l e R s m args below meth c cc nL ret own nm fr lo D cA b0 hs res Q (oCnonnull kT kF) pc := by
  intro ls st h hT
  unfold oCnonnull at hT
  split at hT
  · obtain ⟨g1, g2⟩ := KF _ _ _ hT
    exact ⟨g1, fun C arr H locs a1 a2 a3 a4 => lv_ifnonnullN C.1 C.2.1 hd (g2 C arr H locs a1 a2 a3 a4)⟩
  · obtain ⟨g1, g2⟩ := KT _ _ _ hT
    exact ⟨g1, fun C arr H locs a1 a2 a3 a4 => lv_ifnonnull C.1 C.2.1 hd ht (g2 C arr H locs a1 a2 a3 a4)⟩
  · cases hT
theorem s_goto {off : Int} {tgt : Nat}  (hd : decode cc pc = .ok (.goto off, 3)) (ht : (pc : Int) + off = (tgt : Int)) (K : xS p l e R s m args below meth c cc nL ret own nm fr lo D cA b0 hs res Q T tgt) : xS p l e R s m args below meth c cc nL ret own nm fr lo D cA b0 hs res Q T pc := by
  intro ls st h hT
  obtain ⟨g1, g2⟩ := K _ _ _ hT
  exact ⟨g1, fun C arr H locs a1 a2 a3 a4 => lv_goto C.1 C.2.1 hd ht (g2 C arr H locs a1 a2 a3 a4)⟩
def oTab (n : Nat) (ks : Nat → xK) (kd : xK) (ls : List (Option xV)) (st : List xV) (h : xH) : xR :=
  match st with
  | .inl x1 :: st => if x1 < 0 then kd ls st h else if x1.toNatClampNeg < n then ks x1.toNatClampNeg ls st h else kd ls st h
  | _ => none
theorem s_tab {n : Nat} {ks : Nat → xK} {kd : xK} {dflt hi : Int} {offs : Array Int} {len dt : Nat} {tg : Nat → Nat}  (hd : decode cc pc = .ok (.tableswitch dflt 0 hi offs, len)) (hhi : hi + 1 = (n : Int)) (hdt : (pc : Int) + dflt = (dt : Int))
    (hof : ∀ k, k < n → ∃ off, offs[k]? = some off ∧ (pc : Int) + off = (tg k : Int)) (KS : ∀ k, k < n → xS p l e R s m args below meth c cc nL ret own nm fr lo D cA b0 hs res Q (ks k) (tg k)) (KD : xS p l e R s m args below meth c cc nL ret own nm fr lo D cA b0 hs res Q kd dt) : xS p l e R s m args below meth c cc nL ret own nm fr lo D cA b0 hs res Q (oTab n ks kd) pc := by
  intro ls st h hT
  obtain ⟨x1, st', rfl, hU⟩ : ∃ x1 st', st = .inl x1 :: st' ∧ (if x1 < 0 then kd ls st' h else if x1.toNatClampNeg < n then ks x1.toNatClampNeg ls st' h else kd ls st' h) = some res := by
    unfold oTab at hT
    split at hT
    · exact ⟨_, _, rfl, hT⟩
    · cases hT
  replace hT := hU
  by_cases hx : x1 < 0
  · rw [if_pos hx] at hT
    obtain ⟨g1, g2⟩ := KD _ _ _ hT
    exact ⟨g1, fun C arr H locs a1 a2 a3 a4 => lv_tableOut C.1 C.2.1 hd (Or.inl (by rw [Int32.lt_iff_toInt_lt] at hx; exact hx)) hdt (g2 C arr H locs a1 a2 a3 a4)⟩
  · rw [if_neg hx] at hT
    obtain ⟨j, hj, rfl⟩ := nI_of hx
    have hti := nI_toInt hj
    rw [nI_clamp hj] at hT
    by_cases hn : j < n
    · rw [if_pos hn] at hT
      obtain ⟨g1, g2⟩ := KS j hn _ _ _ hT
      obtain ⟨off, ho, ht⟩ := hof j hn
      exact ⟨g1, fun C arr H locs a1 a2 a3 a4 => lv_tableIn C.1 C.2.1 hd (by rw [hti]; omega) (by rw [hti]; omega) (by rw [hti]; simpa using ho) ht (g2 C arr H locs a1 a2 a3 a4)⟩
    · rw [if_neg hn] at hT
      obtain ⟨g1, g2⟩ := KD _ _ _ hT
      exact ⟨g1, fun C arr H locs a1 a2 a3 a4 => lv_tableOut C.1 C.2.1 hd (Or.inr (by rw [hti]; omega)) hdt (g2 C arr H locs a1 a2 a3 a4)⟩
end XOPS
end
section
section XHEAP
variable {p : Program} {l : Launch} {e : Env} {R : Room} {s : State} {m : MethodId} {args : Array Value} {below : List Frame} {meth : Method} {c : Code} {cc : ByteArray} {nL : Nat} {ret : Option FieldType} {own nm : String} {fr lo : Nat} {D : va_G} {cA : Nat → ClassId} {b0 : Nat} {hs : xH} {res : Option xV × xH} {Q : State → Prop}
variable {pc : Nat} {T kT kF : xK}
theorem x_upd {H0 : Heap} {h : xH} {q k : Nat} {e0 e1 : xE} {H H1 : Heap} {locs : List Loc} (a2 : xRel D cA b0 h H) (a3 : va_S (fun q => b0 ≤ q) H0 H locs) (h1 : h[q]? = some e0) (he : va_at D vwCl (b0 + q, xe cA e1) H1) (z : H1.size = H.size) (oq : ∀ r, r ≠ b0 + q → H1[r]? = H[r]?) : xRel D cA b0 (h.set q e1) H1 ∧ va_S (fun q => b0 ≤ q) H0 H1 (locs ++ [⟨b0 + q, k⟩]) := by
  refine ⟨⟨by rw [z, a2.1, List.length_set], ?_⟩, a3.put z oq (by show b0 ≤ b0 + q; omega)⟩
  rw [← xW_set]
  exact a2.2.set (xW_D cA b0 h) (xW_at h1) he oq
theorem x_getD {α : Type} {xs : List α} {k j : Nat} {n d : α} (hk : k < xs.length) : (xs.set k n).getD j d = if j = k then n else xs.getD j d := by
  by_cases hj : j = k
  · subst hj
    simp [hk]
  · rw [if_neg hj]
    simp [List.getD, List.getElem?_set_ne (Ne.symm hj)]
def oGetI (b0 ci k : Nat) (T : xK) (ls : List (Option xV)) (st : List xV) (h : xH) : xR :=
  match st with
  | .inr (.inr (some a)) :: st => (xgI b0 h a ci k).bind fun n => T ls (.inl n :: st) h
  | _ => none
def oGetR (b0 ci k : Nat) (T : xK) (ls : List (Option xV)) (st : List xV) (h : xH) : xR :=
  match st with
  | .inr (.inr (some a)) :: st => (xgR b0 h a ci k).bind fun n => T ls (.inr (.inr n) :: st) h
  | _ => none
theorem s_getI {ci k idx N : Nat} {Tb : u_T} {Cn : String}  (hc : vwCl[ci]? = some (Cn, Tb, N)) (hin : ∀ w ∈ u_ws Cn Tb N, w ∈ xTB) (hk : k < N) (hl : Cond.fieldLink own idx (Tb k).1 (Tb k).2.1 (Tb k).2.2.1 ∈ xTB) (hd : decode cc pc = .ok (.getfield idx, 3)) (K : xS p l e R s m args below meth c cc nL ret own nm fr lo D cA b0 hs res Q T (pc + 3)) : xS p l e R s m args below meth c cc nL ret own nm fr lo D cA b0 hs res Q (oGetI b0 ci k T) pc := by
  intro ls st h hT
  obtain ⟨a, st', rfl, hU⟩ : ∃ a st', st = .inr (.inr (some a)) :: st' ∧ ((xgI b0 h a ci k).bind fun n => T ls (.inl n :: st') h) = some res := by
    unfold oGetI at hT
    split at hT
    · exact ⟨_, _, rfl, hT⟩
    · cases hT
  replace hT := hU
  obtain ⟨n, hn, hV⟩ := Option.bind_eq_some_iff.mp hT
  replace hT := hV
  obtain ⟨q, fs, rfl, h1, h2⟩ := xg_inv (xgI_inv hn)
  obtain ⟨g1, g2⟩ := K _ _ _ hT
  refine ⟨g1, fun C arr H locs a1 a2 a3 a4 => ?_⟩
  obtain ⟨hx, hb, hml, hown, hts, ⟨hK, hAO⟩, hb0, hR, hlk, hr, hnme, hfr, hlo⟩ := id C
  exact va_get (D := D) (ci := ci) (C := Cn) (T := Tb) (N := N) hx hb hts hin hown hK a2.2 q (xW_at h1) hc k hk (hts _ hl) (fun _ h9 => h9) (v := xv (.inl n)) (by simp [h2]) hd (g2 C arr H locs a1 a2 a3 a4)
theorem s_getR {ci k idx N : Nat} {Tb : u_T} {Cn : String}  (hc : vwCl[ci]? = some (Cn, Tb, N)) (hin : ∀ w ∈ u_ws Cn Tb N, w ∈ xTB) (hk : k < N) (hl : Cond.fieldLink own idx (Tb k).1 (Tb k).2.1 (Tb k).2.2.1 ∈ xTB) (hd : decode cc pc = .ok (.getfield idx, 3)) (K : xS p l e R s m args below meth c cc nL ret own nm fr lo D cA b0 hs res Q T (pc + 3)) : xS p l e R s m args below meth c cc nL ret own nm fr lo D cA b0 hs res Q (oGetR b0 ci k T) pc := by
  intro ls st h hT
  obtain ⟨a, st', rfl, hU⟩ : ∃ a st', st = .inr (.inr (some a)) :: st' ∧ ((xgR b0 h a ci k).bind fun n => T ls (.inr (.inr n) :: st') h) = some res := by
    unfold oGetR at hT
    split at hT
    · exact ⟨_, _, rfl, hT⟩
    · cases hT
  replace hT := hU
  obtain ⟨n, hn, hV⟩ := Option.bind_eq_some_iff.mp hT
  replace hT := hV
  obtain ⟨q, fs, rfl, h1, h2⟩ := xg_inv (xgR_inv hn)
  obtain ⟨g1, g2⟩ := K _ _ _ hT
  refine ⟨g1, fun C arr H locs a1 a2 a3 a4 => ?_⟩
  obtain ⟨hx, hb, hml, hown, hts, ⟨hK, hAO⟩, hb0, hR, hlk, hr, hnme, hfr, hlo⟩ := id C
  exact va_get (D := D) (ci := ci) (C := Cn) (T := Tb) (N := N) hx hb hts hin hown hK a2.2 q (xW_at h1) hc k hk (hts _ hl) (fun _ h9 => h9) (v := xv (.inr (.inr n))) (by simp [h2]) hd (g2 C arr H locs a1 a2 a3 a4)
theorem x_put {ci k idx N : Nat} {Tb : u_T} {Cn : String} {h : xH} {q : Nat} {fs : List xV} {v : xV} {H : Heap} {locs : List Loc} {cells slots : Nat} {arr : Array Slot} {rest : List Value} (C : xC p R s m args meth c cc nL ret own nm fr lo D cA b0 hs res) (hc : vwCl[ci]? = some (Cn, Tb, N)) (hin : ∀ w ∈ u_ws Cn Tb N, w ∈ xTB) (hk : k < N) (hl : Cond.fieldLink own idx (Tb k).1 (Tb k).2.1 (Tb k).2.2.1 ∈ xTB) (ty0 : Nat → FieldType) (hty : ∀ k, k < N → parseFieldDescriptor (Tb k).2.2.1 = some (ty0 k)) (hnm : ∀ a, a < N → ∀ b, b < N → a ≠ b → (Tb a).2.1 ≠ (Tb b).2.1) (hfin : (Tb k).2.2.2 = false) (hn : narrow (ty0 k) (xv v) = xv v) (hfit : fits (ty0 k) (xv v) = true) (hd : decode cc pc = .ok (.putfield idx, 3))
    (a2 : xRel D cA b0 h H) (a3 : va_S (fun q => b0 ≤ q) s.heap H locs) (h1 : h[q]? = some (.inr (.inr (.inl (ci, fs))))) (hlen : k < fs.length)
    (kk : ∀ (H1 : Heap) (locs1 : List Loc), xRel D cA b0 (h.set q (.inr (.inr (.inl (ci, fs.set k v))))) H1 → va_S (fun q => b0 ≤ q) s.heap H1 locs1 → W p l e R s m args below meth c H1 locs1 cells slots Q (F0 m (pc + 3) arr rest)) : W p l e R s m args below meth c H locs cells slots Q (F0 m pc arr (xv v :: .ref (b0 + q) :: rest)) := by
  obtain ⟨hx, hb, hml, hown, hts, ⟨hK, hAO⟩, hb0, hR, hlk, hr, hnme, hfr, hlo⟩ := id C
  have hap := va_apart (own := own) hts hin ty0 hty hnm hK hc
  obtain ⟨r, h2, cell, q1, q2, q3, q4⟩ := a2.2 q _ (xW_at h1)
  have hr : r = (Cn, Tb, N) := Option.some.inj (h2.symm.trans hc)
  subst hr
  obtain ⟨hSl, hfc, kC, hkC, hkind⟩ := hK.1 ci _ hc
  obtain ⟨cf, kf, fi, f, hi, hsl⟩ := hSl k hk
  have hlay := hts _ (hin _ (u_in_lay hk))
  unfold u_lay at hlay
  rw [if_neg (by rw [hfin]; decide)] at hlay
  have hst := (u_facts hfc hkC (u_lays hts hin hk) hi).1
  have h6 := u_store hfc hkC hkind hlay hi (hty k hk) hn hfit
  refine W.putK hx hb (f := f) ⟨hown, hts _ hl, ⟨_, _, _, hi⟩, hst⟩ (by rw [q2]; exact h6) q1 q3 (by rw [hsl]; exact k2_hasslot (q4 k hk)) rfl rfl hd fun H' e1 e2 e3 => ?_
  rw [hsl] at e1 ⊢
  have he : va_at D vwCl (b0 + q, xe cA (.inr (.inr (.inl (ci, fs.set k v))))) H' := ⟨_, hc, t_OB.to (V := updV (vp_V (fs.map xv)) k (xv v)) ⟨_, e1, q2, q3, t_set q4 hap hk (xv v)⟩ (fun j _ => by rw [vp_updV_set (by simpa using hlen)]; simp [List.map_set])⟩
  obtain ⟨r1, r2⟩ := x_upd (k := D.2 ci k) a2 a3 h1 he e2 e3
  exact kk H' _ r1 r2
theorem x_putF {ci k idx N : Nat} {Tb : u_T} {Cn : String} {h : xH} {q : Nat} {fs : List xV} {v : xV} {H : Heap} {locs : List Loc} {cells slots : Nat} {arr : Array Slot} {rest : List Value} (C : xC p R s m args meth c cc nL ret own nm fr lo D cA b0 hs res) (hc : vwCl[ci]? = some (Cn, Tb, N)) (hin : ∀ w ∈ u_ws Cn Tb N, w ∈ xTB) (hk : k < N) (hl : Cond.fieldLink own idx (Tb k).1 (Tb k).2.1 (Tb k).2.2.1 ∈ xTB) (ty0 : Nat → FieldType) (hty : ∀ k, k < N → parseFieldDescriptor (Tb k).2.2.1 = some (ty0 k)) (hnm : ∀ a, a < N → ∀ b, b < N → a ≠ b → (Tb a).2.1 ≠ (Tb b).2.1) (hfin : (Tb k).2.2.2 = true) (hin2 : nm = "<init>") (hdecl : (Tb k).1 = own) (hn : narrow (ty0 k) (xv v) = xv v) (hfit : fits (ty0 k) (xv v) = true) (hd : decode cc pc = .ok (.putfield idx, 3))
    (a2 : xRel D cA b0 h H) (a3 : va_S (fun q => b0 ≤ q) s.heap H locs) (h1 : h[q]? = some (.inr (.inr (.inl (ci, fs))))) (hlen : k < fs.length)
    (kk : ∀ (H1 : Heap) (locs1 : List Loc), xRel D cA b0 (h.set q (.inr (.inr (.inl (ci, fs.set k v))))) H1 → va_S (fun q => b0 ≤ q) s.heap H1 locs1 → W p l e R s m args below meth c H1 locs1 cells slots Q (F0 m (pc + 3) arr rest)) : W p l e R s m args below meth c H locs cells slots Q (F0 m pc arr (xv v :: .ref (b0 + q) :: rest)) := by
  obtain ⟨hx, hb, hml, hown, hts, ⟨hK, hAO⟩, hb0, hR, hlk, hr, hnme, hfr, hlo⟩ := id C
  have hap := va_apart (own := own) hts hin ty0 hty hnm hK hc
  obtain ⟨r, h2, cell, q1, q2, q3, q4⟩ := a2.2 q _ (xW_at h1)
  have hr : r = (Cn, Tb, N) := Option.some.inj (h2.symm.trans hc)
  subst hr
  obtain ⟨hSl, hfc, kC, hkC, hkind⟩ := hK.1 ci _ hc
  obtain ⟨cf, kf, fi, f, hi, hsl⟩ := hSl k hk
  have hlay := hts _ (hin _ (u_in_lay hk))
  unfold u_lay at hlay
  rw [if_pos hfin] at hlay
  have hst := (u_facts hfc hkC (u_lays hts hin hk) hi).1
  have hcf : m.cls = cf := by
    obtain ⟨_, _, c', _, _, _, -, -, hf', -, -, -, hown2, -⟩ := Cond.laysFinal_spec hlay
    have e1 : c' = cf := by have := hi.symm.trans hf'; simp at this; exact this.1.symm
    rw [hdecl] at hown2
    rw [← e1]; exact Option.some.inj (hown.symm.trans hown2)
  have h6 := u_fits hfc hkC hkind (Or.inr hlay) hi (hty k hk) hn hfit
  refine W.putFinK hx hb hown (hts _ hl) hi hst hcf (hnme.trans hin2) (by rw [q2]; exact h6) q1 q3 (by rw [hsl]; exact k2_hasslot (q4 k hk)) rfl rfl hd fun H' e1 e2 e3 => ?_
  rw [hsl] at e1 ⊢
  have he : va_at D vwCl (b0 + q, xe cA (.inr (.inr (.inl (ci, fs.set k v))))) H' := ⟨_, hc, t_OB.to (V := updV (vp_V (fs.map xv)) k (xv v)) ⟨_, e1, q2, q3, t_set q4 hap hk (xv v)⟩ (fun j _ => by rw [vp_updV_set (by simpa using hlen)]; simp [List.map_set])⟩
  obtain ⟨r1, r2⟩ := x_upd (k := D.2 ci k) a2 a3 h1 he e2 e3
  exact kk H' _ r1 r2
def oPutI (b0 ci k : Nat) (T : xK) (ls : List (Option xV)) (st : List xV) (h : xH) : xR :=
  match st with
  | .inl n :: .inr (.inr (some a)) :: st => (xp b0 h a ci k (.inl n)).bind fun h => T ls st h
  | _ => none
def oPutZ (b0 ci k : Nat) (T : xK) (ls : List (Option xV)) (st : List xV) (h : xH) : xR :=
  match st with
  | .inl n :: .inr (.inr (some a)) :: st => if n = 0 ∨ n = 1 then (xp b0 h a ci k (.inl n)).bind fun h => T ls st h else none
  | _ => none
def oPutR (b0 ci k : Nat) (T : xK) (ls : List (Option xV)) (st : List xV) (h : xH) : xR :=
  match st with
  | .inr (.inr n) :: .inr (.inr (some a)) :: st => (xp b0 h a ci k (.inr (.inr n))).bind fun h => T ls st h
  | _ => none
theorem s_putI {ci k idx N : Nat} {Tb : u_T} {Cn : String}  (hc : vwCl[ci]? = some (Cn, Tb, N)) (hin : ∀ w ∈ u_ws Cn Tb N, w ∈ xTB) (hk : k < N) (hl : Cond.fieldLink own idx (Tb k).1 (Tb k).2.1 (Tb k).2.2.1 ∈ xTB) (ty0 : Nat → FieldType) (hty : ∀ k, k < N → parseFieldDescriptor (Tb k).2.2.1 = some (ty0 k)) (hnm : ∀ a, a < N → ∀ b, b < N → a ≠ b → (Tb a).2.1 ≠ (Tb b).2.1) (hfin : (Tb k).2.2.2 = false) (hi : ty0 k = .int) (hd : decode cc pc = .ok (.putfield idx, 3)) (K : xS p l e R s m args below meth c cc nL ret own nm fr lo D cA b0 hs res Q T (pc + 3)) : xS p l e R s m args below meth c cc nL ret own nm fr lo D cA b0 hs res Q (oPutI b0 ci k T) pc := by
  intro ls st h hT
  obtain ⟨n, a, st', rfl, hU⟩ : ∃ n a st', st = .inl n :: .inr (.inr (some a)) :: st' ∧ ((xp b0 h a ci k (.inl n)).bind fun h => T ls st' h) = some res := by
    unfold oPutI at hT
    split at hT
    · exact ⟨_, _, _, rfl, hT⟩
    · cases hT
  replace hT := hU
  obtain ⟨h2, hn, hV⟩ := Option.bind_eq_some_iff.mp hT
  replace hT := hV
  obtain ⟨q, fs, rfl, h1, hk2, rfl⟩ := xp_inv hn
  obtain ⟨g1, g2⟩ := K _ _ _ hT
  have z1 : xsl (h.set q (.inr (.inr (.inl (ci, fs.set k (.inl n)))))) = xsl h := xsl_set h1 (by simp [xsz])
  have z2 : (h.set q (.inr (.inr (.inl (ci, fs.set k (.inl n)))))).length = h.length := List.length_set
  rw [z1, z2] at g1 g2
  refine ⟨g1, fun C arr H locs a1 a2 a3 a4 => ?_⟩
  exact x_put (v := .inl n) C hc hin hk hl ty0 hty hnm hfin (by rw [hi]; rfl) (by rw [hi]; rfl) hd a2 a3 h1 hk2 (fun H1 locs1 b2 b3 => g2 C arr H1 locs1 a1 b2 b3 a4)
theorem s_putIF {ci k idx N : Nat} {Tb : u_T} {Cn : String}  (hc : vwCl[ci]? = some (Cn, Tb, N)) (hin : ∀ w ∈ u_ws Cn Tb N, w ∈ xTB) (hk : k < N) (hl : Cond.fieldLink own idx (Tb k).1 (Tb k).2.1 (Tb k).2.2.1 ∈ xTB) (ty0 : Nat → FieldType) (hty : ∀ k, k < N → parseFieldDescriptor (Tb k).2.2.1 = some (ty0 k)) (hnm : ∀ a, a < N → ∀ b, b < N → a ≠ b → (Tb a).2.1 ≠ (Tb b).2.1) (hfin : (Tb k).2.2.2 = true) (hin2 : nm = "<init>") (hdecl : (Tb k).1 = own) (hi : ty0 k = .int) (hd : decode cc pc = .ok (.putfield idx, 3)) (K : xS p l e R s m args below meth c cc nL ret own nm fr lo D cA b0 hs res Q T (pc + 3)) : xS p l e R s m args below meth c cc nL ret own nm fr lo D cA b0 hs res Q (oPutI b0 ci k T) pc := by
  intro ls st h hT
  obtain ⟨n, a, st', rfl, hU⟩ : ∃ n a st', st = .inl n :: .inr (.inr (some a)) :: st' ∧ ((xp b0 h a ci k (.inl n)).bind fun h => T ls st' h) = some res := by
    unfold oPutI at hT
    split at hT
    · exact ⟨_, _, _, rfl, hT⟩
    · cases hT
  replace hT := hU
  obtain ⟨h2, hn, hV⟩ := Option.bind_eq_some_iff.mp hT
  replace hT := hV
  obtain ⟨q, fs, rfl, h1, hk2, rfl⟩ := xp_inv hn
  obtain ⟨g1, g2⟩ := K _ _ _ hT
  have z1 : xsl (h.set q (.inr (.inr (.inl (ci, fs.set k (.inl n)))))) = xsl h := xsl_set h1 (by simp [xsz])
  have z2 : (h.set q (.inr (.inr (.inl (ci, fs.set k (.inl n)))))).length = h.length := List.length_set
  rw [z1, z2] at g1 g2
  refine ⟨g1, fun C arr H locs a1 a2 a3 a4 => ?_⟩
  exact x_putF (v := .inl n) C hc hin hk hl ty0 hty hnm hfin hin2 hdecl (by rw [hi]; rfl) (by rw [hi]; rfl) hd a2 a3 h1 hk2 (fun H1 locs1 b2 b3 => g2 C arr H1 locs1 a1 b2 b3 a4)
theorem s_putZ {ci k idx N : Nat} {Tb : u_T} {Cn : String}  (hc : vwCl[ci]? = some (Cn, Tb, N)) (hin : ∀ w ∈ u_ws Cn Tb N, w ∈ xTB) (hk : k < N) (hl : Cond.fieldLink own idx (Tb k).1 (Tb k).2.1 (Tb k).2.2.1 ∈ xTB) (ty0 : Nat → FieldType) (hty : ∀ k, k < N → parseFieldDescriptor (Tb k).2.2.1 = some (ty0 k)) (hnm : ∀ a, a < N → ∀ b, b < N → a ≠ b → (Tb a).2.1 ≠ (Tb b).2.1) (hfin : (Tb k).2.2.2 = false) (hi : ty0 k = .boolean) (hd : decode cc pc = .ok (.putfield idx, 3)) (K : xS p l e R s m args below meth c cc nL ret own nm fr lo D cA b0 hs res Q T (pc + 3)) : xS p l e R s m args below meth c cc nL ret own nm fr lo D cA b0 hs res Q (oPutZ b0 ci k T) pc := by
  intro ls st h hT
  obtain ⟨n, a, st', rfl, hU⟩ : ∃ n a st', st = .inl n :: .inr (.inr (some a)) :: st' ∧ (if n = 0 ∨ n = 1 then (xp b0 h a ci k (.inl n)).bind fun h => T ls st' h else none) = some res := by
    unfold oPutZ at hT
    split at hT
    · exact ⟨_, _, _, rfl, hT⟩
    · cases hT
  replace hT := hU
  by_cases hz : n = 0 ∨ n = 1
  case neg => rw [if_neg hz] at hT; cases hT
  rw [if_pos hz] at hT
  obtain ⟨h2, hn, hV⟩ := Option.bind_eq_some_iff.mp hT
  replace hT := hV
  obtain ⟨q, fs, rfl, h1, hk2, rfl⟩ := xp_inv hn
  obtain ⟨g1, g2⟩ := K _ _ _ hT
  have z1 : xsl (h.set q (.inr (.inr (.inl (ci, fs.set k (.inl n)))))) = xsl h := xsl_set h1 (by simp [xsz])
  have z2 : (h.set q (.inr (.inr (.inl (ci, fs.set k (.inl n)))))).length = h.length := List.length_set
  rw [z1, z2] at g1 g2
  refine ⟨g1, fun C arr H locs a1 a2 a3 a4 => ?_⟩
  exact x_put (v := .inl n) C hc hin hk hl ty0 hty hnm hfin (by rw [hi]; rcases hz with rfl | rfl <;> rfl) (by rw [hi]; rcases hz with rfl | rfl <;> rfl) hd a2 a3 h1 hk2 (fun H1 locs1 b2 b3 => g2 C arr H1 locs1 a1 b2 b3 a4)
theorem s_putZF {ci k idx N : Nat} {Tb : u_T} {Cn : String}  (hc : vwCl[ci]? = some (Cn, Tb, N)) (hin : ∀ w ∈ u_ws Cn Tb N, w ∈ xTB) (hk : k < N) (hl : Cond.fieldLink own idx (Tb k).1 (Tb k).2.1 (Tb k).2.2.1 ∈ xTB) (ty0 : Nat → FieldType) (hty : ∀ k, k < N → parseFieldDescriptor (Tb k).2.2.1 = some (ty0 k)) (hnm : ∀ a, a < N → ∀ b, b < N → a ≠ b → (Tb a).2.1 ≠ (Tb b).2.1) (hfin : (Tb k).2.2.2 = true) (hin2 : nm = "<init>") (hdecl : (Tb k).1 = own) (hi : ty0 k = .boolean) (hd : decode cc pc = .ok (.putfield idx, 3)) (K : xS p l e R s m args below meth c cc nL ret own nm fr lo D cA b0 hs res Q T (pc + 3)) : xS p l e R s m args below meth c cc nL ret own nm fr lo D cA b0 hs res Q (oPutZ b0 ci k T) pc := by
  intro ls st h hT
  obtain ⟨n, a, st', rfl, hU⟩ : ∃ n a st', st = .inl n :: .inr (.inr (some a)) :: st' ∧ (if n = 0 ∨ n = 1 then (xp b0 h a ci k (.inl n)).bind fun h => T ls st' h else none) = some res := by
    unfold oPutZ at hT
    split at hT
    · exact ⟨_, _, _, rfl, hT⟩
    · cases hT
  replace hT := hU
  by_cases hz : n = 0 ∨ n = 1
  case neg => rw [if_neg hz] at hT; cases hT
  rw [if_pos hz] at hT
  obtain ⟨h2, hn, hV⟩ := Option.bind_eq_some_iff.mp hT
  replace hT := hV
  obtain ⟨q, fs, rfl, h1, hk2, rfl⟩ := xp_inv hn
  obtain ⟨g1, g2⟩ := K _ _ _ hT
  have z1 : xsl (h.set q (.inr (.inr (.inl (ci, fs.set k (.inl n)))))) = xsl h := xsl_set h1 (by simp [xsz])
  have z2 : (h.set q (.inr (.inr (.inl (ci, fs.set k (.inl n)))))).length = h.length := List.length_set
  rw [z1, z2] at g1 g2
  refine ⟨g1, fun C arr H locs a1 a2 a3 a4 => ?_⟩
  exact x_putF (v := .inl n) C hc hin hk hl ty0 hty hnm hfin hin2 hdecl (by rw [hi]; rcases hz with rfl | rfl <;> rfl) (by rw [hi]; rcases hz with rfl | rfl <;> rfl) hd a2 a3 h1 hk2 (fun H1 locs1 b2 b3 => g2 C arr H1 locs1 a1 b2 b3 a4)
theorem s_putR {ci k idx N : Nat} {Tb : u_T} {Cn : String}  (hc : vwCl[ci]? = some (Cn, Tb, N)) (hin : ∀ w ∈ u_ws Cn Tb N, w ∈ xTB) (hk : k < N) (hl : Cond.fieldLink own idx (Tb k).1 (Tb k).2.1 (Tb k).2.2.1 ∈ xTB) (ty0 : Nat → FieldType) (hty : ∀ k, k < N → parseFieldDescriptor (Tb k).2.2.1 = some (ty0 k)) (hnm : ∀ a, a < N → ∀ b, b < N → a ≠ b → (Tb a).2.1 ≠ (Tb b).2.1) (hfin : (Tb k).2.2.2 = false) (hi : (∃ C, ty0 k = .object C) ∨ ∃ t, ty0 k = .array t) (hd : decode cc pc = .ok (.putfield idx, 3)) (K : xS p l e R s m args below meth c cc nL ret own nm fr lo D cA b0 hs res Q T (pc + 3)) : xS p l e R s m args below meth c cc nL ret own nm fr lo D cA b0 hs res Q (oPutR b0 ci k T) pc := by
  intro ls st h hT
  obtain ⟨n, a, st', rfl, hU⟩ : ∃ n a st', st = .inr (.inr n) :: .inr (.inr (some a)) :: st' ∧ ((xp b0 h a ci k (.inr (.inr n))).bind fun h => T ls st' h) = some res := by
    unfold oPutR at hT
    split at hT
    · exact ⟨_, _, _, rfl, hT⟩
    · cases hT
  replace hT := hU
  obtain ⟨h2, hn, hV⟩ := Option.bind_eq_some_iff.mp hT
  replace hT := hV
  obtain ⟨q, fs, rfl, h1, hk2, rfl⟩ := xp_inv hn
  obtain ⟨g1, g2⟩ := K _ _ _ hT
  have z1 : xsl (h.set q (.inr (.inr (.inl (ci, fs.set k (.inr (.inr n))))))) = xsl h := xsl_set h1 (by simp [xsz])
  have z2 : (h.set q (.inr (.inr (.inl (ci, fs.set k (.inr (.inr n))))))).length = h.length := List.length_set
  rw [z1, z2] at g1 g2
  refine ⟨g1, fun C arr H locs a1 a2 a3 a4 => ?_⟩
  exact x_put (v := .inr (.inr n)) C hc hin hk hl ty0 hty hnm hfin (by rcases hi with ⟨_, hi⟩ | ⟨_, hi⟩ <;> rw [hi] <;> cases n <;> rfl) (by rcases hi with ⟨_, hi⟩ | ⟨_, hi⟩ <;> rw [hi] <;> cases n <;> rfl) hd a2 a3 h1 hk2 (fun H1 locs1 b2 b3 => g2 C arr H1 locs1 a1 b2 b3 a4)
theorem s_putRF {ci k idx N : Nat} {Tb : u_T} {Cn : String}  (hc : vwCl[ci]? = some (Cn, Tb, N)) (hin : ∀ w ∈ u_ws Cn Tb N, w ∈ xTB) (hk : k < N) (hl : Cond.fieldLink own idx (Tb k).1 (Tb k).2.1 (Tb k).2.2.1 ∈ xTB) (ty0 : Nat → FieldType) (hty : ∀ k, k < N → parseFieldDescriptor (Tb k).2.2.1 = some (ty0 k)) (hnm : ∀ a, a < N → ∀ b, b < N → a ≠ b → (Tb a).2.1 ≠ (Tb b).2.1) (hfin : (Tb k).2.2.2 = true) (hin2 : nm = "<init>") (hdecl : (Tb k).1 = own) (hi : (∃ C, ty0 k = .object C) ∨ ∃ t, ty0 k = .array t) (hd : decode cc pc = .ok (.putfield idx, 3)) (K : xS p l e R s m args below meth c cc nL ret own nm fr lo D cA b0 hs res Q T (pc + 3)) : xS p l e R s m args below meth c cc nL ret own nm fr lo D cA b0 hs res Q (oPutR b0 ci k T) pc := by
  intro ls st h hT
  obtain ⟨n, a, st', rfl, hU⟩ : ∃ n a st', st = .inr (.inr n) :: .inr (.inr (some a)) :: st' ∧ ((xp b0 h a ci k (.inr (.inr n))).bind fun h => T ls st' h) = some res := by
    unfold oPutR at hT
    split at hT
    · exact ⟨_, _, _, rfl, hT⟩
    · cases hT
  replace hT := hU
  obtain ⟨h2, hn, hV⟩ := Option.bind_eq_some_iff.mp hT
  replace hT := hV
  obtain ⟨q, fs, rfl, h1, hk2, rfl⟩ := xp_inv hn
  obtain ⟨g1, g2⟩ := K _ _ _ hT
  have z1 : xsl (h.set q (.inr (.inr (.inl (ci, fs.set k (.inr (.inr n))))))) = xsl h := xsl_set h1 (by simp [xsz])
  have z2 : (h.set q (.inr (.inr (.inl (ci, fs.set k (.inr (.inr n))))))).length = h.length := List.length_set
  rw [z1, z2] at g1 g2
  refine ⟨g1, fun C arr H locs a1 a2 a3 a4 => ?_⟩
  exact x_putF (v := .inr (.inr n)) C hc hin hk hl ty0 hty hnm hfin hin2 hdecl (by rcases hi with ⟨_, hi⟩ | ⟨_, hi⟩ <;> rw [hi] <;> cases n <;> rfl) (by rcases hi with ⟨_, hi⟩ | ⟨_, hi⟩ <;> rw [hi] <;> cases n <;> rfl) hd a2 a3 h1 hk2 (fun H1 locs1 b2 b3 => g2 C arr H1 locs1 a1 b2 b3 a4)
def oIal (b0 : Nat) (T : xK) (ls : List (Option xV)) (st : List xV) (h : xH) : xR :=
  match st with
  | .inl i :: .inr (.inr (some a)) :: st => (xai b0 0 h a i).bind fun n => T ls (.inl n :: st) h
  | _ => none
theorem s_ial  (hd : decode cc pc = .ok (.iaload, 1)) (K : xS p l e R s m args below meth c cc nL ret own nm fr lo D cA b0 hs res Q T (pc + 1)) : xS p l e R s m args below meth c cc nL ret own nm fr lo D cA b0 hs res Q (oIal b0 T) pc := by
  intro ls st h hT
  obtain ⟨i, a, st', rfl, hU⟩ : ∃ i a st', st = .inl i :: .inr (.inr (some a)) :: st' ∧ ((xai b0 0 h a i).bind fun n => T ls (.inl n :: st') h) = some res := by
    unfold oIal at hT
    split at hT
    · exact ⟨_, _, _, rfl, hT⟩
    · cases hT
  replace hT := hU
  obtain ⟨n, hn, hV⟩ := Option.bind_eq_some_iff.mp hT
  replace hT := hV
  obtain ⟨q, xs, rfl, h1, hv, h2⟩ := xai_inv hn
  obtain ⟨g1, g2⟩ := K _ _ _ hT
  refine ⟨g1, fun C arr H locs a1 a2 a3 a4 => ?_⟩
  obtain ⟨hx, hb, hml, hown, hts, ⟨hK, hAO⟩, hb0, hR, hlk, hr, hnme, hfr, hlo⟩ := id C
  have hq : xs.getD i.toNatClampNeg 0 = n := by simp [List.getD, h2]
  have hg := g2 C arr H locs a1 a2 a3 a4
  rw [← hq] at hg
  exact va_iald hx hb hK a2.2 q 0 (xW_at h1) rfl hv hd hg
def oZal (b0 : Nat) (T : xK) (ls : List (Option xV)) (st : List xV) (h : xH) : xR :=
  match st with
  | .inl i :: .inr (.inr (some a)) :: st => (xai b0 1 h a i).bind fun n => T ls (.inl n :: st) h
  | _ => none
theorem s_zal  (hd : decode cc pc = .ok (.baload, 1)) (K : xS p l e R s m args below meth c cc nL ret own nm fr lo D cA b0 hs res Q T (pc + 1)) : xS p l e R s m args below meth c cc nL ret own nm fr lo D cA b0 hs res Q (oZal b0 T) pc := by
  intro ls st h hT
  obtain ⟨i, a, st', rfl, hU⟩ : ∃ i a st', st = .inl i :: .inr (.inr (some a)) :: st' ∧ ((xai b0 1 h a i).bind fun n => T ls (.inl n :: st') h) = some res := by
    unfold oZal at hT
    split at hT
    · exact ⟨_, _, _, rfl, hT⟩
    · cases hT
  replace hT := hU
  obtain ⟨n, hn, hV⟩ := Option.bind_eq_some_iff.mp hT
  replace hT := hV
  obtain ⟨q, xs, rfl, h1, hv, h2⟩ := xai_inv hn
  obtain ⟨g1, g2⟩ := K _ _ _ hT
  refine ⟨g1, fun C arr H locs a1 a2 a3 a4 => ?_⟩
  obtain ⟨hx, hb, hml, hown, hts, ⟨hK, hAO⟩, hb0, hR, hlk, hr, hnme, hfr, hlo⟩ := id C
  have hq : xs.getD i.toNatClampNeg 0 = n := by simp [List.getD, h2]
  have hg := g2 C arr H locs a1 a2 a3 a4
  rw [← hq] at hg
  exact va_zald hx hb hK a2.2 q 1 (xW_at h1) rfl hv hd hg
def oJal (b0 : Nat) (T : xK) (ls : List (Option xV)) (st : List xV) (h : xH) : xR :=
  match st with
  | .inl i :: .inr (.inr (some a)) :: st => (xaj b0 h a i).bind fun n => T ls (.inr (.inl n) :: st) h
  | _ => none
theorem s_jal  (hd : decode cc pc = .ok (.laload, 1)) (K : xS p l e R s m args below meth c cc nL ret own nm fr lo D cA b0 hs res Q T (pc + 1)) : xS p l e R s m args below meth c cc nL ret own nm fr lo D cA b0 hs res Q (oJal b0 T) pc := by
  intro ls st h hT
  obtain ⟨i, a, st', rfl, hU⟩ : ∃ i a st', st = .inl i :: .inr (.inr (some a)) :: st' ∧ ((xaj b0 h a i).bind fun n => T ls (.inr (.inl n) :: st') h) = some res := by
    unfold oJal at hT
    split at hT
    · exact ⟨_, _, _, rfl, hT⟩
    · cases hT
  replace hT := hU
  obtain ⟨n, hn, hV⟩ := Option.bind_eq_some_iff.mp hT
  replace hT := hV
  obtain ⟨q, xs, rfl, h1, hv, h2⟩ := xaj_inv hn
  obtain ⟨g1, g2⟩ := K _ _ _ hT
  refine ⟨g1, fun C arr H locs a1 a2 a3 a4 => ?_⟩
  obtain ⟨hx, hb, hml, hown, hts, ⟨hK, hAO⟩, hb0, hR, hlk, hr, hnme, hfr, hlo⟩ := id C
  have hq : xs.getD i.toNatClampNeg 0 = n := by simp [List.getD, h2]
  have hg := g2 C arr H locs a1 a2 a3 a4
  rw [← hq] at hg
  exact va_lald hx hb hK a2.2 q 2 (xW_at h1) rfl hv hd hg
def oQal (b0 : Nat) (T : xK) (ls : List (Option xV)) (st : List xV) (h : xH) : xR :=
  match st with
  | .inl i :: .inr (.inr (some a)) :: st => (xaq b0 h a i).bind fun n => T ls (.inr (.inr n) :: st) h
  | _ => none
theorem s_qal  (hd : decode cc pc = .ok (.aaload, 1)) (K : xS p l e R s m args below meth c cc nL ret own nm fr lo D cA b0 hs res Q T (pc + 1)) : xS p l e R s m args below meth c cc nL ret own nm fr lo D cA b0 hs res Q (oQal b0 T) pc := by
  intro ls st h hT
  obtain ⟨i, a, st', rfl, hU⟩ : ∃ i a st', st = .inl i :: .inr (.inr (some a)) :: st' ∧ ((xaq b0 h a i).bind fun n => T ls (.inr (.inr n) :: st') h) = some res := by
    unfold oQal at hT
    split at hT
    · exact ⟨_, _, _, rfl, hT⟩
    · cases hT
  replace hT := hU
  obtain ⟨n, hn, hV⟩ := Option.bind_eq_some_iff.mp hT
  replace hT := hV
  obtain ⟨q, xs, rfl, h1, hv, h2⟩ := xaq_inv hn
  obtain ⟨g1, g2⟩ := K _ _ _ hT
  refine ⟨g1, fun C arr H locs a1 a2 a3 a4 => ?_⟩
  obtain ⟨hx, hb, hml, hown, hts, ⟨hK, hAO⟩, hb0, hR, hlk, hr, hnme, hfr, hlo⟩ := id C
  have hq : xs.getD i.toNatClampNeg none = n := by simp [List.getD, h2]
  have hg := g2 C arr H locs a1 a2 a3 a4
  rw [← hq] at hg
  exact va_aldq hx hb hK a2.2 q 3 (xW_at h1) rfl hv hd hg
def oLen (b0 : Nat) (T : xK) (ls : List (Option xV)) (st : List xV) (h : xH) : xR :=
  match st with
  | .inr (.inr (some a)) :: st => (xal b0 h a).bind fun n => T ls (.inl (nI n) :: st) h
  | _ => none
theorem s_len  (hd : decode cc pc = .ok (.arraylength, 1)) (K : xS p l e R s m args below meth c cc nL ret own nm fr lo D cA b0 hs res Q T (pc + 1)) : xS p l e R s m args below meth c cc nL ret own nm fr lo D cA b0 hs res Q (oLen b0 T) pc := by
  intro ls st h hT
  obtain ⟨a, st', rfl, hU⟩ : ∃ a st', st = .inr (.inr (some a)) :: st' ∧ ((xal b0 h a).bind fun n => T ls (.inl (nI n) :: st') h) = some res := by
    unfold oLen at hT
    split at hT
    · exact ⟨_, _, rfl, hT⟩
    · cases hT
  replace hT := hU
  obtain ⟨n, hn, hV⟩ := Option.bind_eq_some_iff.mp hT
  replace hT := hV
  obtain ⟨g1, g2⟩ := K _ _ _ hT
  refine ⟨g1, fun C arr H locs a1 a2 a3 a4 => ?_⟩
  obtain ⟨hx, hb, hml, hown, hts, ⟨hK, hAO⟩, hb0, hR, hlk, hr, hnme, hfr, hlo⟩ := id C
  have hg := g2 C arr H locs a1 a2 a3 a4
  unfold xal at hn
  split at hn
  · rename_i q hq
    obtain ⟨j, rfl, h1, -⟩ := xat_inv hq
    obtain ⟨t, xs⟩ := q
    dsimp only at hn
    split at hn
    case isFalse => cases hn
    rename_i ht
    subst ht
    cases hn
    exact va_alen hx hb hK a2.2 j 0 (xW_at h1) rfl rfl hd hg
  · rename_i q hq
    obtain ⟨j, rfl, h1, -⟩ := xat_inv hq
    cases hn
    exact va_alen hx hb hK a2.2 j 2 (xW_at h1) rfl rfl hd hg
  · rename_i q hq
    obtain ⟨j, rfl, h1, -⟩ := xat_inv hq
    cases hn
    exact va_alen hx hb hK a2.2 j 3 (xW_at h1) rfl rfl hd hg
  · cases hn
theorem x_uI {xs : List Int32} {k : Nat} {n : Int32} (hk : k < xs.length) : updV (fun j => Value.int (xs.getD j 0)) k (.int n) = fun j => Value.int ((xs.set k n).getD j 0) := by
  funext j
  rw [x_getD hk]
  by_cases hj : j = k <;> simp [updV, hj]
theorem x_uJ {xs : List Int64} {k : Nat} {n : Int64} (hk : k < xs.length) : updV (fun j => Value.long (xs.getD j 0)) k (.long n) = fun j => Value.long ((xs.set k n).getD j 0) := by
  funext j
  rw [x_getD hk]
  by_cases hj : j = k <;> simp [updV, hj]
theorem x_uQ {xs : List (Option Nat)} {k r : Nat} (hk : k < xs.length) : updV (fun j => va_rf (xs.getD j none)) k (.ref r) = fun j => va_rf ((xs.set k (some r)).getD j none) := by
  funext j
  rw [x_getD hk]
  by_cases hj : j = k <;> simp [updV, hj, va_rf]
theorem x_in {i : Int32} {n : Nat} (h : vp_in i n) : i.toNatClampNeg < n := Nat.not_le.mp fun q => h (Or.inr q)
def oIas (b0 : Nat) (T : xK) (ls : List (Option xV)) (st : List xV) (h : xH) : xR :=
  match st with
  | .inl n :: .inl i :: .inr (.inr (some a)) :: st => (xsi b0 0 h a i n).bind fun h => T ls st h
  | _ => none
def oZas (b0 : Nat) (T : xK) (ls : List (Option xV)) (st : List xV) (h : xH) : xR :=
  match st with
  | .inl n :: .inl i :: .inr (.inr (some a)) :: st => if n = 0 ∨ n = 1 then (xsi b0 1 h a i n).bind fun h => T ls st h else none
  | _ => none
def oJas (b0 : Nat) (T : xK) (ls : List (Option xV)) (st : List xV) (h : xH) : xR :=
  match st with
  | .inr (.inl n) :: .inl i :: .inr (.inr (some a)) :: st => (xsj b0 h a i n).bind fun h => T ls st h
  | _ => none
def oQas (b0 ci : Nat) (T : xK) (ls : List (Option xV)) (st : List xV) (h : xH) : xR :=
  match st with
  | .inr (.inr (some r)) :: .inl i :: .inr (.inr (some a)) :: st => if xis b0 h r ci = true then (xsq b0 h a i r).bind fun h => T ls st h else none
  | _ => none
theorem s_ias  (hd : decode cc pc = .ok (.iastore, 1)) (K : xS p l e R s m args below meth c cc nL ret own nm fr lo D cA b0 hs res Q T (pc + 1)) : xS p l e R s m args below meth c cc nL ret own nm fr lo D cA b0 hs res Q (oIas b0 T) pc := by
  intro ls st h hT
  obtain ⟨n, i, a, st', rfl, hU⟩ : ∃ n i a st', st = .inl n :: .inl i :: .inr (.inr (some a)) :: st' ∧ ((xsi b0 0 h a i n).bind fun h => T ls st' h) = some res := by
    unfold oIas at hT
    split at hT
    · exact ⟨_, _, _, _, rfl, hT⟩
    · cases hT
  replace hT := hU
  obtain ⟨h2, hn, hV⟩ := Option.bind_eq_some_iff.mp hT
  replace hT := hV
  obtain ⟨q, xs, rfl, h1, hv, rfl⟩ := xsi_inv hn
  obtain ⟨g1, g2⟩ := K _ _ _ hT
  have z1 : xsl (h.set q (.inl (0, xs.set i.toNatClampNeg n))) = xsl h := xsl_set h1 (by simp [xsz])
  have z2 : (h.set q (.inl (0, xs.set i.toNatClampNeg n))).length = h.length := List.length_set
  rw [z1, z2] at g1 g2
  refine ⟨g1, fun C arr H locs a1 a2 a3 a4 => ?_⟩
  obtain ⟨hx, hb, hml, hown, hts, ⟨hK, hAO⟩, hb0, hR, hlk, hr, hnme, hfr, hlo⟩ := id C
  refine W.iast hx hb (a2.2 q _ (xW_at h1)) ((hK.2 0 _ rfl).1 xs.length (fun j => .int (xs.getD j 0))) (fun q => by cases q) (by show ¬ (i < 0 ∨ (arrV _ _ _).slots.size ≤ _); rw [arrV_size]; exact hv) rfl rfl hd fun H1 e z oq => ?_
  have he : va_at D vwCl (b0 + q, xe cA (.inl (0, xs.set i.toNatClampNeg n))) H1 := by
    show H1[b0 + q]? = some (vp_cell _ _)
    rw [e]
    show some (Cell.setSlot (vp_cell _ _) _ _) = _
    rw [vp_cell_i, vp_cell_i, arrV_store, x_uI (x_in hv), List.length_set]
  obtain ⟨r1, r2⟩ := x_upd (k := i.toNatClampNeg) a2 a3 h1 he z oq
  exact g2 C arr H1 _ a1 r1 r2 a4
theorem s_zas  (hd : decode cc pc = .ok (.bastore, 1)) (K : xS p l e R s m args below meth c cc nL ret own nm fr lo D cA b0 hs res Q T (pc + 1)) : xS p l e R s m args below meth c cc nL ret own nm fr lo D cA b0 hs res Q (oZas b0 T) pc := by
  intro ls st h hT
  obtain ⟨n, i, a, st', rfl, hU⟩ : ∃ n i a st', st = .inl n :: .inl i :: .inr (.inr (some a)) :: st' ∧ (if n = 0 ∨ n = 1 then (xsi b0 1 h a i n).bind fun h => T ls st' h else none) = some res := by
    unfold oZas at hT
    split at hT
    · exact ⟨_, _, _, _, rfl, hT⟩
    · cases hT
  replace hT := hU
  by_cases hz : n = 0 ∨ n = 1
  case neg => rw [if_neg hz] at hT; cases hT
  rw [if_pos hz] at hT
  obtain ⟨h2, hn, hV⟩ := Option.bind_eq_some_iff.mp hT
  replace hT := hV
  obtain ⟨q, xs, rfl, h1, hv, rfl⟩ := xsi_inv hn
  obtain ⟨g1, g2⟩ := K _ _ _ hT
  have z1 : xsl (h.set q (.inl (1, xs.set i.toNatClampNeg n))) = xsl h := xsl_set h1 (by simp [xsz])
  have z2 : (h.set q (.inl (1, xs.set i.toNatClampNeg n))).length = h.length := List.length_set
  rw [z1, z2] at g1 g2
  refine ⟨g1, fun C arr H locs a1 a2 a3 a4 => ?_⟩
  obtain ⟨hx, hb, hml, hown, hts, ⟨hK, hAO⟩, hb0, hR, hlk, hr, hnme, hfr, hlo⟩ := id C
  refine W.zast hx hb (a2.2 q _ (xW_at h1)) ((hK.2 1 _ rfl).1 xs.length (fun j => .int (xs.getD j 0))) (fun q => by cases q) (by show ¬ (i < 0 ∨ (arrV _ _ _).slots.size ≤ _); rw [arrV_size]; exact hv) rfl rfl hd fun H1 e z oq => ?_
  have he : va_at D vwCl (b0 + q, xe cA (.inl (1, xs.set i.toNatClampNeg n))) H1 := by
    rw [show narrow .boolean (.int n) = .int n by rcases hz with rfl | rfl <;> rfl] at e
    show H1[b0 + q]? = some (vp_cell _ _)
    rw [e]
    show some (Cell.setSlot (vp_cell _ _) _ _) = _
    rw [vp_cell_i, vp_cell_i, arrV_store, x_uI (x_in hv), List.length_set]
  obtain ⟨r1, r2⟩ := x_upd (k := i.toNatClampNeg) a2 a3 h1 he z oq
  exact g2 C arr H1 _ a1 r1 r2 a4
theorem s_jas  (hd : decode cc pc = .ok (.lastore, 1)) (K : xS p l e R s m args below meth c cc nL ret own nm fr lo D cA b0 hs res Q T (pc + 1)) : xS p l e R s m args below meth c cc nL ret own nm fr lo D cA b0 hs res Q (oJas b0 T) pc := by
  intro ls st h hT
  obtain ⟨n, i, a, st', rfl, hU⟩ : ∃ n i a st', st = .inr (.inl n) :: .inl i :: .inr (.inr (some a)) :: st' ∧ ((xsj b0 h a i n).bind fun h => T ls st' h) = some res := by
    unfold oJas at hT
    split at hT
    · exact ⟨_, _, _, _, rfl, hT⟩
    · cases hT
  replace hT := hU
  obtain ⟨h2, hn, hV⟩ := Option.bind_eq_some_iff.mp hT
  replace hT := hV
  obtain ⟨q, xs, rfl, h1, hv, rfl⟩ := xsj_inv hn
  obtain ⟨g1, g2⟩ := K _ _ _ hT
  have z1 : xsl (h.set q (.inr (.inl (xs.set i.toNatClampNeg n)))) = xsl h := xsl_set h1 (by simp [xsz])
  have z2 : (h.set q (.inr (.inl (xs.set i.toNatClampNeg n)))).length = h.length := List.length_set
  rw [z1, z2] at g1 g2
  refine ⟨g1, fun C arr H locs a1 a2 a3 a4 => ?_⟩
  obtain ⟨hx, hb, hml, hown, hts, ⟨hK, hAO⟩, hb0, hR, hlk, hr, hnme, hfr, hlo⟩ := id C
  refine W.last hx hb (a2.2 q _ (xW_at h1)) ((hK.2 2 _ rfl).1 xs.length (fun j => .long (xs.getD j 0))) (fun q => by cases q) (by show ¬ (i < 0 ∨ (arrV _ _ _).slots.size ≤ _); rw [arrV_size]; exact hv) rfl rfl hd fun H1 e z oq => ?_
  have he : va_at D vwCl (b0 + q, xe cA (.inr (.inl (xs.set i.toNatClampNeg n)))) H1 := by
    show H1[b0 + q]? = some (vp_cell _ _)
    rw [e]
    show some (Cell.setSlot (vp_cell _ _) _ _) = _
    rw [vp_cell_l, vp_cell_l, arrV_store, x_uJ (x_in hv), List.length_set]
  obtain ⟨r1, r2⟩ := x_upd (k := i.toNatClampNeg) a2 a3 h1 he z oq
  exact g2 C arr H1 _ a1 r1 r2 a4
theorem s_qas {ci : Nat} {Tb : u_T} {N : Nat}  (hci : vwCl[ci]? = some (RX5, Tb, N)) (hd : decode cc pc = .ok (.aastore, 1)) (K : xS p l e R s m args below meth c cc nL ret own nm fr lo D cA b0 hs res Q T (pc + 1)) : xS p l e R s m args below meth c cc nL ret own nm fr lo D cA b0 hs res Q (oQas b0 ci T) pc := by
  intro ls st h hT
  obtain ⟨r, i, a, st', rfl, hU⟩ : ∃ r i a st', st = .inr (.inr (some r)) :: .inl i :: .inr (.inr (some a)) :: st' ∧ (if xis b0 h r ci = true then (xsq b0 h a i r).bind fun h => T ls st' h else none) = some res := by
    unfold oQas at hT
    split at hT
    · exact ⟨_, _, _, _, rfl, hT⟩
    · cases hT
  replace hT := hU
  by_cases hz : xis b0 h r ci = true
  case neg => rw [if_neg hz] at hT; cases hT
  rw [if_pos hz] at hT
  obtain ⟨q5, f5, rfl, h5⟩ := xis_inv hz
  obtain ⟨h2, hn, hV⟩ := Option.bind_eq_some_iff.mp hT
  replace hT := hV
  obtain ⟨q, xs, rfl, h1, hv, rfl⟩ := xsq_inv hn
  obtain ⟨g1, g2⟩ := K _ _ _ hT
  have z1 : xsl (h.set q (.inr (.inr (.inr (xs.set i.toNatClampNeg (some (b0 + q5))))))) = xsl h := xsl_set h1 (by simp [xsz])
  have z2 : (h.set q (.inr (.inr (.inr (xs.set i.toNatClampNeg (some (b0 + q5))))))).length = h.length := List.length_set
  rw [z1, z2] at g1 g2
  refine ⟨g1, fun C arr H locs a1 a2 a3 a4 => ?_⟩
  obtain ⟨hx, hb, hml, hown, hts, ⟨hK, hAO⟩, hb0, hR, hlk, hr, hnme, hfr, hlo⟩ := id C
  obtain ⟨r', hr', cellV, w1, w2, w3, -⟩ := a2.2 q5 _ (xW_at h5)
  have hcls := (hK.1 ci _ hci).2
  obtain ⟨kA, comp, k1, k2, k3, -⟩ := (hK.2 3 (cA 3, .object RX5) rfl).2
  have hcomp : comp = D.1 ci := Option.some.inj (k3.symm.trans hcls.1)
  subst hcomp
  obtain ⟨kC, hkC, -⟩ := hcls.2
  refine W.aast hx hb (a2.2 q _ (xW_at h1)) (fun q h => by cases h) (fun h => by cases h) k1 k2 rfl hkC ⟨fun hh => hv (Or.inl hh), by show _ < (arrV _ _ _).slots.size; rw [arrV_size]; exact x_in hv⟩ w1 (fun q h => by rw [w3] at h; cases h) (by rw [w2]; exact hkC) (by rw [w2]; exact va_assign hcls) rfl rfl hd fun H1 e z oq => ?_
  have he : va_at D vwCl (b0 + q, xe cA (.inr (.inr (.inr (xs.set i.toNatClampNeg (some (b0 + q5))))))) H1 := by
    show H1[b0 + q]? = some (vp_cell _ _)
    rw [e]
    show some (Cell.setSlot (vp_cell _ _) _ _) = _
    rw [vp_cell_q, vp_cell_q, arrV_store, x_uQ (x_in hv), List.length_set]
  obtain ⟨r1, r2⟩ := x_upd (k := i.toNatClampNeg) a2 a3 h1 he z oq
  exact g2 C arr H1 _ a1 r1 r2 a4
end XHEAP
end
section
section XCALL
variable {p : Program} {l : Launch} {e : Env} {R : Room} {s : State} {m : MethodId} {args : Array Value} {below : List Frame} {meth : Method} {c : Code} {cc : ByteArray} {nL : Nat} {ret : Option FieldType} {own nm : String} {fr lo : Nat} {D : va_G} {cA : Nat → ClassId} {b0 : Nat} {hs : xH} {res : Option xV × xH} {Q : State → Prop}
variable {pc : Nat} {T kT kF : xK}
def oNew (b0 ci : Nat) (fs : List xV) (T : xK) (ls : List (Option xV)) (st : List xV) (h : xH) : xR :=
  T ls (.inr (.inr (some (b0 + h.length))) :: st) (h ++ [.inr (.inr (.inl (ci, fs)))])
theorem s_new {ci idx N : Nat} {Tb : u_T} {Cn : String} {fs : List xV} (hc : vwCl[ci]? = some (Cn, Tb, N)) (hin : ∀ w ∈ u_ws Cn Tb N, w ∈ xTB) (ty0 : Nat → FieldType) (hty : ∀ k, k < N → parseFieldDescriptor (Tb k).2.2.1 = some (ty0 k)) (hcl : Cond.classLink own idx Cn ∈ xTB) (hins : Cond.instantiable Cn N ∈ xTB) (hini : Cond.initialized Cn ∈ xTB) (hfs : ∀ j, j < N → defaultValue (ty0 j) = vp_V (fs.map xv) j) (hlen : fs.length = N) (hd : decode cc pc = .ok (.new idx, 3)) (K : xS p l e R s m args below meth c cc nL ret own nm fr lo D cA b0 hs res Q T (pc + 3)) : xS p l e R s m args below meth c cc nL ret own nm fr lo D cA b0 hs res Q (oNew b0 ci fs T) pc := by
  intro ls st h hT
  change T ls (.inr (.inr (some (b0 + h.length))) :: st) (h ++ [.inr (.inr (.inl (ci, fs)))]) = some res at hT
  obtain ⟨g1, g2⟩ := K _ _ _ hT
  have z1 : (h ++ [(.inr (.inr (.inl (ci, fs))) : xE)]).length = h.length + 1 := by simp
  have z2 : xsl (h ++ [(.inr (.inr (.inl (ci, fs))) : xE)]) = xsl h + N := by rw [xsl_push]; show xsl h + fs.length = _; rw [hlen]
  rw [z1, z2] at g1 g2
  refine ⟨⟨by omega, by omega⟩, fun C arr H locs a1 a2 a3 a4 => ?_⟩
  obtain ⟨hx, hb, hml, hown, hts, ⟨hK, hAO⟩, hb0, hR, hlk, hr, hnme, hfr, hlo⟩ := id C
  have r1 := hR.1
  have r2 := hR.2
  have hKn := hK.1 ci _ hc
  refine W.newcK hx hb hown (hts _ hcl) (hts _ hins) (hts _ hini) rfl hd (by omega) (by omega) hKn.2.1 a2.1 fun H1 kC hkC e1 z3 o1 => ?_
  have hk : ∀ (k : Nat) (x1 : Nat × va_E), (xW cA b0 h)[k]? = some x1 → H1[x1.1]? = H[x1.1]? := fun k x1 hx1 => o1 x1.1 (by rw [← a2.1]; exact (a2.2 k x1 hx1).lt)
  have hP1 : va_P D vwCl (xW cA b0 (h ++ [(.inr (.inr (.inl (ci, fs))) : xE)])) H1 := by
    rw [xW_push]
    refine (a2.2.kept hk).app (fun k x1 hx1 => ?_)
    have hz : k < 1 := (List.getElem?_eq_some_iff.mp hx1).1
    rw [show k = 0 by omega] at hx1
    cases hx1
    exact ⟨_, hc, (u_born ty0 hts hin hKn hkC e1 hty).to hfs⟩
  have hH := a2.1
  have hS0 := a3.1
  have hS1 : va_S (fun q => b0 ≤ q) s.heap H1 locs := ⟨by omega, fun x1 h1 h2 => (o1 x1 (by omega)).trans (a3.2.1 x1 h1 h2), a3.2.2⟩
  have hg := g2 C arr H1 locs a1 ⟨by rw [z3, z1]; omega, hP1⟩ hS1 ⟨by omega, by omega⟩
  rw [show h.length + 1 - hs.length = h.length - hs.length + 1 by omega, show xsl h + N - xsl hs = xsl h - xsl hs + N by omega] at hg
  exact hg
def oNewI (b0 : Nat) (T : xK) (ls : List (Option xV)) (st : List xV) (h : xH) : xR :=
  match st with
  | .inl n :: st => if ¬ n < 0 ∧ n.toNatClampNeg ≤ 10000 then T ls (.inr (.inr (some (b0 + h.length))) :: st) (h ++ [.inl (0, List.replicate n.toNatClampNeg 0)]) else none
  | _ => none
theorem s_newi (harr : Cond.arrayClass .int ∈ xTB) (hd : decode cc pc = .ok (.newarray .int, 2)) (K : xS p l e R s m args below meth c cc nL ret own nm fr lo D cA b0 hs res Q T (pc + 2)) : xS p l e R s m args below meth c cc nL ret own nm fr lo D cA b0 hs res Q (oNewI b0 T) pc := by
  intro ls st h hT
  obtain ⟨n, st', rfl, hU⟩ : ∃ n st', st = .inl n :: st' ∧ (if ¬ n < 0 ∧ n.toNatClampNeg ≤ 10000 then T ls (.inr (.inr (some (b0 + h.length))) :: st') (h ++ [.inl (0, List.replicate n.toNatClampNeg 0)]) else none) = some res := by
    unfold oNewI at hT
    split at hT
    · exact ⟨_, _, rfl, hT⟩
    · cases hT
  replace hT := hU
  by_cases hz : ¬ n < 0 ∧ n.toNatClampNeg ≤ 10000
  case neg => rw [if_neg hz] at hT; cases hT
  rw [if_pos hz] at hT
  obtain ⟨g1, g2⟩ := K _ _ _ hT
  have z1 : (h ++ [(.inl (0, List.replicate n.toNatClampNeg 0) : xE)]).length = h.length + 1 := by simp
  have z2 : xsl (h ++ [(.inl (0, List.replicate n.toNatClampNeg 0) : xE)]) = xsl h + n.toNatClampNeg := by rw [xsl_push]; simp [xsz]
  rw [z1, z2] at g1 g2
  refine ⟨⟨by omega, by omega⟩, fun C arr H locs a1 a2 a3 a4 => ?_⟩
  obtain ⟨hx, hb, hml, hown, hts, ⟨hK, hAO⟩, hb0, hR, hlk, hr, hnme, hfr, hlo⟩ := id C
  have r1 := hR.1
  have r2 := hR.2
  refine va_newaK (atype := .int) hx hb (hts _ harr) rfl hd rfl hz.1 rfl (by show n.toNatClampNeg * _ ≤ _; have := hz.2; simp [newarray.typeOf, componentBytes]; omega) (by omega) (by omega) a2.1 fun H1 cA1 e1 z3 o1 hAr hNm => ?_
  have hcA : cA1 = cA 0 := by
    have h9 := (hK.2 0 _ rfl).2
    exact Option.some.inj (hNm.symm.trans h9)
  subst hcA
  have hk : ∀ (k : Nat) (x1 : Nat × va_E), (xW cA b0 h)[k]? = some x1 → H1[x1.1]? = H[x1.1]? := fun k x1 hx1 => o1 x1.1 (by rw [← a2.1]; exact (a2.2 k x1 hx1).lt)
  have hP1 : va_P D vwCl (xW cA b0 (h ++ [(.inl (0, List.replicate n.toNatClampNeg 0) : xE)])) H1 := by
    rw [xW_push]
    refine (a2.2.kept hk).app (fun k x1 hx1 => ?_)
    have hz : k < 1 := (List.getElem?_eq_some_iff.mp hx1).1
    rw [show k = 0 by omega] at hx1
    cases hx1
    show H1[b0 + h.length]? = some (vp_cell _ _)
    rw [e1, vp_cell_i, List.length_replicate]
    congr 2
    funext j
    simp [List.getD, List.getElem?_replicate, newarray.typeOf, defaultValue]
    try (split <;> rfl)
  have hH := a2.1
  have hS0 := a3.1
  have hS1 : va_S (fun q => b0 ≤ q) s.heap H1 locs := ⟨by omega, fun x1 h1 h2 => (o1 x1 (by omega)).trans (a3.2.1 x1 h1 h2), a3.2.2⟩
  have hg := g2 C arr H1 locs a1 ⟨by rw [z3, z1]; omega, hP1⟩ hS1 ⟨by omega, by omega⟩
  rw [show h.length + 1 - hs.length = h.length - hs.length + 1 by omega, show xsl h + n.toNatClampNeg - xsl hs = xsl h - xsl hs + n.toNatClampNeg by omega] at hg
  exact hg
def oNewZ (b0 : Nat) (T : xK) (ls : List (Option xV)) (st : List xV) (h : xH) : xR :=
  match st with
  | .inl n :: st => if ¬ n < 0 ∧ n.toNatClampNeg ≤ 10000 then T ls (.inr (.inr (some (b0 + h.length))) :: st) (h ++ [.inl (1, List.replicate n.toNatClampNeg 0)]) else none
  | _ => none
theorem s_newz (harr : Cond.arrayClass .boolean ∈ xTB) (hd : decode cc pc = .ok (.newarray .boolean, 2)) (K : xS p l e R s m args below meth c cc nL ret own nm fr lo D cA b0 hs res Q T (pc + 2)) : xS p l e R s m args below meth c cc nL ret own nm fr lo D cA b0 hs res Q (oNewZ b0 T) pc := by
  intro ls st h hT
  obtain ⟨n, st', rfl, hU⟩ : ∃ n st', st = .inl n :: st' ∧ (if ¬ n < 0 ∧ n.toNatClampNeg ≤ 10000 then T ls (.inr (.inr (some (b0 + h.length))) :: st') (h ++ [.inl (1, List.replicate n.toNatClampNeg 0)]) else none) = some res := by
    unfold oNewZ at hT
    split at hT
    · exact ⟨_, _, rfl, hT⟩
    · cases hT
  replace hT := hU
  by_cases hz : ¬ n < 0 ∧ n.toNatClampNeg ≤ 10000
  case neg => rw [if_neg hz] at hT; cases hT
  rw [if_pos hz] at hT
  obtain ⟨g1, g2⟩ := K _ _ _ hT
  have z1 : (h ++ [(.inl (1, List.replicate n.toNatClampNeg 0) : xE)]).length = h.length + 1 := by simp
  have z2 : xsl (h ++ [(.inl (1, List.replicate n.toNatClampNeg 0) : xE)]) = xsl h + n.toNatClampNeg := by rw [xsl_push]; simp [xsz]
  rw [z1, z2] at g1 g2
  refine ⟨⟨by omega, by omega⟩, fun C arr H locs a1 a2 a3 a4 => ?_⟩
  obtain ⟨hx, hb, hml, hown, hts, ⟨hK, hAO⟩, hb0, hR, hlk, hr, hnme, hfr, hlo⟩ := id C
  have r1 := hR.1
  have r2 := hR.2
  refine va_newaK (atype := .boolean) hx hb (hts _ harr) rfl hd rfl hz.1 rfl (by show n.toNatClampNeg * _ ≤ _; have := hz.2; simp [newarray.typeOf, componentBytes]; omega) (by omega) (by omega) a2.1 fun H1 cA1 e1 z3 o1 hAr hNm => ?_
  have hcA : cA1 = cA 1 := by
    have h9 := (hK.2 1 _ rfl).2
    exact Option.some.inj (hNm.symm.trans h9)
  subst hcA
  have hk : ∀ (k : Nat) (x1 : Nat × va_E), (xW cA b0 h)[k]? = some x1 → H1[x1.1]? = H[x1.1]? := fun k x1 hx1 => o1 x1.1 (by rw [← a2.1]; exact (a2.2 k x1 hx1).lt)
  have hP1 : va_P D vwCl (xW cA b0 (h ++ [(.inl (1, List.replicate n.toNatClampNeg 0) : xE)])) H1 := by
    rw [xW_push]
    refine (a2.2.kept hk).app (fun k x1 hx1 => ?_)
    have hz : k < 1 := (List.getElem?_eq_some_iff.mp hx1).1
    rw [show k = 0 by omega] at hx1
    cases hx1
    show H1[b0 + h.length]? = some (vp_cell _ _)
    rw [e1, vp_cell_i, List.length_replicate]
    congr 2
    funext j
    simp [List.getD, List.getElem?_replicate, newarray.typeOf, defaultValue]
    try (split <;> rfl)
  have hH := a2.1
  have hS0 := a3.1
  have hS1 : va_S (fun q => b0 ≤ q) s.heap H1 locs := ⟨by omega, fun x1 h1 h2 => (o1 x1 (by omega)).trans (a3.2.1 x1 h1 h2), a3.2.2⟩
  have hg := g2 C arr H1 locs a1 ⟨by rw [z3, z1]; omega, hP1⟩ hS1 ⟨by omega, by omega⟩
  rw [show h.length + 1 - hs.length = h.length - hs.length + 1 by omega, show xsl h + n.toNatClampNeg - xsl hs = xsl h - xsl hs + n.toNatClampNeg by omega] at hg
  exact hg
def oNewJ (b0 : Nat) (T : xK) (ls : List (Option xV)) (st : List xV) (h : xH) : xR :=
  match st with
  | .inl n :: st => if ¬ n < 0 ∧ n.toNatClampNeg ≤ 10000 then T ls (.inr (.inr (some (b0 + h.length))) :: st) (h ++ [.inr (.inl (List.replicate n.toNatClampNeg 0))]) else none
  | _ => none
theorem s_newj (harr : Cond.arrayClass .long ∈ xTB) (hd : decode cc pc = .ok (.newarray .long, 2)) (K : xS p l e R s m args below meth c cc nL ret own nm fr lo D cA b0 hs res Q T (pc + 2)) : xS p l e R s m args below meth c cc nL ret own nm fr lo D cA b0 hs res Q (oNewJ b0 T) pc := by
  intro ls st h hT
  obtain ⟨n, st', rfl, hU⟩ : ∃ n st', st = .inl n :: st' ∧ (if ¬ n < 0 ∧ n.toNatClampNeg ≤ 10000 then T ls (.inr (.inr (some (b0 + h.length))) :: st') (h ++ [.inr (.inl (List.replicate n.toNatClampNeg 0))]) else none) = some res := by
    unfold oNewJ at hT
    split at hT
    · exact ⟨_, _, rfl, hT⟩
    · cases hT
  replace hT := hU
  by_cases hz : ¬ n < 0 ∧ n.toNatClampNeg ≤ 10000
  case neg => rw [if_neg hz] at hT; cases hT
  rw [if_pos hz] at hT
  obtain ⟨g1, g2⟩ := K _ _ _ hT
  have z1 : (h ++ [(.inr (.inl (List.replicate n.toNatClampNeg 0)) : xE)]).length = h.length + 1 := by simp
  have z2 : xsl (h ++ [(.inr (.inl (List.replicate n.toNatClampNeg 0)) : xE)]) = xsl h + n.toNatClampNeg := by rw [xsl_push]; simp [xsz]
  rw [z1, z2] at g1 g2
  refine ⟨⟨by omega, by omega⟩, fun C arr H locs a1 a2 a3 a4 => ?_⟩
  obtain ⟨hx, hb, hml, hown, hts, ⟨hK, hAO⟩, hb0, hR, hlk, hr, hnme, hfr, hlo⟩ := id C
  have r1 := hR.1
  have r2 := hR.2
  refine va_newaK (atype := .long) hx hb (hts _ harr) rfl hd rfl hz.1 rfl (by show n.toNatClampNeg * _ ≤ _; have := hz.2; simp [newarray.typeOf, componentBytes]; omega) (by omega) (by omega) a2.1 fun H1 cA1 e1 z3 o1 hAr hNm => ?_
  have hcA : cA1 = cA 2 := by
    have h9 := (hK.2 2 _ rfl).2
    exact Option.some.inj (hNm.symm.trans h9)
  subst hcA
  have hk : ∀ (k : Nat) (x1 : Nat × va_E), (xW cA b0 h)[k]? = some x1 → H1[x1.1]? = H[x1.1]? := fun k x1 hx1 => o1 x1.1 (by rw [← a2.1]; exact (a2.2 k x1 hx1).lt)
  have hP1 : va_P D vwCl (xW cA b0 (h ++ [(.inr (.inl (List.replicate n.toNatClampNeg 0)) : xE)])) H1 := by
    rw [xW_push]
    refine (a2.2.kept hk).app (fun k x1 hx1 => ?_)
    have hz : k < 1 := (List.getElem?_eq_some_iff.mp hx1).1
    rw [show k = 0 by omega] at hx1
    cases hx1
    show H1[b0 + h.length]? = some (vp_cell _ _)
    rw [e1, vp_cell_l, List.length_replicate]
    congr 2
    funext j
    simp [List.getD, List.getElem?_replicate, newarray.typeOf, defaultValue]
    try (split <;> rfl)
  have hH := a2.1
  have hS0 := a3.1
  have hS1 : va_S (fun q => b0 ≤ q) s.heap H1 locs := ⟨by omega, fun x1 h1 h2 => (o1 x1 (by omega)).trans (a3.2.1 x1 h1 h2), a3.2.2⟩
  have hg := g2 C arr H1 locs a1 ⟨by rw [z3, z1]; omega, hP1⟩ hS1 ⟨by omega, by omega⟩
  rw [show h.length + 1 - hs.length = h.length - hs.length + 1 by omega, show xsl h + n.toNatClampNeg - xsl hs = xsl h - xsl hs + n.toNatClampNeg by omega] at hg
  exact hg
def oNewQ (b0 : Nat) (T : xK) (ls : List (Option xV)) (st : List xV) (h : xH) : xR :=
  match st with
  | .inl n :: st => if ¬ n < 0 ∧ n.toNatClampNeg ≤ 10000 then T ls (.inr (.inr (some (b0 + h.length))) :: st) (h ++ [.inr (.inr (.inr (List.replicate n.toNatClampNeg none)))]) else none
  | _ => none
theorem s_newq {idx : Nat} (hcl : Cond.classLink own idx RX5 ∈ xTB) (hd : decode cc pc = .ok (.anewarray idx, 3)) (K : xS p l e R s m args below meth c cc nL ret own nm fr lo D cA b0 hs res Q T (pc + 3)) : xS p l e R s m args below meth c cc nL ret own nm fr lo D cA b0 hs res Q (oNewQ b0 T) pc := by
  intro ls st h hT
  obtain ⟨n, st', rfl, hU⟩ : ∃ n st', st = .inl n :: st' ∧ (if ¬ n < 0 ∧ n.toNatClampNeg ≤ 10000 then T ls (.inr (.inr (some (b0 + h.length))) :: st') (h ++ [.inr (.inr (.inr (List.replicate n.toNatClampNeg none)))]) else none) = some res := by
    unfold oNewQ at hT
    split at hT
    · exact ⟨_, _, rfl, hT⟩
    · cases hT
  replace hT := hU
  by_cases hz : ¬ n < 0 ∧ n.toNatClampNeg ≤ 10000
  case neg => rw [if_neg hz] at hT; cases hT
  rw [if_pos hz] at hT
  obtain ⟨g1, g2⟩ := K _ _ _ hT
  have z1 : (h ++ [(.inr (.inr (.inr (List.replicate n.toNatClampNeg none))) : xE)]).length = h.length + 1 := by simp
  have z2 : xsl (h ++ [(.inr (.inr (.inr (List.replicate n.toNatClampNeg none))) : xE)]) = xsl h + n.toNatClampNeg := by rw [xsl_push]; simp [xsz]
  rw [z1, z2] at g1 g2
  refine ⟨⟨by omega, by omega⟩, fun C arr H locs a1 a2 a3 a4 => ?_⟩
  obtain ⟨hx, hb, hml, hown, hts, ⟨hK, hAO⟩, hb0, hR, hlk, hr, hnme, hfr, hlo⟩ := id C
  have r1 := hR.1
  have r2 := hR.2
  refine W.anew hx hb hown (hts _ hcl) (va_AO.use hAO) rfl hd rfl hz.1 (by have := hz.2; omega) (by omega) (by omega) fun cA1 kA comp f1 f2 f3 f4 => ?_
  have hcA : cA1 = cA 3 := by
    obtain ⟨_, _, _, _, _, h9⟩ := (hK.2 3 (cA 3, .object RX5) rfl).2
    exact Option.some.inj (f1.symm.trans h9)
  subst hcA
  generalize hH1 : H.push ({ cls := cA 3, slots := Array.replicate n.toNatClampNeg .null, vm := .none } : Cell) = H1
  have z3 : H1.size = H.size + 1 := by rw [← hH1, Array.size_push]
  have e1 : H1[H.size]? = some (arrV (cA 3) n.toNatClampNeg (fun _ => .null)) := by rw [← hH1, Array.getElem?_push_size, ← arrV_new]
  have o1 : ∀ q : Nat, q < H.size → H1[q]? = H[q]? := fun q hq => by rw [← hH1, Array.getElem?_push, if_neg (Nat.ne_of_lt hq)]
  have hk : ∀ (k : Nat) (x1 : Nat × va_E), (xW cA b0 h)[k]? = some x1 → H1[x1.1]? = H[x1.1]? := fun k x1 hx1 => o1 x1.1 ((a2.2 k x1 hx1).lt)
  have hH := a2.1
  rw [hH] at e1
  have hP1 : va_P D vwCl (xW cA b0 (h ++ [(.inr (.inr (.inr (List.replicate n.toNatClampNeg none))) : xE)])) H1 := by
    rw [xW_push]
    refine (a2.2.kept hk).app (fun k x1 hx1 => ?_)
    have hz : k < 1 := (List.getElem?_eq_some_iff.mp hx1).1
    rw [show k = 0 by omega] at hx1
    cases hx1
    show H1[b0 + h.length]? = some (vp_cell _ _)
    rw [e1, vp_cell_q, List.length_replicate]
    congr 2
    funext j
    simp [List.getD, List.getElem?_replicate]
    try (split <;> rfl)
  have hS0 := a3.1
  have hS1 : va_S (fun q => b0 ≤ q) s.heap H1 locs := ⟨by omega, fun x1 h1 h2 => (o1 x1 (by omega)).trans (a3.2.1 x1 h1 h2), a3.2.2⟩
  have hg := g2 C arr H1 locs a1 ⟨by rw [z3, z1]; omega, hP1⟩ hS1 ⟨by omega, by omega⟩
  rw [show h.length + 1 - hs.length = h.length - hs.length + 1 by omega, show xsl h + n.toNatClampNeg - xsl hs = xsl h - xsl hs + n.toNatClampNeg by omega] at hg
  rw [hH]
  exact hg
end XCALL

def xQ (D : va_G) (cA : Nat → ClassId) (b0 : Nat) (res : Option xV × xH) : Array Value → State → Outcome → State → Prop := fun _ st o t => o = .returned (res.1.map xv) ∧ xRel D cA b0 res.2 t.heap ∧ va_F (fun q => b0 ≤ q) st t
def xPc (D : va_G) (cA : Nat → ClassId) (b0 : Nat) (as : List xV) (h : xH) : Array Value → State → Prop := va_Pc (as.map xv) (fun U => xRel D cA b0 h U.heap ∧ va_K D vwCl (xT cA) U ∧ va_AO RX5 U)
/-- a method's contract: f is the method in the small machine -/
def xMet (l : Launch) (D : va_G) (cA : Nat → ClassId) (b0 : Nat) (y : MethodName) (ws : List Cond) (fr lo : Nat) (f : List xV → xH → xR) : Prop :=
  ∀ (as : List xV) (h : xH) (res : Option xV × xH), f as h = some res → (∀ (_ : Program) (_ : Env) (_ : Code), h.length ≤ res.2.length ∧ xsl h ≤ xsl res.2) ∧
    Met l y ws { frames := fr, cells := res.2.length - h.length, slots := xsl res.2 - xsl h, locals := lo } (xPc D cA b0 as h) (xQ D cA b0 res) (res.2.length - h.length) (xsl res.2 - xsl h) (fun q => b0 ≤ q)
theorem xPc_blind (D : va_G) (cA : Nat → ClassId) (b0 : Nat) (as : List xV) (h : xH) : FrameBlind (xPc D cA b0 as h) := fun a U g mk q => ⟨q.1, q.2.1, va_K.moved (u := U) (U := U.calling g mk a) (Vm.Alike.refl U.vm) q.2.2.1, va_AO.moved (u := U) (U := U.calling g mk a) (Vm.Alike.refl U.vm) q.2.2.2⟩
def xMQ (D : va_G) (cA : Nat → ClassId) (b0 : Nat) (below : List Frame) (args : Array Value) (s : State) (hs : xH) (res : Option xV × xH) : State → Prop := MQ below (xQ D cA b0 res) args s (res.2.length - hs.length) (xsl res.2 - xsl hs) (fun q => b0 ≤ q)

section XRUN
variable {p : Program} {l : Launch} {e : Env} {R : Room} {s : State} {m : MethodId} {args : Array Value} {below : List Frame} {meth : Method} {c : Code} {cc : ByteArray} {nL : Nat} {ret : Option FieldType} {own nm : String} {fr lo : Nat} {D : va_G} {cA : Nat → ClassId} {b0 : Nat} {hs : xH} {res : Option xV × xH} {Q : State → Prop}
variable {pc : Nat} {T kT kF : xK}
theorem x_ret {H : Heap} {locs : List Loc} {cells slots mc ms : Nat} {r1 : Option xV × xH} {rest : List xV} {arr : Array Slot} {stv : List Value} {av : Array Value} (hr : va_Run p l e R s m args below meth c H locs cells slots mc ms (F0 m pc arr stv) (rest.map xv) (xQ D cA b0 r1 av) (fun q => b0 ≤ q)) (a3 : va_S (fun q => b0 ≤ q) s.heap H locs)
    (kk : ∀ (H1 : Heap) (locs1 : List Loc), xRel D cA b0 r1.2 H1 → va_S (fun q => b0 ≤ q) s.heap H1 locs1 → W p l e R s m args below meth c H1 locs1 (cells + mc) (slots + ms) Q (F0 m (pc + 3) arr ((r1.1.toList ++ rest).map xv))) : W p l e R s m args below meth c H locs cells slots Q (F0 m pc arr stv) := by
  intro T0 hT0 X
  obtain ⟨v, st0, t, T1, L, h0, X1, hL, e1, e2, ⟨ho, hrel, hF⟩, go⟩ := hr T0 hT0 X
  injection ho with ho
  subst ho
  have hF1 := hF.1
  rw [h0] at hF1
  have hS1 : va_S (fun q => b0 ≤ q) s.heap t.heap (locs ++ L) := ⟨Nat.le_trans a3.1 hF1, fun q h1 h2 => (hF.2 q (by rw [h0]; exact Nat.lt_of_lt_of_le h1 a3.1) h2).trans (by rw [h0]; exact a3.2.1 q h1 h2), fun q hq => (List.mem_append.mp hq).elim (a3.2.2 q) (hL q)⟩
  obtain ⟨t2, b1, b2⟩ := kk t.heap (locs ++ L) hrel hS1 T1 e1 X1
  refine ⟨t2, go t2 ?_, b2⟩
  have e5 : (r1.1.toList ++ rest).map xv = (r1.1.map xv).toList ++ rest.map xv := by cases r1.1 <;> simp
  rw [e5] at b1
  exact b1
def oCallV (b0 n ci : Nat) (f : List xV → xH → xR) (T : xK) (ls : List (Option xV)) (st : List xV) (h : xH) : xR :=
  match st.drop n with
  | .inr (.inr (some a)) :: rest => if xis b0 h a ci = true ∧ rest.length ≤ 4 then (f (.inr (.inr (some a)) :: (st.take n).reverse) h).bind fun q => T ls (q.1.toList ++ rest) q.2 else none
  | _ => none
def oCallI (n : Nat) (f : List xV → xH → xR) (T : xK) (ls : List (Option xV)) (st : List xV) (h : xH) : xR :=
  match st.drop n with
  | .inr (.inr (some a)) :: rest => if rest.length ≤ 4 then (f (.inr (.inr (some a)) :: (st.take n).reverse) h).bind fun q => T ls (q.1.toList ++ rest) q.2 else none
  | _ => none
def oCallS (n : Nat) (f : List xV → xH → xR) (T : xK) (ls : List (Option xV)) (st : List xV) (h : xH) : xR :=
  if n ≤ st.length ∧ (st.drop n).length ≤ 4 then (f (st.take n).reverse h).bind fun q => T ls (q.1.toList ++ st.drop n) q.2 else none
theorem s_callV {n idx fr1 lo1 maxL : Nat} {y : MethodName} {bytes : ByteArray} {rt : Option FieldType} {f : List xV → xH → xR} {ci N : Nat} {Tb : u_T} {Cn : String} (hM : xMet l D cA b0 y (.code y bytes maxL rt :: xTB) fr1 lo1 f) (hc : vwCl[ci]? = some (Cn, Tb, N)) (h1 : Cond.methodLink own idx y ∈ xTB) (h2 : Cond.instanceMethod y ∈ xTB) (h3 : Cond.selects Cn y y ∈ xTB) (h4 : Cond.initialized Cn ∈ xTB) (h5 : Cond.code y bytes maxL rt ∈ xTB) (hy : y.cls = Cn ∧ y.cls ≠ "java/lang/invoke/MethodHandle" ∧ y.cls ≠ "java/lang/invoke/VarHandle" ∧ (parseMethodDescriptor y.desc).map (fun d => d.parameters.length) = some n) (hfl : fr1 + 1 ≤ fr ∧ 8 + (maxL + 11) + lo1 ≤ lo) (hd : decode cc pc = .ok (.invokevirtual idx, 3)) (K : xS p l e R s m args below meth c cc nL ret own nm fr lo D cA b0 hs res Q T (pc + 3)) : xS p l e R s m args below meth c cc nL ret own nm fr lo D cA b0 hs res Q (oCallV b0 n ci f T) pc := by
  intro ls st h hT
  obtain ⟨a, rest, hdr, hz, r1, hf, hU⟩ : ∃ a rest, st.drop n = .inr (.inr (some a)) :: rest ∧ (xis b0 h a ci = true ∧ rest.length ≤ 4) ∧ ∃ r1, f (.inr (.inr (some a)) :: (st.take n).reverse) h = some r1 ∧ T ls (r1.1.toList ++ rest) r1.2 = some res := by
    unfold oCallV at hT
    split at hT
    · rename_i a rest hdr
      by_cases hz : xis b0 h a ci = true ∧ rest.length ≤ 4
      · rw [if_pos hz] at hT
        obtain ⟨r1, hf, hU⟩ := Option.bind_eq_some_iff.mp hT
        exact ⟨a, rest, hdr, hz, r1, hf, hU⟩
      · rw [if_neg hz] at hT; cases hT
    · cases hT
  obtain ⟨g1, g2⟩ := K _ _ _ hU
  obtain ⟨m1, hMet⟩ := hM _ _ _ hf
  have m1 := m1 p e c
  obtain ⟨q, fs, rfl, hq⟩ := xis_inv hz.1
  refine ⟨⟨by omega, by omega⟩, fun C arr H locs a1 a2 a3 a4 => ?_⟩
  obtain ⟨hx, hb, hml, hown, hts, ⟨hK, hAO⟩, hb0, hR, hlk, hr, hnme, hfr, hlo⟩ := id C
  have r1' := hR.1
  have r2' := hR.2
  have hlen : (st.take n).length = n := by
    have := congrArg List.length hdr
    simp only [List.length_drop, List.length_cons] at this
    rw [List.length_take]
    omega
  have hmap : st.map xv = ((st.take n).reverse.map xv).reverse ++ .ref (b0 + q) :: rest.map xv := by
    conv => lhs; rw [← List.take_append_drop n st, hdr]
    simp [xv, va_rf]
  rw [hmap]
  refine x_ret (r1 := r1) (rest := rest) (va_runV (As := (st.take n).reverse.map xv) (rest := rest.map xv) ⟨hx, hb, hml, hown, hts⟩ hMet (cwV n hts (xgood (fun w hw => ?_)) rfl rfl rfl hy ⟨by show fr1 + 1 ≤ _; omega, by show 8 + (maxL + 11) + lo1 ≤ _; omega⟩) ⟨xPc_blind D cA b0 _ h, va_recv hK a2.2 hc (xW_at hq), fun U hU hW => ⟨rfl, by rw [hU]; exact a2, va_K.moved hW.alike hK, va_AO.moved hW.alike hAO⟩⟩ rfl (by rw [List.length_map, List.length_reverse, hlen]) a1.1 rfl (lv_room (Nat.le_trans (xcats rest) (by omega))) hd ⟨by omega, by omega⟩) a3 (fun H1 locs1 b2 b3 => ?_)
  · unfold wsV at hw
    rcases List.mem_append.mp hw with hw | hw
    · simp only [List.mem_cons, List.not_mem_nil, or_false] at hw
      rcases hw with rfl | rfl | rfl | rfl <;> assumption
    · rcases List.mem_cons.mp hw with rfl | hw <;> assumption
  · have hg := g2 C arr H1 locs1 a1 b2 b3 ⟨by omega, by omega⟩
    rw [show r1.2.length - hs.length = h.length - hs.length + (r1.2.length - h.length) by omega, show xsl r1.2 - xsl hs = xsl h - xsl hs + (xsl r1.2 - xsl h) by omega] at hg
    exact hg
theorem s_callI {n idx fr1 lo1 maxL : Nat} {y : MethodName} {bytes : ByteArray} {f : List xV → xH → xR} (hM : xMet l D cA b0 y (.code y bytes maxL none :: xTB) fr1 lo1 f) (h1 : Cond.methodLink own idx y ∈ xTB) (h2 : Cond.instanceMethod y ∈ xTB) (h4 : Cond.initialized y.cls ∈ xTB) (h5 : Cond.code y bytes maxL none ∈ xTB) (hy1 : y.name = "<init>") (hy : y.cls ≠ "java/lang/invoke/MethodHandle" ∧ y.cls ≠ "java/lang/invoke/VarHandle" ∧ (parseMethodDescriptor y.desc).map (fun d => d.parameters.length) = some n) (hfl : fr1 + 1 ≤ fr ∧ 8 + (maxL + 11) + lo1 ≤ lo) (hd : decode cc pc = .ok (.invokespecial idx, 3)) (K : xS p l e R s m args below meth c cc nL ret own nm fr lo D cA b0 hs res Q T (pc + 3)) : xS p l e R s m args below meth c cc nL ret own nm fr lo D cA b0 hs res Q (oCallI n f T) pc := by
  intro ls st h hT
  obtain ⟨a, rest, hdr, hz, r1, hf, hU⟩ : ∃ a rest, st.drop n = .inr (.inr (some a)) :: rest ∧ (rest.length ≤ 4) ∧ ∃ r1, f (.inr (.inr (some a)) :: (st.take n).reverse) h = some r1 ∧ T ls (r1.1.toList ++ rest) r1.2 = some res := by
    unfold oCallI at hT
    split at hT
    · rename_i a rest hdr
      by_cases hz : rest.length ≤ 4
      · rw [if_pos hz] at hT
        obtain ⟨r1, hf, hU⟩ := Option.bind_eq_some_iff.mp hT
        exact ⟨a, rest, hdr, hz, r1, hf, hU⟩
      · rw [if_neg hz] at hT; cases hT
    · cases hT
  obtain ⟨g1, g2⟩ := K _ _ _ hU
  obtain ⟨m1, hMet⟩ := hM _ _ _ hf
  have m1 := m1 p e c
  refine ⟨⟨by omega, by omega⟩, fun C arr H locs a1 a2 a3 a4 => ?_⟩
  obtain ⟨hx, hb, hml, hown, hts, ⟨hK, hAO⟩, hb0, hR, hlk, hr, hnme, hfr, hlo⟩ := id C
  have r1' := hR.1
  have r2' := hR.2
  have hlen : (st.take n).length = n := by
    have := congrArg List.length hdr
    simp only [List.length_drop, List.length_cons] at this
    rw [List.length_take]
    omega
  have hmap : st.map xv = ((st.take n).reverse.map xv).reverse ++ .ref a :: rest.map xv := by
    conv => lhs; rw [← List.take_append_drop n st, hdr]
    simp [xv, va_rf]
  rw [hmap]
  refine x_ret (r1 := r1) (rest := rest) (va_runI (As := (st.take n).reverse.map xv) (rest := rest.map xv) ⟨hx, hb, hml, hown, hts⟩ hMet (cwI n hts (xgood (fun w hw => ?_)) rfl rfl rfl (hts _ h4) (hts _ h1) (hts _ h2) hy1 hy ⟨by show fr1 + 1 ≤ _; omega, by show 8 + (maxL + 11) + lo1 ≤ _; omega⟩) ⟨xPc_blind D cA b0 _ h, fun U hU hW => ⟨rfl, by rw [hU]; exact a2, va_K.moved hW.alike hK, va_AO.moved hW.alike hAO⟩⟩ rfl (by rw [List.length_map, List.length_reverse, hlen]) a1.1 rfl (lv_room (Nat.le_trans (xcats rest) (by omega))) hd ⟨by omega, by omega⟩) a3 (fun H1 locs1 b2 b3 => ?_)
  · rcases List.mem_cons.mp hw with rfl | hw <;> assumption
  · have hg := g2 C arr H1 locs1 a1 b2 b3 ⟨by omega, by omega⟩
    rw [show r1.2.length - hs.length = h.length - hs.length + (r1.2.length - h.length) by omega, show xsl r1.2 - xsl hs = xsl h - xsl hs + (xsl r1.2 - xsl h) by omega] at hg
    exact hg
theorem s_callS {n idx fr1 lo1 maxL : Nat} {y : MethodName} {bytes : ByteArray} {rt : Option FieldType} {f : List xV → xH → xR} (hM : xMet l D cA b0 y (.code y bytes maxL rt :: xTB) fr1 lo1 f) (h1 : Cond.methodLink own idx y ∈ xTB) (h2 : Cond.static y ∈ xTB) (h4 : Cond.initialized own ∈ xTB) (h5 : Cond.code y bytes maxL rt ∈ xTB) (hy : y.cls = own ∧ y.cls ≠ "java/lang/invoke/MethodHandle" ∧ y.cls ≠ "java/lang/invoke/VarHandle" ∧ (parseMethodDescriptor y.desc).map (fun d => d.parameters.length) = some n) (hfl : fr1 + 1 ≤ fr ∧ 8 + (maxL + 11) + lo1 ≤ lo) (hd : decode cc pc = .ok (.invokestatic idx, 3)) (K : xS p l e R s m args below meth c cc nL ret own nm fr lo D cA b0 hs res Q T (pc + 3)) : xS p l e R s m args below meth c cc nL ret own nm fr lo D cA b0 hs res Q (oCallS n f T) pc := by
  intro ls st h hT
  obtain ⟨hz, r1, hf, hU⟩ : (n ≤ st.length ∧ (st.drop n).length ≤ 4) ∧ ∃ r1, f (st.take n).reverse h = some r1 ∧ T ls (r1.1.toList ++ st.drop n) r1.2 = some res := by
    unfold oCallS at hT
    by_cases hz : n ≤ st.length ∧ (st.drop n).length ≤ 4
    · rw [if_pos hz] at hT
      obtain ⟨r1, hf, hU⟩ := Option.bind_eq_some_iff.mp hT
      exact ⟨hz, r1, hf, hU⟩
    · rw [if_neg hz] at hT; cases hT
  obtain ⟨g1, g2⟩ := K _ _ _ hU
  obtain ⟨m1, hMet⟩ := hM _ _ _ hf
  have m1 := m1 p e c
  refine ⟨⟨by omega, by omega⟩, fun C arr H locs a1 a2 a3 a4 => ?_⟩
  obtain ⟨hx, hb, hml, hown, hts, ⟨hK, hAO⟩, hb0, hR, hlk, hr, hnme, hfr, hlo⟩ := id C
  have r1' := hR.1
  have r2' := hR.2
  have hlen : (st.take n).length = n := by
    rw [List.length_take]
    omega
  have hmap : st.map xv = ((st.take n).reverse.map xv).reverse ++ (st.drop n).map xv := by
    conv => lhs; rw [← List.take_append_drop n st]
    simp only [List.map_append, List.map_reverse, List.reverse_reverse]
  generalize st.drop n = rest at hz hU g2 hmap
  rw [hmap]
  refine x_ret (r1 := r1) (rest := rest) (va_runS (As := (st.take n).reverse.map xv) (rest := rest.map xv) ⟨hx, hb, hml, hown, hts⟩ hMet (cwS n hts (xgood (fun w hw => ?_)) rfl rfl rfl hy ⟨by show fr1 + 1 ≤ _; omega, by show 8 + (maxL + 11) + lo1 ≤ _; omega⟩) ⟨xPc_blind D cA b0 _ h, fun U hU hW => ⟨rfl, by rw [hU]; exact a2, va_K.moved hW.alike hK, va_AO.moved hW.alike hAO⟩⟩ rfl (by rw [List.length_map, List.length_reverse, hlen]) a1.1 rfl (lv_room (Nat.le_trans (xcats rest) (by omega))) hd ⟨by omega, by omega⟩) a3 (fun H1 locs1 b2 b3 => ?_)
  · unfold wsS at hw
    rcases List.mem_append.mp hw with hw | hw
    · simp only [List.mem_cons, List.not_mem_nil, or_false] at hw
      rcases hw with rfl | rfl | rfl <;> assumption
    · rcases List.mem_cons.mp hw with rfl | hw <;> assumption
  · have hg := g2 C arr H1 locs1 a1 b2 b3 ⟨by omega, by omega⟩
    rw [show r1.2.length - hs.length = h.length - hs.length + (r1.2.length - h.length) by omega, show xsl r1.2 - xsl hs = xsl h - xsl hs + (xsl r1.2 - xsl h) by omega] at hg
    exact hg
def oObj (T : xK) (ls : List (Option xV)) (st : List xV) (h : xH) : xR :=
  match st with
  | .inr (.inr (some _)) :: st => if st.length ≤ 4 then T ls st h else none
  | _ => none
theorem s_obj {idx : Nat} (h1 : Cond.methodLink own idx Lib.objectInit ∈ xTB) (h2 : Cond.instanceMethod Lib.objectInit ∈ xTB) (h3 : Cond.code Lib.objectInit ⟨#[0xb1]⟩ 1 none ∈ xTB) (hfl : 1 ≤ fr ∧ 20 ≤ lo) (hd : decode cc pc = .ok (.invokespecial idx, 3)) (K : xS p l e R s m args below meth c cc nL ret own nm fr lo D cA b0 hs res Q T (pc + 3)) : xS p l e R s m args below meth c cc nL ret own nm fr lo D cA b0 hs res Q (oObj T) pc := by
  intro ls st h hT
  obtain ⟨a, st', rfl, hU⟩ : ∃ a st', st = .inr (.inr (some a)) :: st' ∧ (if st'.length ≤ 4 then T ls st' h else none) = some res := by
    unfold oObj at hT
    split at hT
    · exact ⟨_, _, rfl, hT⟩
    · cases hT
  replace hT := hU
  by_cases hz : st'.length ≤ 4
  case neg => rw [if_neg hz] at hT; cases hT
  rw [if_pos hz] at hT
  obtain ⟨g1, g2⟩ := K _ _ _ hT
  refine ⟨g1, fun C arr H locs a1 a2 a3 a4 => ?_⟩
  obtain ⟨hx, hb, hml, hown, hts, ⟨hK, hAO⟩, hb0, hR, hlk, hr, hnme, hfr, hlo⟩ := id C
  have hcs := xcats st'
  refine W.objInit hx hb hown (hts _ h1) (hts _ h2) (hts _ h3) rfl (a1.1.trans hml.symm) rfl hd (by omega) ?_ (g2 C arr H locs a1 a2 a3 a4)
  show 2 * 0 + _ + 12 ≤ _
  omega
def oMin (T : xK) (ls : List (Option xV)) (st : List xV) (h : xH) : xR :=
  match st with
  | .inl y1 :: .inl x1 :: st => if st.length ≤ 4 then T ls (.inl (if y1 < x1 then y1 else x1) :: st) h else none
  | _ => none
theorem s_min {idx : Nat} (h1 : Cond.methodLink own idx Lib.Math.min.name ∈ xTB) (h2 : Cond.static Lib.Math.min.name ∈ xTB) (h3 : Cond.initialized "java/lang/Math" ∈ xTB) (h4 : Cond.code Lib.Math.min.name Lib.Math.min.code 2 (some .int) ∈ xTB) (hfl : 1 ≤ fr ∧ 21 ≤ lo) (hd : decode cc pc = .ok (.invokestatic idx, 3)) (K : xS p l e R s m args below meth c cc nL ret own nm fr lo D cA b0 hs res Q T (pc + 3)) : xS p l e R s m args below meth c cc nL ret own nm fr lo D cA b0 hs res Q (oMin T) pc := by
  intro ls st h hT
  obtain ⟨y1, x1, st', rfl, hU⟩ : ∃ y1 x1 st', st = .inl y1 :: .inl x1 :: st' ∧ (if st'.length ≤ 4 then T ls (.inl (if y1 < x1 then y1 else x1) :: st') h else none) = some res := by
    unfold oMin at hT
    split at hT
    · exact ⟨_, _, _, rfl, hT⟩
    · cases hT
  replace hT := hU
  by_cases hz : st'.length ≤ 4
  case neg => rw [if_neg hz] at hT; cases hT
  rw [if_pos hz] at hT
  obtain ⟨g1, g2⟩ := K _ _ _ hT
  refine ⟨g1, fun C arr H locs a1 a2 a3 a4 => ?_⟩
  obtain ⟨hx, hb, hml, hown, hts, ⟨hK, hAO⟩, hb0, hR, hlk, hr, hnme, hfr, hlo⟩ := id C
  have hcs := xcats st'
  have r1' := hR.1
  have r2' := hR.2
  exact va_mmin hx hb (hml.trans a1.1.symm) hown (hts _ h1) (hts _ h2) (hts _ h3) (hts _ h4) (by omega) (by omega) (by omega) (by omega) hd (g2 C arr H locs a1 a2 a3 a4)
def oRetV  (ls : List (Option xV)) (st : List xV) (h : xH) : xR :=
  match st with
  | [] => some (none, h)
  | _ => none
def oRetI  (ls : List (Option xV)) (st : List xV) (h : xH) : xR :=
  match st with
  | [.inl n] => some (some (.inl n), h)
  | _ => none
def oRetZ  (ls : List (Option xV)) (st : List xV) (h : xH) : xR :=
  match st with
  | [.inl n] => if n = 0 ∨ n = 1 then some (some (.inl n), h) else none
  | _ => none
def oRetR  (ls : List (Option xV)) (st : List xV) (h : xH) : xR :=
  match st with
  | [.inr (.inr n)] => some (some (.inr (.inr n)), h)
  | _ => none
theorem s_retV (hrt : ret = none) (hd : decode cc pc = .ok (.return_, 1)) : xS p l e R s m args below meth c cc nL ret own nm fr lo D cA b0 hs res (xMQ D cA b0 below args s hs res) oRetV pc := by
  intro ls st h hT
  unfold oRetV at hT
  split at hT
  case h_2 => cases hT
  cases hT
  refine ⟨⟨Nat.le_refl _, Nat.le_refl _⟩, fun C arr H locs a1 a2 a3 a4 => ?_⟩
  obtain ⟨hx, hb, hml, hown, hts, ⟨hK, hAO⟩, hb0, hR, hlk, hr, hnme, hfr, hlo⟩ := id C
  exact W.vret hx hb (hr.trans hrt) (fun t ht hW => ⟨rfl, by rw [ht]; exact a2, a3.F ht⟩) a3.2.2 hd hlk
theorem s_retI (hrt : ret = some .int) (hd : decode cc pc = .ok (.ireturn, 1)) : xS p l e R s m args below meth c cc nL ret own nm fr lo D cA b0 hs res (xMQ D cA b0 below args s hs res) oRetI pc := by
  intro ls st h hT
  unfold oRetI at hT
  split at hT
  case h_2 => cases hT
  cases hT
  refine ⟨⟨Nat.le_refl _, Nat.le_refl _⟩, fun C arr H locs a1 a2 a3 a4 => ?_⟩
  obtain ⟨hx, hb, hml, hown, hts, ⟨hK, hAO⟩, hb0, hR, hlk, hr, hnme, hfr, hlo⟩ := id C
  exact W.iret hx hb (hr.trans hrt) (fun t ht hW => ⟨rfl, by rw [ht]; exact a2, a3.F ht⟩) a3.2.2 hd hlk
theorem s_retZ (hrt : ret = some .boolean) (hd : decode cc pc = .ok (.ireturn, 1)) : xS p l e R s m args below meth c cc nL ret own nm fr lo D cA b0 hs res (xMQ D cA b0 below args s hs res) oRetZ pc := by
  intro ls st h hT
  unfold oRetZ at hT
  split at hT
  case h_2 => cases hT
  rename_i n
  by_cases hz : n = 0 ∨ n = 1
  case neg => rw [if_neg hz] at hT; cases hT
  rw [if_pos hz] at hT
  cases hT
  refine ⟨⟨Nat.le_refl _, Nat.le_refl _⟩, fun C arr H locs a1 a2 a3 a4 => ?_⟩
  obtain ⟨hx, hb, hml, hown, hts, ⟨hK, hAO⟩, hb0, hR, hlk, hr, hnme, hfr, hlo⟩ := id C
  exact W.zret hx hb (hr.trans hrt) (by rcases hz with rfl | rfl <;> rfl) (fun t ht hW => ⟨rfl, by rw [ht]; exact a2, a3.F ht⟩) a3.2.2 hd hlk
theorem s_retR {rt : FieldType} (hrt : ret = some rt) (hrt2 : (∃ n, rt = .object n) ∨ ∃ t, rt = .array t) (hd : decode cc pc = .ok (.areturn, 1)) : xS p l e R s m args below meth c cc nL ret own nm fr lo D cA b0 hs res (xMQ D cA b0 below args s hs res) oRetR pc := by
  intro ls st h hT
  unfold oRetR at hT
  split at hT
  case h_2 => cases hT
  rename_i n
  cases hT
  refine ⟨⟨Nat.le_refl _, Nat.le_refl _⟩, fun C arr H locs a1 a2 a3 a4 => ?_⟩
  obtain ⟨hx, hb, hml, hown, hts, ⟨hK, hAO⟩, hb0, hR, hlk, hr, hnme, hfr, hlo⟩ := id C
  exact W.aret hx hb (hr.trans hrt) hrt2 (by cases n with | none => exact Or.inl rfl | some a => exact Or.inr ⟨a, rfl⟩) (fun t ht hW => ⟨rfl, by rw [ht]; exact a2, a3.F ht⟩) a3.2.2 hd hlk
def xok (as : List xV) : Bool := as.all (fun v => match v with
  | .inr (.inl _) => false
  | _ => true)
def xfun (n nL : Nat) (T : xK) (as : List xV) (h : xH) : xR := if as.length = n ∧ xok as = true then T (as.map some ++ List.replicate (nL - n) none) [] h else none
theorem xok_cat {as : List xV} (h : xok as = true) {v : xV} (hv : v ∈ as) : (xv v).category = 1 := by
  have h1 := List.all_eq_true.mp h v hv
  rcases v with n | n | r
  · rfl
  · cases h1
  · exact xcat_r r
theorem xnth_get (ls : List (Option xV)) (i : Nat) : xnth ls i = (ls[i]?).bind id := by
  induction ls generalizing i with
  | nil => simp [xnth]
  | cons a t ih =>
    cases i with
    | zero => simp [xnth]
    | succ i => simp [xnth, ih]
theorem xL_entry {as : List xV} {n : Nat} (hn : as.length ≤ n) (hok : xok as = true) : xL ((lg_sl (as.map xv) ++ List.replicate (n - (lg_sl (as.map xv)).length) Slot.unset).toArray) n (as.map some ++ List.replicate (n - as.length) none) := by
  have e1 : lg_sl (as.map xv) = as.map (fun v => Slot.val (xv v)) := by
    induction as with
    | nil => rfl
    | cons a t ih =>
      have hc := xok_cat hok (v := a) List.mem_cons_self
      have ih := ih (by simp at hn ⊢; omega) (by simp [xok] at hok ⊢; exact hok.2)
      simp only [lg_sl, List.map_cons, List.flatMap_cons] at ih ⊢
      rw [ih, if_neg (by omega)]
      rfl
  have hh := lv_entry (as.map xv) (n := n) (by rw [e1]; simpa using hn)
  refine ⟨hh.1, hh.2.1, fun i v hv => ?_⟩
  rw [xnth_get] at hv
  have hi : i < as.length := by
    apply Classical.byContradiction
    intro hge
    rw [List.getElem?_append_right (by simp; omega), List.getElem?_replicate] at hv
    split at hv <;> cases hv
  rw [List.getElem?_append_left (by simpa using hi), List.getElem?_map, List.getElem?_eq_getElem hi] at hv
  have hv2 : as[i] = v := by simpa using hv
  refine ⟨?_, xok_cat hok (hv2 ▸ List.getElem_mem hi)⟩
  rw [List.getElem?_toArray, e1, List.getElem?_append_left (by simpa using hi), List.getElem?_map, List.getElem?_eq_getElem hi, hv2]
  rfl
theorem xMet_of {y : MethodName} {n : Nat} (hpl : plainName y.cls = true) (hn : n ≤ nL)
    (hS : ∀ (p : Program) (e : Env) (R : Room) (s : State) (m : MethodId) (args : Array Value) (below : List Frame) (meth : Method) (c : Code) (hs : xH) (res : Option xV × xH), xS p l e R s m args below meth c cc nL ret y.cls y.name fr lo D cA b0 hs res (xMQ D cA b0 below args s hs res) T 0) :
    xMet l D cA b0 y (.code y cc nL ret :: xTB) fr lo (xfun n nL T) := by
  intro as h res hf
  unfold xfun at hf
  split at hf
  case isFalse => cases hf
  rename_i hc
  obtain ⟨rfl, hok⟩ := hc
  refine ⟨fun p e c => (hS p e {} default default #[] [] default c h res _ _ _ hf).1, ?_⟩
  refine Met.ofW (cc := cc) (maxL := nL) (ret := ret) hpl rfl ?_
  intro p e s m args below meth c s1 B hml hv
  obtain ⟨rfl, hrel, hK⟩ := hv
  have hts := atoms_spec (ws := .code y cc nL ret :: xTB) B.pre
  have hown : s.vm.findClass y.cls = some m.cls := findClass_of_methodNamed B.named
  have hnm := (name_of_methodNamed B.named B.method).1
  obtain ⟨g1, g2⟩ := hS p e (headSpec (.code y cc nL ret :: xTB) { frames := fr, cells := res.2.length - h.length, slots := xsl res.2 - xsl h, locals := lo }).room s m (as.map xv).toArray below meth c h res _ _ _ hf
  have hC : xC p (headSpec (.code y cc nL ret :: xTB) { frames := fr, cells := res.2.length - h.length, slots := xsl res.2 - xsl h, locals := lo }).room s m (as.map xv).toArray meth c cc nL ret y.cls y.name fr lo D cA b0 h res :=
    ⟨B.exec, B.bytes, hml, hown, fun w hw => hts w (List.mem_cons_of_mem _ hw), hK, by rw [hrel.1]; omega, ⟨Nat.le_refl _, Nat.le_refl _⟩, B.notSynchronized, B.returns, hnm, Nat.le_refl _, Nat.le_refl _⟩
  have hg := g2 hC _ s.heap [] (xL_entry hn hok) hrel va_S.rf ⟨Nat.le_refl _, Nat.le_refl _⟩
  rw [lg_entry_eq]
  rw [Nat.sub_self, Nat.sub_self] at hg
  exact hg
end XRUN
end
section
theorem xsub (ws : List Cond) (ps : List Nat) (hp : ws = ps.filterMap (fun i => lw_tbl[i]?)) (hg : ws.all goodWord = true) : ∀ w ∈ ws, w ∈ xTB := by
  intro w hw
  have h1 := List.all_eq_true.mp hg w hw
  rw [hp] at hw
  obtain ⟨i, -, hi⟩ := List.mem_filterMap.mp hw
  exact xmem i hi h1
set_option maxRecDepth 20000 in
theorem inX0 : ∀ w ∈ u_ws RX0 TX0 4, w ∈ xTB := xsub _ [102, 104, 106, 108] (by decide +kernel) (by decide +kernel)
def n_X0 : List xV := [.inr (.inr none), .inr (.inr none), .inr (.inr none), .inl 0]
theorem nd_X0 : ∀ j, j < 4 → defaultValue (tyX0 j) = vp_V (n_X0.map xv) j := by decide +kernel
set_option maxRecDepth 20000 in
theorem inX1 : ∀ w ∈ u_ws RX1 TX1 2, w ∈ xTB := xsub _ [154, 156] (by decide +kernel) (by decide +kernel)
def n_X1 : List xV := [.inr (.inr none), .inl 0]
theorem nd_X1 : ∀ j, j < 2 → defaultValue (tyX1 j) = vp_V (n_X1.map xv) j := by decide +kernel
set_option maxRecDepth 20000 in
theorem inX2 : ∀ w ∈ u_ws RX2 TX2 2, w ∈ xTB := xsub _ [122, 124] (by decide +kernel) (by decide +kernel)
def n_X2 : List xV := [.inr (.inr none), .inl 0]
theorem nd_X2 : ∀ j, j < 2 → defaultValue (tyX2 j) = vp_V (n_X2.map xv) j := by decide +kernel
set_option maxRecDepth 20000 in
theorem inX3 : ∀ w ∈ u_ws RX3 TX3 3, w ∈ xTB := xsub _ [171, 173, 175] (by decide +kernel) (by decide +kernel)
def n_X3 : List xV := [.inr (.inr none), .inl 0, .inl 0]
theorem nd_X3 : ∀ j, j < 3 → defaultValue (tyX3 j) = vp_V (n_X3.map xv) j := by decide +kernel
set_option maxRecDepth 20000 in
theorem inX4 : ∀ w ∈ u_ws RX4 TX4 2, w ∈ xTB := xsub _ [138, 140] (by decide +kernel) (by decide +kernel)
def n_X4 : List xV := [.inr (.inr none), .inl 0]
theorem nd_X4 : ∀ j, j < 2 → defaultValue (tyX4 j) = vp_V (n_X4.map xv) j := by decide +kernel
set_option maxRecDepth 20000 in
theorem inX5 : ∀ w ∈ u_ws RX5 TX5 19, w ∈ xTB := xsub _ [209, 211, 213, 215, 217, 219, 221, 223, 225, 227, 229, 231, 233, 235, 237, 239, 241, 243, 245] (by decide +kernel) (by decide +kernel)
def n_X5 : List xV := [.inl 0, .inl 0, .inl 0, .inr (.inr none), .inr (.inr none), .inr (.inr none), .inr (.inr none), .inr (.inr none), .inl 0, .inl 0, .inl 0, .inl 0, .inl 0, .inl 0, .inl 0, .inl 0, .inl 0, .inl 0, .inl 0]
theorem nd_X5 : ∀ j, j < 19 → defaultValue (tyX5 j) = vp_V (n_X5.map xv) j := by decide +kernel
set_option maxRecDepth 20000 in
theorem inX6 : ∀ w ∈ u_ws RX6 TX6 10, w ∈ xTB := xsub _ [57, 59, 61, 63, 65, 67, 69, 71, 73, 75] (by decide +kernel) (by decide +kernel)
def n_X6 : List xV := [.inr (.inr none), .inr (.inr none), .inl 0, .inl 0, .inl 0, .inl 0, .inl 0, .inl 0, .inl 0, .inl 0]
theorem nd_X6 : ∀ j, j < 10 → defaultValue (tyX6 j) = vp_V (n_X6.map xv) j := by decide +kernel
set_option maxRecDepth 20000 in
theorem inX7 : ∀ w ∈ u_ws RX7 TX7 38, w ∈ xTB := xsub _ [514, 516, 518, 520, 522, 524, 526, 528, 530, 532, 534, 536, 538, 540, 542, 544, 546, 548, 550, 552, 554, 556, 558, 560, 562, 564, 566, 568, 570, 572, 574, 576, 578, 580, 582, 584, 586, 588] (by decide +kernel) (by decide +kernel)
def n_X7 : List xV := [.inl 0, .inr (.inr none), .inr (.inr none), .inr (.inr none), .inr (.inr none), .inr (.inr none), .inr (.inr none), .inr (.inr none), .inr (.inr none), .inr (.inr none), .inr (.inr none), .inr (.inr none), .inr (.inr none), .inr (.inr none), .inr (.inr none), .inr (.inr none), .inr (.inr none), .inr (.inr none), .inr (.inr none), .inr (.inr none), .inr (.inr none), .inr (.inr none), .inr (.inr none), .inr (.inr none), .inr (.inr none), .inr (.inr none), .inr (.inr none), .inr (.inr none), .inr (.inr none), .inl 0, .inl 0, .inl 0, .inl 0, .inl 0, .inl 0, .inl 0, .inl 0, .inl 0]
theorem nd_X7 : ∀ j, j < 38 → defaultValue (tyX7 j) = vp_V (n_X7.map xv) j := by decide +kernel
set_option maxRecDepth 20000 in
theorem w_0 : (Jvm.Cond.selects "TaskTurns" ({ cls := "TaskTurns", name := "find", desc := "(I)LTaskTurns$Task;" } : Jvm.MethodName) ({ cls := "TaskTurns", name := "find", desc := "(I)LTaskTurns$Task;" } : Jvm.MethodName)) ∈ xTB := xmem 0 (by decide +kernel) (by decide +kernel)
set_option maxRecDepth 20000 in
theorem w_1 : (Jvm.Cond.selects "TaskTurns" ({ cls := "TaskTurns", name := "doTurn", desc := "()V" } : Jvm.MethodName) ({ cls := "TaskTurns", name := "doTurn", desc := "()V" } : Jvm.MethodName)) ∈ xTB := xmem 1 (by decide +kernel) (by decide +kernel)
set_option maxRecDepth 20000 in
theorem w_2 : (Jvm.Cond.selects "TaskTurns" ({ cls := "TaskTurns", name := "wakeTasks", desc := "()V" } : Jvm.MethodName) ({ cls := "TaskTurns", name := "wakeTasks", desc := "()V" } : Jvm.MethodName)) ∈ xTB := xmem 2 (by decide +kernel) (by decide +kernel)
set_option maxRecDepth 20000 in
theorem w_3 : (Jvm.Cond.selects "TaskTurns" ({ cls := "TaskTurns", name := "findNextToWork", desc := "()LTaskTurns$Task;" } : Jvm.MethodName) ({ cls := "TaskTurns", name := "findNextToWork", desc := "()LTaskTurns$Task;" } : Jvm.MethodName)) ∈ xTB := xmem 3 (by decide +kernel) (by decide +kernel)
set_option maxRecDepth 20000 in
theorem w_4 : (Jvm.Cond.selects "TaskTurns" ({ cls := "TaskTurns", name := "giveTurn", desc := "(LTaskTurns$Task;)V" } : Jvm.MethodName) ({ cls := "TaskTurns", name := "giveTurn", desc := "(LTaskTurns$Task;)V" } : Jvm.MethodName)) ∈ xTB := xmem 4 (by decide +kernel) (by decide +kernel)
set_option maxRecDepth 20000 in
theorem w_5 : (Jvm.Cond.selects "TaskTurns" ({ cls := "TaskTurns", name := "doGuard", desc := "(LTaskTurns$Task;)I" } : Jvm.MethodName) ({ cls := "TaskTurns", name := "doGuard", desc := "(LTaskTurns$Task;)I" } : Jvm.MethodName)) ∈ xTB := xmem 5 (by decide +kernel) (by decide +kernel)
set_option maxRecDepth 20000 in
theorem w_6 : (Jvm.Cond.selects "TaskTurns" ({ cls := "TaskTurns", name := "doAct", desc := "(LTaskTurns$Task;Z)I" } : Jvm.MethodName) ({ cls := "TaskTurns", name := "doAct", desc := "(LTaskTurns$Task;Z)I" } : Jvm.MethodName)) ∈ xTB := xmem 6 (by decide +kernel) (by decide +kernel)
set_option maxRecDepth 20000 in
theorem w_7 : (Jvm.Cond.selects "TaskTurns" ({ cls := "TaskTurns", name := "send", desc := "(II)I" } : Jvm.MethodName) ({ cls := "TaskTurns", name := "send", desc := "(II)I" } : Jvm.MethodName)) ∈ xTB := xmem 7 (by decide +kernel) (by decide +kernel)
set_option maxRecDepth 20000 in
theorem w_8 : (Jvm.Cond.selects "TaskTurns" ({ cls := "TaskTurns", name := "ask", desc := "(LTaskTurns$Task;I)I" } : Jvm.MethodName) ({ cls := "TaskTurns", name := "ask", desc := "(LTaskTurns$Task;I)I" } : Jvm.MethodName)) ∈ xTB := xmem 8 (by decide +kernel) (by decide +kernel)
set_option maxRecDepth 20000 in
theorem w_9 : (Jvm.Cond.selects "TaskTurns" ({ cls := "TaskTurns", name := "becomeDone", desc := "(LTaskTurns$Task;)V" } : Jvm.MethodName) ({ cls := "TaskTurns", name := "becomeDone", desc := "(LTaskTurns$Task;)V" } : Jvm.MethodName)) ∈ xTB := xmem 9 (by decide +kernel) (by decide +kernel)
set_option maxRecDepth 20000 in
theorem w_10 : (Jvm.Cond.selects "TaskTurns" ({ cls := "TaskTurns", name := "ageTasks", desc := "()V" } : Jvm.MethodName) ({ cls := "TaskTurns", name := "ageTasks", desc := "()V" } : Jvm.MethodName)) ∈ xTB := xmem 10 (by decide +kernel) (by decide +kernel)
set_option maxRecDepth 20000 in
theorem w_11 : (Jvm.Cond.selects "TaskTurns" ({ cls := "TaskTurns", name := "countGoingOn", desc := "()I" } : Jvm.MethodName) ({ cls := "TaskTurns", name := "countGoingOn", desc := "()I" } : Jvm.MethodName)) ∈ xTB := xmem 11 (by decide +kernel) (by decide +kernel)
set_option maxRecDepth 20000 in
theorem w_12 : (Jvm.Cond.selects "TaskTurnsModel" ({ cls := "TaskTurnsModel", name := "isTask", desc := "(I)Z" } : Jvm.MethodName) ({ cls := "TaskTurnsModel", name := "isTask", desc := "(I)Z" } : Jvm.MethodName)) ∈ xTB := xmem 12 (by decide +kernel) (by decide +kernel)
set_option maxRecDepth 20000 in
theorem w_13 : (Jvm.Cond.selects "TaskTurnsModel" ({ cls := "TaskTurnsModel", name := "oneTurn", desc := "()V" } : Jvm.MethodName) ({ cls := "TaskTurnsModel", name := "oneTurn", desc := "()V" } : Jvm.MethodName)) ∈ xTB := xmem 13 (by decide +kernel) (by decide +kernel)
set_option maxRecDepth 20000 in
theorem w_14 : (Jvm.Cond.selects "TaskTurnsModel" ({ cls := "TaskTurnsModel", name := "pick", desc := "()I" } : Jvm.MethodName) ({ cls := "TaskTurnsModel", name := "pick", desc := "()I" } : Jvm.MethodName)) ∈ xTB := xmem 14 (by decide +kernel) (by decide +kernel)
set_option maxRecDepth 20000 in
theorem w_15 : (Jvm.Cond.selects "TaskTurnsModel" ({ cls := "TaskTurnsModel", name := "acts", desc := "(I)V" } : Jvm.MethodName) ({ cls := "TaskTurnsModel", name := "acts", desc := "(I)V" } : Jvm.MethodName)) ∈ xTB := xmem 15 (by decide +kernel) (by decide +kernel)
set_option maxRecDepth 20000 in
theorem w_16 : (Jvm.Cond.selects "TaskTurnsModel" ({ cls := "TaskTurnsModel", name := "guard", desc := "(II)I" } : Jvm.MethodName) ({ cls := "TaskTurnsModel", name := "guard", desc := "(II)I" } : Jvm.MethodName)) ∈ xTB := xmem 16 (by decide +kernel) (by decide +kernel)
set_option maxRecDepth 20000 in
theorem w_17 : (Jvm.Cond.selects "TaskTurnsModel" ({ cls := "TaskTurnsModel", name := "simple", desc := "(II)I" } : Jvm.MethodName) ({ cls := "TaskTurnsModel", name := "simple", desc := "(II)I" } : Jvm.MethodName)) ∈ xTB := xmem 17 (by decide +kernel) (by decide +kernel)
set_option maxRecDepth 20000 in
theorem w_18 : (Jvm.Cond.selects "TaskTurnsModel" ({ cls := "TaskTurnsModel", name := "rowAct", desc := "(III)I" } : Jvm.MethodName) ({ cls := "TaskTurnsModel", name := "rowAct", desc := "(III)I" } : Jvm.MethodName)) ∈ xTB := xmem 18 (by decide +kernel) (by decide +kernel)
set_option maxRecDepth 20000 in
theorem w_19 : (Jvm.Cond.selects "TaskTurnsModel" ({ cls := "TaskTurnsModel", name := "takeAct", desc := "(I)I" } : Jvm.MethodName) ({ cls := "TaskTurnsModel", name := "takeAct", desc := "(I)I" } : Jvm.MethodName)) ∈ xTB := xmem 19 (by decide +kernel) (by decide +kernel)
set_option maxRecDepth 20000 in
theorem w_20 : (Jvm.Cond.selects "TaskTurnsModel" ({ cls := "TaskTurnsModel", name := "sendAct", desc := "(III)I" } : Jvm.MethodName) ({ cls := "TaskTurnsModel", name := "sendAct", desc := "(III)I" } : Jvm.MethodName)) ∈ xTB := xmem 20 (by decide +kernel) (by decide +kernel)
set_option maxRecDepth 20000 in
theorem w_21 : (Jvm.Cond.selects "TaskTurnsModel" ({ cls := "TaskTurnsModel", name := "mark", desc := "(I)V" } : Jvm.MethodName) ({ cls := "TaskTurnsModel", name := "mark", desc := "(I)V" } : Jvm.MethodName)) ∈ xTB := xmem 21 (by decide +kernel) (by decide +kernel)
set_option maxRecDepth 20000 in
theorem w_22 : (Jvm.Cond.selects "TaskTurnsModel" ({ cls := "TaskTurnsModel", name := "copyAct", desc := "(II)I" } : Jvm.MethodName) ({ cls := "TaskTurnsModel", name := "copyAct", desc := "(II)I" } : Jvm.MethodName)) ∈ xTB := xmem 22 (by decide +kernel) (by decide +kernel)
set_option maxRecDepth 20000 in
theorem w_23 : (Jvm.Cond.selects "TaskTurnsModel" ({ cls := "TaskTurnsModel", name := "boxAct", desc := "(IIII)I" } : Jvm.MethodName) ({ cls := "TaskTurnsModel", name := "boxAct", desc := "(IIII)I" } : Jvm.MethodName)) ∈ xTB := xmem 23 (by decide +kernel) (by decide +kernel)
set_option maxRecDepth 20000 in
theorem w_24 : (Jvm.Cond.selects "TaskTurnsModel" ({ cls := "TaskTurnsModel", name := "fails", desc := "(II)V" } : Jvm.MethodName) ({ cls := "TaskTurnsModel", name := "fails", desc := "(II)V" } : Jvm.MethodName)) ∈ xTB := xmem 24 (by decide +kernel) (by decide +kernel)
set_option maxRecDepth 20000 in
theorem w_25 : (Jvm.Cond.selects "TaskTurnsModel" ({ cls := "TaskTurnsModel", name := "back", desc := "(I)V" } : Jvm.MethodName) ({ cls := "TaskTurnsModel", name := "back", desc := "(I)V" } : Jvm.MethodName)) ∈ xTB := xmem 25 (by decide +kernel) (by decide +kernel)
set_option maxRecDepth 20000 in
theorem w_26 : (Jvm.Cond.selects "TaskTurnsModel" ({ cls := "TaskTurnsModel", name := "maybeDone", desc := "(I)V" } : Jvm.MethodName) ({ cls := "TaskTurnsModel", name := "maybeDone", desc := "(I)V" } : Jvm.MethodName)) ∈ xTB := xmem 26 (by decide +kernel) (by decide +kernel)
set_option maxRecDepth 20000 in
theorem w_28 : (Jvm.Cond.initialized "TaskTurns") ∈ xTB := xmem 28 (by decide +kernel) (by decide +kernel)
set_option maxRecDepth 20000 in
theorem w_29 : (Jvm.Cond.initialized "TaskTurnsModel") ∈ xTB := xmem 29 (by decide +kernel) (by decide +kernel)
set_option maxRecDepth 20000 in
theorem w_30 : (Jvm.Cond.initialized "TaskTurns$Task") ∈ xTB := xmem 30 (by decide +kernel) (by decide +kernel)
set_option maxRecDepth 20000 in
theorem w_31 : (Jvm.Cond.initialized "TaskTurns$Acts") ∈ xTB := xmem 31 (by decide +kernel) (by decide +kernel)
set_option maxRecDepth 20000 in
theorem w_32 : (Jvm.Cond.initialized "TaskTurns$Letters") ∈ xTB := xmem 32 (by decide +kernel) (by decide +kernel)
set_option maxRecDepth 20000 in
theorem w_33 : (Jvm.Cond.initialized "TaskTurns$Row") ∈ xTB := xmem 33 (by decide +kernel) (by decide +kernel)
set_option maxRecDepth 20000 in
theorem w_34 : (Jvm.Cond.initialized "TaskTurns$Box") ∈ xTB := xmem 34 (by decide +kernel) (by decide +kernel)
set_option maxRecDepth 20000 in
theorem w_35 : (Jvm.Cond.initialized "TaskTurns$Mark") ∈ xTB := xmem 35 (by decide +kernel) (by decide +kernel)
set_option maxRecDepth 20000 in
theorem w_36 : (Jvm.Cond.initialized "java/lang/Math") ∈ xTB := xmem 36 (by decide +kernel) (by decide +kernel)
set_option maxRecDepth 20000 in
theorem w_42 : (Jvm.Cond.methodLink "TaskTurns" (1 : Nat) ({ cls := "java/lang/Object", name := "<init>", desc := "()V" } : Jvm.MethodName)) ∈ xTB := xmem 42 (by decide +kernel) (by decide +kernel)
set_option maxRecDepth 20000 in
theorem w_43 : (Jvm.Cond.instanceMethod ({ cls := "java/lang/Object", name := "<init>", desc := "()V" } : Jvm.MethodName)) ∈ xTB := xmem 43 (by decide +kernel) (by decide +kernel)
set_option maxRecDepth 20000 in
theorem w_44 : (Jvm.Cond.code ({ cls := "java/lang/Object", name := "<init>", desc := "()V" } : Jvm.MethodName) object_method_1_code (1 : Nat) (Option.none : Option Jvm.ClassFile.FieldType)) ∈ xTB := xmem 44 (by decide +kernel) (by decide +kernel)
set_option maxRecDepth 20000 in
theorem w_45 : (Jvm.Cond.classLink "TaskTurns" (9 : Nat) "TaskTurns$Task") ∈ xTB := xmem 45 (by decide +kernel) (by decide +kernel)
set_option maxRecDepth 20000 in
theorem w_47 : (Jvm.Cond.fieldLink "TaskTurns" (11 : Nat) "TaskTurns" "tasks" "[LTaskTurns$Task;") ∈ xTB := xmem 47 (by decide +kernel) (by decide +kernel)
set_option maxRecDepth 20000 in
theorem w_48 : (Jvm.Cond.fieldLink "TaskTurns" (15 : Nat) "TaskTurns" "doneOrder" "[I") ∈ xTB := xmem 48 (by decide +kernel) (by decide +kernel)
set_option maxRecDepth 20000 in
theorem w_49 : (Jvm.Cond.fieldLink "TaskTurns" (23 : Nat) "TaskTurns" "taskCount" "I") ∈ xTB := xmem 49 (by decide +kernel) (by decide +kernel)
set_option maxRecDepth 20000 in
theorem w_50 : (Jvm.Cond.fieldLink "TaskTurns" (125 : Nat) "TaskTurns" "doneCount" "I") ∈ xTB := xmem 50 (by decide +kernel) (by decide +kernel)
set_option maxRecDepth 20000 in
theorem w_51 : (Jvm.Cond.fieldLink "TaskTurns" (19 : Nat) "TaskTurns" "workerCount" "I") ∈ xTB := xmem 51 (by decide +kernel) (by decide +kernel)
set_option maxRecDepth 20000 in
theorem w_52 : (Jvm.Cond.fieldLink "TaskTurns" (109 : Nat) "TaskTurns" "turnsDone" "I") ∈ xTB := xmem 52 (by decide +kernel) (by decide +kernel)
set_option maxRecDepth 20000 in
theorem w_53 : (Jvm.Cond.fieldLink "TaskTurns" (50 : Nat) "TaskTurns" "actsDone" "I") ∈ xTB := xmem 53 (by decide +kernel) (by decide +kernel)
set_option maxRecDepth 20000 in
theorem w_54 : (Jvm.Cond.fieldLink "TaskTurns" (112 : Nat) "TaskTurns" "lettersLost" "I") ∈ xTB := xmem 54 (by decide +kernel) (by decide +kernel)
set_option maxRecDepth 20000 in
theorem w_55 : (Jvm.Cond.fieldLink "TaskTurns" (115 : Nat) "TaskTurns" "guardsLeft" "I") ∈ xTB := xmem 55 (by decide +kernel) (by decide +kernel)
set_option maxRecDepth 20000 in
theorem w_56 : (Jvm.Cond.fieldLink "TaskTurns" (118 : Nat) "TaskTurns" "failuresSeen" "I") ∈ xTB := xmem 56 (by decide +kernel) (by decide +kernel)
set_option maxRecDepth 20000 in
theorem w_78 : (Jvm.Cond.arrayClass Jvm.ClassFile.FieldType.int) ∈ xTB := xmem 78 (by decide +kernel) (by decide +kernel)
set_option maxRecDepth 20000 in
theorem w_83 : (Jvm.Cond.instantiable "TaskTurns$Task" (19 : Nat)) ∈ xTB := xmem 83 (by decide +kernel) (by decide +kernel)
set_option maxRecDepth 20000 in
theorem w_84 : (Jvm.Cond.methodLink "TaskTurns" (26 : Nat) ({ cls := "TaskTurns$Task", name := "<init>", desc := "(III)V" } : Jvm.MethodName)) ∈ xTB := xmem 84 (by decide +kernel) (by decide +kernel)
set_option maxRecDepth 20000 in
theorem w_85 : (Jvm.Cond.instanceMethod ({ cls := "TaskTurns$Task", name := "<init>", desc := "(III)V" } : Jvm.MethodName)) ∈ xTB := xmem 85 (by decide +kernel) (by decide +kernel)
set_option maxRecDepth 20000 in
theorem w_86 : (Jvm.Cond.code ({ cls := "TaskTurns$Task", name := "<init>", desc := "(III)V" } : Jvm.MethodName) prog_7_method_1_code (4 : Nat) (Option.none : Option Jvm.ClassFile.FieldType)) ∈ xTB := xmem 86 (by decide +kernel) (by decide +kernel)
set_option maxRecDepth 20000 in
theorem w_87 : (Jvm.Cond.methodLink "TaskTurns$Task" (3 : Nat) ({ cls := "java/lang/Object", name := "<init>", desc := "()V" } : Jvm.MethodName)) ∈ xTB := xmem 87 (by decide +kernel) (by decide +kernel)
set_option maxRecDepth 20000 in
theorem w_88 : (Jvm.Cond.classLink "TaskTurns$Task" (21 : Nat) "TaskTurns$Acts") ∈ xTB := xmem 88 (by decide +kernel) (by decide +kernel)
set_option maxRecDepth 20000 in
theorem w_89 : (Jvm.Cond.instantiable "TaskTurns$Acts" (4 : Nat)) ∈ xTB := xmem 89 (by decide +kernel) (by decide +kernel)
set_option maxRecDepth 20000 in
theorem w_90 : (Jvm.Cond.methodLink "TaskTurns$Task" (23 : Nat) ({ cls := "TaskTurns$Acts", name := "<init>", desc := "()V" } : Jvm.MethodName)) ∈ xTB := xmem 90 (by decide +kernel) (by decide +kernel)
set_option maxRecDepth 20000 in
theorem w_91 : (Jvm.Cond.instanceMethod ({ cls := "TaskTurns$Acts", name := "<init>", desc := "()V" } : Jvm.MethodName)) ∈ xTB := xmem 91 (by decide +kernel) (by decide +kernel)
set_option maxRecDepth 20000 in
theorem w_92 : (Jvm.Cond.code ({ cls := "TaskTurns$Acts", name := "<init>", desc := "()V" } : Jvm.MethodName) prog_2_method_1_code (1 : Nat) (Option.none : Option Jvm.ClassFile.FieldType)) ∈ xTB := xmem 92 (by decide +kernel) (by decide +kernel)
set_option maxRecDepth 20000 in
theorem w_93 : (Jvm.Cond.methodLink "TaskTurns$Acts" (3 : Nat) ({ cls := "java/lang/Object", name := "<init>", desc := "()V" } : Jvm.MethodName)) ∈ xTB := xmem 93 (by decide +kernel) (by decide +kernel)
set_option maxRecDepth 20000 in
theorem w_94 : (Jvm.Cond.fieldLink "TaskTurns$Acts" (9 : Nat) "TaskTurns$Acts" "kinds" "[I") ∈ xTB := xmem 94 (by decide +kernel) (by decide +kernel)
set_option maxRecDepth 20000 in
theorem w_95 : (Jvm.Cond.fieldLink "TaskTurns" (164 : Nat) "TaskTurns$Acts" "kinds" "[I") ∈ xTB := xmem 95 (by decide +kernel) (by decide +kernel)
set_option maxRecDepth 20000 in
theorem w_96 : (Jvm.Cond.fieldLink "TaskTurns$Acts" (15 : Nat) "TaskTurns$Acts" "firsts" "[I") ∈ xTB := xmem 96 (by decide +kernel) (by decide +kernel)
set_option maxRecDepth 20000 in
theorem w_97 : (Jvm.Cond.fieldLink "TaskTurns" (184 : Nat) "TaskTurns$Acts" "firsts" "[I") ∈ xTB := xmem 97 (by decide +kernel) (by decide +kernel)
set_option maxRecDepth 20000 in
theorem w_98 : (Jvm.Cond.fieldLink "TaskTurns$Acts" (18 : Nat) "TaskTurns$Acts" "seconds" "[I") ∈ xTB := xmem 98 (by decide +kernel) (by decide +kernel)
set_option maxRecDepth 20000 in
theorem w_99 : (Jvm.Cond.fieldLink "TaskTurns" (193 : Nat) "TaskTurns$Acts" "seconds" "[I") ∈ xTB := xmem 99 (by decide +kernel) (by decide +kernel)
set_option maxRecDepth 20000 in
theorem w_100 : (Jvm.Cond.fieldLink "TaskTurns$Acts" (21 : Nat) "TaskTurns$Acts" "size" "I") ∈ xTB := xmem 100 (by decide +kernel) (by decide +kernel)
set_option maxRecDepth 20000 in
theorem w_101 : (Jvm.Cond.fieldLink "TaskTurns" (163 : Nat) "TaskTurns$Acts" "size" "I") ∈ xTB := xmem 101 (by decide +kernel) (by decide +kernel)
set_option maxRecDepth 20000 in
theorem w_111 : (Jvm.Cond.classLink "TaskTurns$Task" (28 : Nat) "TaskTurns$Letters") ∈ xTB := xmem 111 (by decide +kernel) (by decide +kernel)
set_option maxRecDepth 20000 in
theorem w_112 : (Jvm.Cond.instantiable "TaskTurns$Letters" (2 : Nat)) ∈ xTB := xmem 112 (by decide +kernel) (by decide +kernel)
set_option maxRecDepth 20000 in
theorem w_113 : (Jvm.Cond.methodLink "TaskTurns$Task" (30 : Nat) ({ cls := "TaskTurns$Letters", name := "<init>", desc := "()V" } : Jvm.MethodName)) ∈ xTB := xmem 113 (by decide +kernel) (by decide +kernel)
set_option maxRecDepth 20000 in
theorem w_114 : (Jvm.Cond.instanceMethod ({ cls := "TaskTurns$Letters", name := "<init>", desc := "()V" } : Jvm.MethodName)) ∈ xTB := xmem 114 (by decide +kernel) (by decide +kernel)
set_option maxRecDepth 20000 in
theorem w_115 : (Jvm.Cond.code ({ cls := "TaskTurns$Letters", name := "<init>", desc := "()V" } : Jvm.MethodName) prog_4_method_1_code (1 : Nat) (Option.none : Option Jvm.ClassFile.FieldType)) ∈ xTB := xmem 115 (by decide +kernel) (by decide +kernel)
set_option maxRecDepth 20000 in
theorem w_116 : (Jvm.Cond.methodLink "TaskTurns$Letters" (3 : Nat) ({ cls := "java/lang/Object", name := "<init>", desc := "()V" } : Jvm.MethodName)) ∈ xTB := xmem 116 (by decide +kernel) (by decide +kernel)
set_option maxRecDepth 20000 in
theorem w_117 : (Jvm.Cond.fieldLink "TaskTurns$Letters" (9 : Nat) "TaskTurns$Letters" "values" "[I") ∈ xTB := xmem 117 (by decide +kernel) (by decide +kernel)
set_option maxRecDepth 20000 in
theorem w_118 : (Jvm.Cond.fieldLink "TaskTurns" (106 : Nat) "TaskTurns$Letters" "values" "[I") ∈ xTB := xmem 118 (by decide +kernel) (by decide +kernel)
set_option maxRecDepth 20000 in
theorem w_119 : (Jvm.Cond.fieldLink "TaskTurns$Letters" (15 : Nat) "TaskTurns$Letters" "size" "I") ∈ xTB := xmem 119 (by decide +kernel) (by decide +kernel)
set_option maxRecDepth 20000 in
theorem w_120 : (Jvm.Cond.fieldLink "TaskTurns$Task" (74 : Nat) "TaskTurns$Letters" "size" "I") ∈ xTB := xmem 120 (by decide +kernel) (by decide +kernel)
set_option maxRecDepth 20000 in
theorem w_121 : (Jvm.Cond.fieldLink "TaskTurns" (72 : Nat) "TaskTurns$Letters" "size" "I") ∈ xTB := xmem 121 (by decide +kernel) (by decide +kernel)
set_option maxRecDepth 20000 in
theorem w_127 : (Jvm.Cond.classLink "TaskTurns$Task" (35 : Nat) "TaskTurns$Row") ∈ xTB := xmem 127 (by decide +kernel) (by decide +kernel)
set_option maxRecDepth 20000 in
theorem w_128 : (Jvm.Cond.instantiable "TaskTurns$Row" (2 : Nat)) ∈ xTB := xmem 128 (by decide +kernel) (by decide +kernel)
set_option maxRecDepth 20000 in
theorem w_129 : (Jvm.Cond.methodLink "TaskTurns$Task" (37 : Nat) ({ cls := "TaskTurns$Row", name := "<init>", desc := "()V" } : Jvm.MethodName)) ∈ xTB := xmem 129 (by decide +kernel) (by decide +kernel)
set_option maxRecDepth 20000 in
theorem w_130 : (Jvm.Cond.instanceMethod ({ cls := "TaskTurns$Row", name := "<init>", desc := "()V" } : Jvm.MethodName)) ∈ xTB := xmem 130 (by decide +kernel) (by decide +kernel)
set_option maxRecDepth 20000 in
theorem w_131 : (Jvm.Cond.code ({ cls := "TaskTurns$Row", name := "<init>", desc := "()V" } : Jvm.MethodName) prog_6_method_1_code (1 : Nat) (Option.none : Option Jvm.ClassFile.FieldType)) ∈ xTB := xmem 131 (by decide +kernel) (by decide +kernel)
set_option maxRecDepth 20000 in
theorem w_132 : (Jvm.Cond.methodLink "TaskTurns$Row" (3 : Nat) ({ cls := "java/lang/Object", name := "<init>", desc := "()V" } : Jvm.MethodName)) ∈ xTB := xmem 132 (by decide +kernel) (by decide +kernel)
set_option maxRecDepth 20000 in
theorem w_133 : (Jvm.Cond.fieldLink "TaskTurns$Row" (9 : Nat) "TaskTurns$Row" "ints" "[I") ∈ xTB := xmem 133 (by decide +kernel) (by decide +kernel)
set_option maxRecDepth 20000 in
theorem w_134 : (Jvm.Cond.fieldLink "TaskTurns" (102 : Nat) "TaskTurns$Row" "ints" "[I") ∈ xTB := xmem 134 (by decide +kernel) (by decide +kernel)
set_option maxRecDepth 20000 in
theorem w_135 : (Jvm.Cond.fieldLink "TaskTurns$Task" (117 : Nat) "TaskTurns$Row" "ints" "[I") ∈ xTB := xmem 135 (by decide +kernel) (by decide +kernel)
set_option maxRecDepth 20000 in
theorem w_136 : (Jvm.Cond.fieldLink "TaskTurns$Row" (15 : Nat) "TaskTurns$Row" "length" "I") ∈ xTB := xmem 136 (by decide +kernel) (by decide +kernel)
set_option maxRecDepth 20000 in
theorem w_137 : (Jvm.Cond.fieldLink "TaskTurns$Task" (83 : Nat) "TaskTurns$Row" "length" "I") ∈ xTB := xmem 137 (by decide +kernel) (by decide +kernel)
set_option maxRecDepth 20000 in
theorem w_143 : (Jvm.Cond.classLink "TaskTurns$Task" (42 : Nat) "TaskTurns$Box") ∈ xTB := xmem 143 (by decide +kernel) (by decide +kernel)
set_option maxRecDepth 20000 in
theorem w_144 : (Jvm.Cond.instantiable "TaskTurns$Box" (2 : Nat)) ∈ xTB := xmem 144 (by decide +kernel) (by decide +kernel)
set_option maxRecDepth 20000 in
theorem w_145 : (Jvm.Cond.methodLink "TaskTurns$Task" (44 : Nat) ({ cls := "TaskTurns$Box", name := "<init>", desc := "()V" } : Jvm.MethodName)) ∈ xTB := xmem 145 (by decide +kernel) (by decide +kernel)
set_option maxRecDepth 20000 in
theorem w_146 : (Jvm.Cond.instanceMethod ({ cls := "TaskTurns$Box", name := "<init>", desc := "()V" } : Jvm.MethodName)) ∈ xTB := xmem 146 (by decide +kernel) (by decide +kernel)
set_option maxRecDepth 20000 in
theorem w_147 : (Jvm.Cond.code ({ cls := "TaskTurns$Box", name := "<init>", desc := "()V" } : Jvm.MethodName) prog_3_method_1_code (1 : Nat) (Option.none : Option Jvm.ClassFile.FieldType)) ∈ xTB := xmem 147 (by decide +kernel) (by decide +kernel)
set_option maxRecDepth 20000 in
theorem w_148 : (Jvm.Cond.methodLink "TaskTurns$Box" (3 : Nat) ({ cls := "java/lang/Object", name := "<init>", desc := "()V" } : Jvm.MethodName)) ∈ xTB := xmem 148 (by decide +kernel) (by decide +kernel)
set_option maxRecDepth 20000 in
theorem w_149 : (Jvm.Cond.fieldLink "TaskTurns$Box" (9 : Nat) "TaskTurns$Box" "places" "[I") ∈ xTB := xmem 149 (by decide +kernel) (by decide +kernel)
set_option maxRecDepth 20000 in
theorem w_150 : (Jvm.Cond.fieldLink "TaskTurns" (92 : Nat) "TaskTurns$Box" "places" "[I") ∈ xTB := xmem 150 (by decide +kernel) (by decide +kernel)
set_option maxRecDepth 20000 in
theorem w_151 : (Jvm.Cond.fieldLink "TaskTurns$Task" (130 : Nat) "TaskTurns$Box" "places" "[I") ∈ xTB := xmem 151 (by decide +kernel) (by decide +kernel)
set_option maxRecDepth 20000 in
theorem w_152 : (Jvm.Cond.fieldLink "TaskTurns$Box" (15 : Nat) "TaskTurns$Box" "kind" "I") ∈ xTB := xmem 152 (by decide +kernel) (by decide +kernel)
set_option maxRecDepth 20000 in
theorem w_153 : (Jvm.Cond.fieldLink "TaskTurns$Task" (86 : Nat) "TaskTurns$Box" "kind" "I") ∈ xTB := xmem 153 (by decide +kernel) (by decide +kernel)
set_option maxRecDepth 20000 in
theorem w_159 : (Jvm.Cond.classLink "TaskTurns$Task" (49 : Nat) "TaskTurns$Mark") ∈ xTB := xmem 159 (by decide +kernel) (by decide +kernel)
set_option maxRecDepth 20000 in
theorem w_160 : (Jvm.Cond.instantiable "TaskTurns$Mark" (3 : Nat)) ∈ xTB := xmem 160 (by decide +kernel) (by decide +kernel)
set_option maxRecDepth 20000 in
theorem w_161 : (Jvm.Cond.methodLink "TaskTurns$Task" (51 : Nat) ({ cls := "TaskTurns$Mark", name := "<init>", desc := "()V" } : Jvm.MethodName)) ∈ xTB := xmem 161 (by decide +kernel) (by decide +kernel)
set_option maxRecDepth 20000 in
theorem w_162 : (Jvm.Cond.instanceMethod ({ cls := "TaskTurns$Mark", name := "<init>", desc := "()V" } : Jvm.MethodName)) ∈ xTB := xmem 162 (by decide +kernel) (by decide +kernel)
set_option maxRecDepth 20000 in
theorem w_163 : (Jvm.Cond.code ({ cls := "TaskTurns$Mark", name := "<init>", desc := "()V" } : Jvm.MethodName) prog_5_method_1_code (1 : Nat) (Option.none : Option Jvm.ClassFile.FieldType)) ∈ xTB := xmem 163 (by decide +kernel) (by decide +kernel)
set_option maxRecDepth 20000 in
theorem w_164 : (Jvm.Cond.methodLink "TaskTurns$Mark" (1 : Nat) ({ cls := "java/lang/Object", name := "<init>", desc := "()V" } : Jvm.MethodName)) ∈ xTB := xmem 164 (by decide +kernel) (by decide +kernel)
set_option maxRecDepth 20000 in
theorem w_165 : (Jvm.Cond.classLink "TaskTurns$Mark" (7 : Nat) "TaskTurns$Row") ∈ xTB := xmem 165 (by decide +kernel) (by decide +kernel)
set_option maxRecDepth 20000 in
theorem w_166 : (Jvm.Cond.methodLink "TaskTurns$Mark" (9 : Nat) ({ cls := "TaskTurns$Row", name := "<init>", desc := "()V" } : Jvm.MethodName)) ∈ xTB := xmem 166 (by decide +kernel) (by decide +kernel)
set_option maxRecDepth 20000 in
theorem w_167 : (Jvm.Cond.fieldLink "TaskTurns$Mark" (10 : Nat) "TaskTurns$Mark" "row" "LTaskTurns$Row;") ∈ xTB := xmem 167 (by decide +kernel) (by decide +kernel)
set_option maxRecDepth 20000 in
theorem w_168 : (Jvm.Cond.fieldLink "TaskTurns$Task" (103 : Nat) "TaskTurns$Mark" "row" "LTaskTurns$Row;") ∈ xTB := xmem 168 (by decide +kernel) (by decide +kernel)
set_option maxRecDepth 20000 in
theorem w_169 : (Jvm.Cond.fieldLink "TaskTurns$Task" (102 : Nat) "TaskTurns$Mark" "sum" "I") ∈ xTB := xmem 169 (by decide +kernel) (by decide +kernel)
set_option maxRecDepth 20000 in
theorem w_170 : (Jvm.Cond.fieldLink "TaskTurns$Task" (108 : Nat) "TaskTurns$Mark" "next" "I") ∈ xTB := xmem 170 (by decide +kernel) (by decide +kernel)
set_option maxRecDepth 20000 in
theorem w_178 : (Jvm.Cond.fieldLink "TaskTurns$Task" (9 : Nat) "TaskTurns$Task" "number" "I") ∈ xTB := xmem 178 (by decide +kernel) (by decide +kernel)
set_option maxRecDepth 20000 in
theorem w_179 : (Jvm.Cond.fieldLink "TaskTurns" (181 : Nat) "TaskTurns$Task" "number" "I") ∈ xTB := xmem 179 (by decide +kernel) (by decide +kernel)
set_option maxRecDepth 20000 in
theorem w_180 : (Jvm.Cond.fieldLink "TaskTurns$Task" (15 : Nat) "TaskTurns$Task" "sort" "I") ∈ xTB := xmem 180 (by decide +kernel) (by decide +kernel)
set_option maxRecDepth 20000 in
theorem w_181 : (Jvm.Cond.fieldLink "TaskTurns$Task" (18 : Nat) "TaskTurns$Task" "rank" "I") ∈ xTB := xmem 181 (by decide +kernel) (by decide +kernel)
set_option maxRecDepth 20000 in
theorem w_182 : (Jvm.Cond.fieldLink "TaskTurns" (151 : Nat) "TaskTurns$Task" "rank" "I") ∈ xTB := xmem 182 (by decide +kernel) (by decide +kernel)
set_option maxRecDepth 20000 in
theorem w_183 : (Jvm.Cond.fieldLink "TaskTurns$Task" (24 : Nat) "TaskTurns$Task" "acts" "LTaskTurns$Acts;") ∈ xTB := xmem 183 (by decide +kernel) (by decide +kernel)
set_option maxRecDepth 20000 in
theorem w_184 : (Jvm.Cond.fieldLink "TaskTurns" (40 : Nat) "TaskTurns$Task" "acts" "LTaskTurns$Acts;") ∈ xTB := xmem 184 (by decide +kernel) (by decide +kernel)
set_option maxRecDepth 20000 in
theorem w_185 : (Jvm.Cond.fieldLink "TaskTurns$Task" (31 : Nat) "TaskTurns$Task" "letters" "LTaskTurns$Letters;") ∈ xTB := xmem 185 (by decide +kernel) (by decide +kernel)
set_option maxRecDepth 20000 in
theorem w_186 : (Jvm.Cond.fieldLink "TaskTurns" (60 : Nat) "TaskTurns$Task" "letters" "LTaskTurns$Letters;") ∈ xTB := xmem 186 (by decide +kernel) (by decide +kernel)
set_option maxRecDepth 20000 in
theorem w_187 : (Jvm.Cond.fieldLink "TaskTurns$Task" (38 : Nat) "TaskTurns$Task" "row" "LTaskTurns$Row;") ∈ xTB := xmem 187 (by decide +kernel) (by decide +kernel)
set_option maxRecDepth 20000 in
theorem w_188 : (Jvm.Cond.fieldLink "TaskTurns" (95 : Nat) "TaskTurns$Task" "row" "LTaskTurns$Row;") ∈ xTB := xmem 188 (by decide +kernel) (by decide +kernel)
set_option maxRecDepth 20000 in
theorem w_189 : (Jvm.Cond.fieldLink "TaskTurns$Task" (45 : Nat) "TaskTurns$Task" "box" "LTaskTurns$Box;") ∈ xTB := xmem 189 (by decide +kernel) (by decide +kernel)
set_option maxRecDepth 20000 in
theorem w_190 : (Jvm.Cond.fieldLink "TaskTurns" (82 : Nat) "TaskTurns$Task" "box" "LTaskTurns$Box;") ∈ xTB := xmem 190 (by decide +kernel) (by decide +kernel)
set_option maxRecDepth 20000 in
theorem w_191 : (Jvm.Cond.fieldLink "TaskTurns$Task" (52 : Nat) "TaskTurns$Task" "mark" "LTaskTurns$Mark;") ∈ xTB := xmem 191 (by decide +kernel) (by decide +kernel)
set_option maxRecDepth 20000 in
theorem w_192 : (Jvm.Cond.fieldLink "TaskTurns$Task" (56 : Nat) "TaskTurns$Task" "state" "I") ∈ xTB := xmem 192 (by decide +kernel) (by decide +kernel)
set_option maxRecDepth 20000 in
theorem w_193 : (Jvm.Cond.fieldLink "TaskTurns" (33 : Nat) "TaskTurns$Task" "state" "I") ∈ xTB := xmem 193 (by decide +kernel) (by decide +kernel)
set_option maxRecDepth 20000 in
theorem w_194 : (Jvm.Cond.fieldLink "TaskTurns$Task" (77 : Nat) "TaskTurns$Task" "age" "I") ∈ xTB := xmem 194 (by decide +kernel) (by decide +kernel)
set_option maxRecDepth 20000 in
theorem w_195 : (Jvm.Cond.fieldLink "TaskTurns" (148 : Nat) "TaskTurns$Task" "age" "I") ∈ xTB := xmem 195 (by decide +kernel) (by decide +kernel)
set_option maxRecDepth 20000 in
theorem w_196 : (Jvm.Cond.fieldLink "TaskTurns$Task" (68 : Nat) "TaskTurns$Task" "sum" "I") ∈ xTB := xmem 196 (by decide +kernel) (by decide +kernel)
set_option maxRecDepth 20000 in
theorem w_197 : (Jvm.Cond.fieldLink "TaskTurns" (215 : Nat) "TaskTurns$Task" "sum" "I") ∈ xTB := xmem 197 (by decide +kernel) (by decide +kernel)
set_option maxRecDepth 20000 in
theorem w_198 : (Jvm.Cond.fieldLink "TaskTurns$Task" (71 : Nat) "TaskTurns$Task" "next" "I") ∈ xTB := xmem 198 (by decide +kernel) (by decide +kernel)
set_option maxRecDepth 20000 in
theorem w_199 : (Jvm.Cond.fieldLink "TaskTurns" (160 : Nat) "TaskTurns$Task" "next" "I") ∈ xTB := xmem 199 (by decide +kernel) (by decide +kernel)
set_option maxRecDepth 20000 in
theorem w_200 : (Jvm.Cond.fieldLink "TaskTurns$Task" (92 : Nat) "TaskTurns$Task" "waitLeft" "I") ∈ xTB := xmem 200 (by decide +kernel) (by decide +kernel)
set_option maxRecDepth 20000 in
theorem w_201 : (Jvm.Cond.fieldLink "TaskTurns" (157 : Nat) "TaskTurns$Task" "waitLeft" "I") ∈ xTB := xmem 201 (by decide +kernel) (by decide +kernel)
set_option maxRecDepth 20000 in
theorem w_202 : (Jvm.Cond.fieldLink "TaskTurns$Task" (65 : Nat) "TaskTurns$Task" "lastTurn" "I") ∈ xTB := xmem 202 (by decide +kernel) (by decide +kernel)
set_option maxRecDepth 20000 in
theorem w_203 : (Jvm.Cond.fieldLink "TaskTurns" (154 : Nat) "TaskTurns$Task" "lastTurn" "I") ∈ xTB := xmem 203 (by decide +kernel) (by decide +kernel)
set_option maxRecDepth 20000 in
theorem w_204 : (Jvm.Cond.fieldLink "TaskTurns" (36 : Nat) "TaskTurns$Task" "didActs" "Z") ∈ xTB := xmem 204 (by decide +kernel) (by decide +kernel)
set_option maxRecDepth 20000 in
theorem w_205 : (Jvm.Cond.fieldLink "TaskTurns$Task" (80 : Nat) "TaskTurns$Task" "failures" "I") ∈ xTB := xmem 205 (by decide +kernel) (by decide +kernel)
set_option maxRecDepth 20000 in
theorem w_206 : (Jvm.Cond.fieldLink "TaskTurns$Task" (59 : Nat) "TaskTurns$Task" "latestFailure" "I") ∈ xTB := xmem 206 (by decide +kernel) (by decide +kernel)
set_option maxRecDepth 20000 in
theorem w_207 : (Jvm.Cond.fieldLink "TaskTurns$Task" (62 : Nat) "TaskTurns$Task" "failedAct" "I") ∈ xTB := xmem 207 (by decide +kernel) (by decide +kernel)
set_option maxRecDepth 20000 in
theorem w_208 : (Jvm.Cond.fieldLink "TaskTurns$Task" (89 : Nat) "TaskTurns$Task" "backs" "I") ∈ xTB := xmem 208 (by decide +kernel) (by decide +kernel)
set_option maxRecDepth 20000 in
theorem w_252 : (Jvm.Cond.methodLink "TaskTurns" (29 : Nat) ({ cls := "TaskTurns", name := "find", desc := "(I)LTaskTurns$Task;" } : Jvm.MethodName)) ∈ xTB := xmem 252 (by decide +kernel) (by decide +kernel)
set_option maxRecDepth 20000 in
theorem w_254 : (Jvm.Cond.instanceMethod ({ cls := "TaskTurns", name := "find", desc := "(I)LTaskTurns$Task;" } : Jvm.MethodName)) ∈ xTB := xmem 254 (by decide +kernel) (by decide +kernel)
set_option maxRecDepth 20000 in
theorem w_255 : (Jvm.Cond.code ({ cls := "TaskTurns", name := "find", desc := "(I)LTaskTurns$Task;" } : Jvm.MethodName) prog_1_method_14_code (2 : Nat) (Option.some (Jvm.ClassFile.FieldType.object "TaskTurns$Task"))) ∈ xTB := xmem 255 (by decide +kernel) (by decide +kernel)
set_option maxRecDepth 20000 in
theorem w_256 : (Jvm.Cond.methodLink "TaskTurns" (44 : Nat) ({ cls := "TaskTurns$Acts", name := "append", desc := "(III)I" } : Jvm.MethodName)) ∈ xTB := xmem 256 (by decide +kernel) (by decide +kernel)
set_option maxRecDepth 20000 in
theorem w_257 : (Jvm.Cond.instanceMethod ({ cls := "TaskTurns$Acts", name := "append", desc := "(III)I" } : Jvm.MethodName)) ∈ xTB := xmem 257 (by decide +kernel) (by decide +kernel)
set_option maxRecDepth 20000 in
theorem w_258 : (Jvm.Cond.selects "TaskTurns$Acts" ({ cls := "TaskTurns$Acts", name := "append", desc := "(III)I" } : Jvm.MethodName) ({ cls := "TaskTurns$Acts", name := "append", desc := "(III)I" } : Jvm.MethodName)) ∈ xTB := xmem 258 (by decide +kernel) (by decide +kernel)
set_option maxRecDepth 20000 in
theorem w_259 : (Jvm.Cond.code ({ cls := "TaskTurns$Acts", name := "append", desc := "(III)I" } : Jvm.MethodName) prog_2_method_2_code (5 : Nat) (Option.some Jvm.ClassFile.FieldType.int)) ∈ xTB := xmem 259 (by decide +kernel) (by decide +kernel)
set_option maxRecDepth 20000 in
theorem w_268 : (Jvm.Cond.methodLink "TaskTurns" (53 : Nat) ({ cls := "TaskTurns", name := "doTurn", desc := "()V" } : Jvm.MethodName)) ∈ xTB := xmem 268 (by decide +kernel) (by decide +kernel)
set_option maxRecDepth 20000 in
theorem w_270 : (Jvm.Cond.instanceMethod ({ cls := "TaskTurns", name := "doTurn", desc := "()V" } : Jvm.MethodName)) ∈ xTB := xmem 270 (by decide +kernel) (by decide +kernel)
set_option maxRecDepth 20000 in
theorem w_271 : (Jvm.Cond.code ({ cls := "TaskTurns", name := "doTurn", desc := "()V" } : Jvm.MethodName) prog_1_method_16_code (3 : Nat) (Option.none : Option Jvm.ClassFile.FieldType)) ∈ xTB := xmem 271 (by decide +kernel) (by decide +kernel)
set_option maxRecDepth 20000 in
theorem w_272 : (Jvm.Cond.methodLink "TaskTurns" (128 : Nat) ({ cls := "TaskTurns", name := "wakeTasks", desc := "()V" } : Jvm.MethodName)) ∈ xTB := xmem 272 (by decide +kernel) (by decide +kernel)
set_option maxRecDepth 20000 in
theorem w_274 : (Jvm.Cond.instanceMethod ({ cls := "TaskTurns", name := "wakeTasks", desc := "()V" } : Jvm.MethodName)) ∈ xTB := xmem 274 (by decide +kernel) (by decide +kernel)
set_option maxRecDepth 20000 in
theorem w_275 : (Jvm.Cond.code ({ cls := "TaskTurns", name := "wakeTasks", desc := "()V" } : Jvm.MethodName) prog_1_method_17_code (3 : Nat) (Option.none : Option Jvm.ClassFile.FieldType)) ∈ xTB := xmem 275 (by decide +kernel) (by decide +kernel)
set_option maxRecDepth 20000 in
theorem w_276 : (Jvm.Cond.methodLink "TaskTurns" (142 : Nat) ({ cls := "TaskTurns$Task", name := "wake", desc := "()V" } : Jvm.MethodName)) ∈ xTB := xmem 276 (by decide +kernel) (by decide +kernel)
set_option maxRecDepth 20000 in
theorem w_277 : (Jvm.Cond.instanceMethod ({ cls := "TaskTurns$Task", name := "wake", desc := "()V" } : Jvm.MethodName)) ∈ xTB := xmem 277 (by decide +kernel) (by decide +kernel)
set_option maxRecDepth 20000 in
theorem w_278 : (Jvm.Cond.selects "TaskTurns$Task" ({ cls := "TaskTurns$Task", name := "wake", desc := "()V" } : Jvm.MethodName) ({ cls := "TaskTurns$Task", name := "wake", desc := "()V" } : Jvm.MethodName)) ∈ xTB := xmem 278 (by decide +kernel) (by decide +kernel)
set_option maxRecDepth 20000 in
theorem w_279 : (Jvm.Cond.code ({ cls := "TaskTurns$Task", name := "wake", desc := "()V" } : Jvm.MethodName) prog_7_method_5_code (1 : Nat) (Option.none : Option Jvm.ClassFile.FieldType)) ∈ xTB := xmem 279 (by decide +kernel) (by decide +kernel)
set_option maxRecDepth 20000 in
theorem w_280 : (Jvm.Cond.methodLink "TaskTurns" (131 : Nat) ({ cls := "TaskTurns", name := "findNextToWork", desc := "()LTaskTurns$Task;" } : Jvm.MethodName)) ∈ xTB := xmem 280 (by decide +kernel) (by decide +kernel)
set_option maxRecDepth 20000 in
theorem w_282 : (Jvm.Cond.instanceMethod ({ cls := "TaskTurns", name := "findNextToWork", desc := "()LTaskTurns$Task;" } : Jvm.MethodName)) ∈ xTB := xmem 282 (by decide +kernel) (by decide +kernel)
set_option maxRecDepth 20000 in
theorem w_283 : (Jvm.Cond.code ({ cls := "TaskTurns", name := "findNextToWork", desc := "()LTaskTurns$Task;" } : Jvm.MethodName) prog_1_method_19_code (4 : Nat) (Option.some (Jvm.ClassFile.FieldType.object "TaskTurns$Task"))) ∈ xTB := xmem 283 (by decide +kernel) (by decide +kernel)
set_option maxRecDepth 20000 in
theorem w_284 : (Jvm.Cond.methodLink "TaskTurns" (145 : Nat) ({ cls := "TaskTurns$Task", name := "isReadyIn", desc := "(I)Z" } : Jvm.MethodName)) ∈ xTB := xmem 284 (by decide +kernel) (by decide +kernel)
set_option maxRecDepth 20000 in
theorem w_285 : (Jvm.Cond.instanceMethod ({ cls := "TaskTurns$Task", name := "isReadyIn", desc := "(I)Z" } : Jvm.MethodName)) ∈ xTB := xmem 285 (by decide +kernel) (by decide +kernel)
set_option maxRecDepth 20000 in
theorem w_286 : (Jvm.Cond.selects "TaskTurns$Task" ({ cls := "TaskTurns$Task", name := "isReadyIn", desc := "(I)Z" } : Jvm.MethodName) ({ cls := "TaskTurns$Task", name := "isReadyIn", desc := "(I)Z" } : Jvm.MethodName)) ∈ xTB := xmem 286 (by decide +kernel) (by decide +kernel)
set_option maxRecDepth 20000 in
theorem w_287 : (Jvm.Cond.code ({ cls := "TaskTurns$Task", name := "isReadyIn", desc := "(I)Z" } : Jvm.MethodName) prog_7_method_3_code (2 : Nat) (Option.some Jvm.ClassFile.FieldType.boolean)) ∈ xTB := xmem 287 (by decide +kernel) (by decide +kernel)
set_option maxRecDepth 20000 in
theorem w_288 : (Jvm.Cond.methodLink "TaskTurns" (135 : Nat) ({ cls := "TaskTurns", name := "giveTurn", desc := "(LTaskTurns$Task;)V" } : Jvm.MethodName)) ∈ xTB := xmem 288 (by decide +kernel) (by decide +kernel)
set_option maxRecDepth 20000 in
theorem w_290 : (Jvm.Cond.instanceMethod ({ cls := "TaskTurns", name := "giveTurn", desc := "(LTaskTurns$Task;)V" } : Jvm.MethodName)) ∈ xTB := xmem 290 (by decide +kernel) (by decide +kernel)
set_option maxRecDepth 20000 in
theorem w_291 : (Jvm.Cond.code ({ cls := "TaskTurns", name := "giveTurn", desc := "(LTaskTurns$Task;)V" } : Jvm.MethodName) prog_1_method_20_code (3 : Nat) (Option.none : Option Jvm.ClassFile.FieldType)) ∈ xTB := xmem 291 (by decide +kernel) (by decide +kernel)
set_option maxRecDepth 20000 in
theorem w_292 : (Jvm.Cond.methodLink "TaskTurns" (167 : Nat) ({ cls := "TaskTurns", name := "doGuard", desc := "(LTaskTurns$Task;)I" } : Jvm.MethodName)) ∈ xTB := xmem 292 (by decide +kernel) (by decide +kernel)
set_option maxRecDepth 20000 in
theorem w_294 : (Jvm.Cond.instanceMethod ({ cls := "TaskTurns", name := "doGuard", desc := "(LTaskTurns$Task;)I" } : Jvm.MethodName)) ∈ xTB := xmem 294 (by decide +kernel) (by decide +kernel)
set_option maxRecDepth 20000 in
theorem w_295 : (Jvm.Cond.code ({ cls := "TaskTurns", name := "doGuard", desc := "(LTaskTurns$Task;)I" } : Jvm.MethodName) prog_1_method_22_code (5 : Nat) (Option.some Jvm.ClassFile.FieldType.int)) ∈ xTB := xmem 295 (by decide +kernel) (by decide +kernel)
set_option maxRecDepth 20000 in
theorem w_296 : (Jvm.Cond.methodLink "TaskTurns" (187 : Nat) ({ cls := "java/lang/Math", name := "min", desc := "(II)I" } : Jvm.MethodName)) ∈ xTB := xmem 296 (by decide +kernel) (by decide +kernel)
set_option maxRecDepth 20000 in
theorem w_297 : (Jvm.Cond.static ({ cls := "java/lang/Math", name := "min", desc := "(II)I" } : Jvm.MethodName)) ∈ xTB := xmem 297 (by decide +kernel) (by decide +kernel)
set_option maxRecDepth 20000 in
theorem w_298 : (Jvm.Cond.code ({ cls := "java/lang/Math", name := "min", desc := "(II)I" } : Jvm.MethodName) prog_10_method_69_code (2 : Nat) (Option.some Jvm.ClassFile.FieldType.int)) ∈ xTB := xmem 298 (by decide +kernel) (by decide +kernel)
set_option maxRecDepth 20000 in
theorem w_299 : (Jvm.Cond.methodLink "TaskTurns" (171 : Nat) ({ cls := "TaskTurns", name := "doAct", desc := "(LTaskTurns$Task;Z)I" } : Jvm.MethodName)) ∈ xTB := xmem 299 (by decide +kernel) (by decide +kernel)
set_option maxRecDepth 20000 in
theorem w_301 : (Jvm.Cond.instanceMethod ({ cls := "TaskTurns", name := "doAct", desc := "(LTaskTurns$Task;Z)I" } : Jvm.MethodName)) ∈ xTB := xmem 301 (by decide +kernel) (by decide +kernel)
set_option maxRecDepth 20000 in
theorem w_302 : (Jvm.Cond.code ({ cls := "TaskTurns", name := "doAct", desc := "(LTaskTurns$Task;Z)I" } : Jvm.MethodName) prog_1_method_23_code (6 : Nat) (Option.some Jvm.ClassFile.FieldType.int)) ∈ xTB := xmem 302 (by decide +kernel) (by decide +kernel)
set_option maxRecDepth 20000 in
theorem w_303 : (Jvm.Cond.methodLink "TaskTurns" (196 : Nat) ({ cls := "TaskTurns$Task", name := "add", desc := "(I)I" } : Jvm.MethodName)) ∈ xTB := xmem 303 (by decide +kernel) (by decide +kernel)
set_option maxRecDepth 20000 in
theorem w_304 : (Jvm.Cond.instanceMethod ({ cls := "TaskTurns$Task", name := "add", desc := "(I)I" } : Jvm.MethodName)) ∈ xTB := xmem 304 (by decide +kernel) (by decide +kernel)
set_option maxRecDepth 20000 in
theorem w_305 : (Jvm.Cond.selects "TaskTurns$Task" ({ cls := "TaskTurns$Task", name := "add", desc := "(I)I" } : Jvm.MethodName) ({ cls := "TaskTurns$Task", name := "add", desc := "(I)I" } : Jvm.MethodName)) ∈ xTB := xmem 305 (by decide +kernel) (by decide +kernel)
set_option maxRecDepth 20000 in
theorem w_306 : (Jvm.Cond.code ({ cls := "TaskTurns$Task", name := "add", desc := "(I)I" } : Jvm.MethodName) prog_7_method_10_code (2 : Nat) (Option.some Jvm.ClassFile.FieldType.int)) ∈ xTB := xmem 306 (by decide +kernel) (by decide +kernel)
set_option maxRecDepth 20000 in
theorem w_307 : (Jvm.Cond.methodLink "TaskTurns" (199 : Nat) ({ cls := "TaskTurns$Task", name := "divide", desc := "(I)I" } : Jvm.MethodName)) ∈ xTB := xmem 307 (by decide +kernel) (by decide +kernel)
set_option maxRecDepth 20000 in
theorem w_308 : (Jvm.Cond.instanceMethod ({ cls := "TaskTurns$Task", name := "divide", desc := "(I)I" } : Jvm.MethodName)) ∈ xTB := xmem 308 (by decide +kernel) (by decide +kernel)
set_option maxRecDepth 20000 in
theorem w_309 : (Jvm.Cond.selects "TaskTurns$Task" ({ cls := "TaskTurns$Task", name := "divide", desc := "(I)I" } : Jvm.MethodName) ({ cls := "TaskTurns$Task", name := "divide", desc := "(I)I" } : Jvm.MethodName)) ∈ xTB := xmem 309 (by decide +kernel) (by decide +kernel)
set_option maxRecDepth 20000 in
theorem w_310 : (Jvm.Cond.code ({ cls := "TaskTurns$Task", name := "divide", desc := "(I)I" } : Jvm.MethodName) prog_7_method_11_code (2 : Nat) (Option.some Jvm.ClassFile.FieldType.int)) ∈ xTB := xmem 310 (by decide +kernel) (by decide +kernel)
set_option maxRecDepth 20000 in
theorem w_311 : (Jvm.Cond.methodLink "TaskTurns" (202 : Nat) ({ cls := "TaskTurns$Task", name := "makeRow", desc := "(I)I" } : Jvm.MethodName)) ∈ xTB := xmem 311 (by decide +kernel) (by decide +kernel)
set_option maxRecDepth 20000 in
theorem w_312 : (Jvm.Cond.instanceMethod ({ cls := "TaskTurns$Task", name := "makeRow", desc := "(I)I" } : Jvm.MethodName)) ∈ xTB := xmem 312 (by decide +kernel) (by decide +kernel)
set_option maxRecDepth 20000 in
theorem w_313 : (Jvm.Cond.selects "TaskTurns$Task" ({ cls := "TaskTurns$Task", name := "makeRow", desc := "(I)I" } : Jvm.MethodName) ({ cls := "TaskTurns$Task", name := "makeRow", desc := "(I)I" } : Jvm.MethodName)) ∈ xTB := xmem 313 (by decide +kernel) (by decide +kernel)
set_option maxRecDepth 20000 in
theorem w_314 : (Jvm.Cond.code ({ cls := "TaskTurns$Task", name := "makeRow", desc := "(I)I" } : Jvm.MethodName) prog_7_method_12_code (2 : Nat) (Option.some Jvm.ClassFile.FieldType.int)) ∈ xTB := xmem 314 (by decide +kernel) (by decide +kernel)
set_option maxRecDepth 20000 in
theorem w_315 : (Jvm.Cond.methodLink "TaskTurns$Task" (109 : Nat) ({ cls := "TaskTurns$Row", name := "renew", desc := "(I)V" } : Jvm.MethodName)) ∈ xTB := xmem 315 (by decide +kernel) (by decide +kernel)
set_option maxRecDepth 20000 in
theorem w_316 : (Jvm.Cond.instanceMethod ({ cls := "TaskTurns$Row", name := "renew", desc := "(I)V" } : Jvm.MethodName)) ∈ xTB := xmem 316 (by decide +kernel) (by decide +kernel)
set_option maxRecDepth 20000 in
theorem w_317 : (Jvm.Cond.selects "TaskTurns$Row" ({ cls := "TaskTurns$Row", name := "renew", desc := "(I)V" } : Jvm.MethodName) ({ cls := "TaskTurns$Row", name := "renew", desc := "(I)V" } : Jvm.MethodName)) ∈ xTB := xmem 317 (by decide +kernel) (by decide +kernel)
set_option maxRecDepth 20000 in
theorem w_318 : (Jvm.Cond.code ({ cls := "TaskTurns$Row", name := "renew", desc := "(I)V" } : Jvm.MethodName) prog_6_method_4_code (3 : Nat) (Option.none : Option Jvm.ClassFile.FieldType)) ∈ xTB := xmem 318 (by decide +kernel) (by decide +kernel)
set_option maxRecDepth 20000 in
theorem w_319 : (Jvm.Cond.methodLink "TaskTurns" (205 : Nat) ({ cls := "TaskTurns$Task", name := "put", desc := "(I)I" } : Jvm.MethodName)) ∈ xTB := xmem 319 (by decide +kernel) (by decide +kernel)
set_option maxRecDepth 20000 in
theorem w_320 : (Jvm.Cond.instanceMethod ({ cls := "TaskTurns$Task", name := "put", desc := "(I)I" } : Jvm.MethodName)) ∈ xTB := xmem 320 (by decide +kernel) (by decide +kernel)
set_option maxRecDepth 20000 in
theorem w_321 : (Jvm.Cond.selects "TaskTurns$Task" ({ cls := "TaskTurns$Task", name := "put", desc := "(I)I" } : Jvm.MethodName) ({ cls := "TaskTurns$Task", name := "put", desc := "(I)I" } : Jvm.MethodName)) ∈ xTB := xmem 321 (by decide +kernel) (by decide +kernel)
set_option maxRecDepth 20000 in
theorem w_322 : (Jvm.Cond.code ({ cls := "TaskTurns$Task", name := "put", desc := "(I)I" } : Jvm.MethodName) prog_7_method_13_code (2 : Nat) (Option.some Jvm.ClassFile.FieldType.int)) ∈ xTB := xmem 322 (by decide +kernel) (by decide +kernel)
set_option maxRecDepth 20000 in
theorem w_323 : (Jvm.Cond.methodLink "TaskTurns$Task" (113 : Nat) ({ cls := "TaskTurns$Row", name := "has", desc := "(I)Z" } : Jvm.MethodName)) ∈ xTB := xmem 323 (by decide +kernel) (by decide +kernel)
set_option maxRecDepth 20000 in
theorem w_324 : (Jvm.Cond.instanceMethod ({ cls := "TaskTurns$Row", name := "has", desc := "(I)Z" } : Jvm.MethodName)) ∈ xTB := xmem 324 (by decide +kernel) (by decide +kernel)
set_option maxRecDepth 20000 in
theorem w_325 : (Jvm.Cond.selects "TaskTurns$Row" ({ cls := "TaskTurns$Row", name := "has", desc := "(I)Z" } : Jvm.MethodName) ({ cls := "TaskTurns$Row", name := "has", desc := "(I)Z" } : Jvm.MethodName)) ∈ xTB := xmem 325 (by decide +kernel) (by decide +kernel)
set_option maxRecDepth 20000 in
theorem w_326 : (Jvm.Cond.code ({ cls := "TaskTurns$Row", name := "has", desc := "(I)Z" } : Jvm.MethodName) prog_6_method_3_code (2 : Nat) (Option.some Jvm.ClassFile.FieldType.boolean)) ∈ xTB := xmem 326 (by decide +kernel) (by decide +kernel)
set_option maxRecDepth 20000 in
theorem w_327 : (Jvm.Cond.methodLink "TaskTurns$Task" (121 : Nat) ({ cls := "TaskTurns$Row", name := "isNothing", desc := "()Z" } : Jvm.MethodName)) ∈ xTB := xmem 327 (by decide +kernel) (by decide +kernel)
set_option maxRecDepth 20000 in
theorem w_328 : (Jvm.Cond.instanceMethod ({ cls := "TaskTurns$Row", name := "isNothing", desc := "()Z" } : Jvm.MethodName)) ∈ xTB := xmem 328 (by decide +kernel) (by decide +kernel)
set_option maxRecDepth 20000 in
theorem w_329 : (Jvm.Cond.selects "TaskTurns$Row" ({ cls := "TaskTurns$Row", name := "isNothing", desc := "()Z" } : Jvm.MethodName) ({ cls := "TaskTurns$Row", name := "isNothing", desc := "()Z" } : Jvm.MethodName)) ∈ xTB := xmem 329 (by decide +kernel) (by decide +kernel)
set_option maxRecDepth 20000 in
theorem w_330 : (Jvm.Cond.code ({ cls := "TaskTurns$Row", name := "isNothing", desc := "()Z" } : Jvm.MethodName) prog_6_method_2_code (1 : Nat) (Option.some Jvm.ClassFile.FieldType.boolean)) ∈ xTB := xmem 330 (by decide +kernel) (by decide +kernel)
set_option maxRecDepth 20000 in
theorem w_331 : (Jvm.Cond.methodLink "TaskTurns" (208 : Nat) ({ cls := "TaskTurns$Task", name := "get", desc := "(I)I" } : Jvm.MethodName)) ∈ xTB := xmem 331 (by decide +kernel) (by decide +kernel)
set_option maxRecDepth 20000 in
theorem w_332 : (Jvm.Cond.instanceMethod ({ cls := "TaskTurns$Task", name := "get", desc := "(I)I" } : Jvm.MethodName)) ∈ xTB := xmem 332 (by decide +kernel) (by decide +kernel)
set_option maxRecDepth 20000 in
theorem w_333 : (Jvm.Cond.selects "TaskTurns$Task" ({ cls := "TaskTurns$Task", name := "get", desc := "(I)I" } : Jvm.MethodName) ({ cls := "TaskTurns$Task", name := "get", desc := "(I)I" } : Jvm.MethodName)) ∈ xTB := xmem 333 (by decide +kernel) (by decide +kernel)
set_option maxRecDepth 20000 in
theorem w_334 : (Jvm.Cond.code ({ cls := "TaskTurns$Task", name := "get", desc := "(I)I" } : Jvm.MethodName) prog_7_method_14_code (2 : Nat) (Option.some Jvm.ClassFile.FieldType.int)) ∈ xTB := xmem 334 (by decide +kernel) (by decide +kernel)
set_option maxRecDepth 20000 in
theorem w_335 : (Jvm.Cond.methodLink "TaskTurns" (211 : Nat) ({ cls := "TaskTurns$Task", name := "takeLetter", desc := "(Z)I" } : Jvm.MethodName)) ∈ xTB := xmem 335 (by decide +kernel) (by decide +kernel)
set_option maxRecDepth 20000 in
theorem w_336 : (Jvm.Cond.instanceMethod ({ cls := "TaskTurns$Task", name := "takeLetter", desc := "(Z)I" } : Jvm.MethodName)) ∈ xTB := xmem 336 (by decide +kernel) (by decide +kernel)
set_option maxRecDepth 20000 in
theorem w_337 : (Jvm.Cond.selects "TaskTurns$Task" ({ cls := "TaskTurns$Task", name := "takeLetter", desc := "(Z)I" } : Jvm.MethodName) ({ cls := "TaskTurns$Task", name := "takeLetter", desc := "(Z)I" } : Jvm.MethodName)) ∈ xTB := xmem 337 (by decide +kernel) (by decide +kernel)
set_option maxRecDepth 20000 in
theorem w_338 : (Jvm.Cond.code ({ cls := "TaskTurns$Task", name := "takeLetter", desc := "(Z)I" } : Jvm.MethodName) prog_7_method_15_code (2 : Nat) (Option.some Jvm.ClassFile.FieldType.int)) ∈ xTB := xmem 338 (by decide +kernel) (by decide +kernel)
set_option maxRecDepth 20000 in
theorem w_339 : (Jvm.Cond.methodLink "TaskTurns$Task" (125 : Nat) ({ cls := "TaskTurns$Letters", name := "removeEldest", desc := "()I" } : Jvm.MethodName)) ∈ xTB := xmem 339 (by decide +kernel) (by decide +kernel)
set_option maxRecDepth 20000 in
theorem w_340 : (Jvm.Cond.instanceMethod ({ cls := "TaskTurns$Letters", name := "removeEldest", desc := "()I" } : Jvm.MethodName)) ∈ xTB := xmem 340 (by decide +kernel) (by decide +kernel)
set_option maxRecDepth 20000 in
theorem w_341 : (Jvm.Cond.selects "TaskTurns$Letters" ({ cls := "TaskTurns$Letters", name := "removeEldest", desc := "()I" } : Jvm.MethodName) ({ cls := "TaskTurns$Letters", name := "removeEldest", desc := "()I" } : Jvm.MethodName)) ∈ xTB := xmem 341 (by decide +kernel) (by decide +kernel)
set_option maxRecDepth 20000 in
theorem w_342 : (Jvm.Cond.code ({ cls := "TaskTurns$Letters", name := "removeEldest", desc := "()I" } : Jvm.MethodName) prog_4_method_5_code (3 : Nat) (Option.some Jvm.ClassFile.FieldType.int)) ∈ xTB := xmem 342 (by decide +kernel) (by decide +kernel)
set_option maxRecDepth 20000 in
theorem w_343 : (Jvm.Cond.methodLink "TaskTurns" (218 : Nat) ({ cls := "TaskTurns", name := "send", desc := "(II)I" } : Jvm.MethodName)) ∈ xTB := xmem 343 (by decide +kernel) (by decide +kernel)
set_option maxRecDepth 20000 in
theorem w_345 : (Jvm.Cond.instanceMethod ({ cls := "TaskTurns", name := "send", desc := "(II)I" } : Jvm.MethodName)) ∈ xTB := xmem 345 (by decide +kernel) (by decide +kernel)
set_option maxRecDepth 20000 in
theorem w_346 : (Jvm.Cond.code ({ cls := "TaskTurns", name := "send", desc := "(II)I" } : Jvm.MethodName) prog_1_method_24_code (4 : Nat) (Option.some Jvm.ClassFile.FieldType.int)) ∈ xTB := xmem 346 (by decide +kernel) (by decide +kernel)
set_option maxRecDepth 20000 in
theorem w_347 : (Jvm.Cond.methodLink "TaskTurns" (56 : Nat) ({ cls := "TaskTurns$Task", name := "isOver", desc := "()Z" } : Jvm.MethodName)) ∈ xTB := xmem 347 (by decide +kernel) (by decide +kernel)
set_option maxRecDepth 20000 in
theorem w_348 : (Jvm.Cond.instanceMethod ({ cls := "TaskTurns$Task", name := "isOver", desc := "()Z" } : Jvm.MethodName)) ∈ xTB := xmem 348 (by decide +kernel) (by decide +kernel)
set_option maxRecDepth 20000 in
theorem w_349 : (Jvm.Cond.selects "TaskTurns$Task" ({ cls := "TaskTurns$Task", name := "isOver", desc := "()Z" } : Jvm.MethodName) ({ cls := "TaskTurns$Task", name := "isOver", desc := "()Z" } : Jvm.MethodName)) ∈ xTB := xmem 349 (by decide +kernel) (by decide +kernel)
set_option maxRecDepth 20000 in
theorem w_350 : (Jvm.Cond.code ({ cls := "TaskTurns$Task", name := "isOver", desc := "()Z" } : Jvm.MethodName) prog_7_method_2_code (1 : Nat) (Option.some Jvm.ClassFile.FieldType.boolean)) ∈ xTB := xmem 350 (by decide +kernel) (by decide +kernel)
set_option maxRecDepth 20000 in
theorem w_351 : (Jvm.Cond.methodLink "TaskTurns" (64 : Nat) ({ cls := "TaskTurns$Letters", name := "isFull", desc := "()Z" } : Jvm.MethodName)) ∈ xTB := xmem 351 (by decide +kernel) (by decide +kernel)
set_option maxRecDepth 20000 in
theorem w_352 : (Jvm.Cond.instanceMethod ({ cls := "TaskTurns$Letters", name := "isFull", desc := "()Z" } : Jvm.MethodName)) ∈ xTB := xmem 352 (by decide +kernel) (by decide +kernel)
set_option maxRecDepth 20000 in
theorem w_353 : (Jvm.Cond.selects "TaskTurns$Letters" ({ cls := "TaskTurns$Letters", name := "isFull", desc := "()Z" } : Jvm.MethodName) ({ cls := "TaskTurns$Letters", name := "isFull", desc := "()Z" } : Jvm.MethodName)) ∈ xTB := xmem 353 (by decide +kernel) (by decide +kernel)
set_option maxRecDepth 20000 in
theorem w_354 : (Jvm.Cond.code ({ cls := "TaskTurns$Letters", name := "isFull", desc := "()Z" } : Jvm.MethodName) prog_4_method_2_code (1 : Nat) (Option.some Jvm.ClassFile.FieldType.boolean)) ∈ xTB := xmem 354 (by decide +kernel) (by decide +kernel)
set_option maxRecDepth 20000 in
theorem w_355 : (Jvm.Cond.methodLink "TaskTurns" (69 : Nat) ({ cls := "TaskTurns$Letters", name := "append", desc := "(I)V" } : Jvm.MethodName)) ∈ xTB := xmem 355 (by decide +kernel) (by decide +kernel)
set_option maxRecDepth 20000 in
theorem w_356 : (Jvm.Cond.instanceMethod ({ cls := "TaskTurns$Letters", name := "append", desc := "(I)V" } : Jvm.MethodName)) ∈ xTB := xmem 356 (by decide +kernel) (by decide +kernel)
set_option maxRecDepth 20000 in
theorem w_357 : (Jvm.Cond.selects "TaskTurns$Letters" ({ cls := "TaskTurns$Letters", name := "append", desc := "(I)V" } : Jvm.MethodName) ({ cls := "TaskTurns$Letters", name := "append", desc := "(I)V" } : Jvm.MethodName)) ∈ xTB := xmem 357 (by decide +kernel) (by decide +kernel)
set_option maxRecDepth 20000 in
theorem w_358 : (Jvm.Cond.code ({ cls := "TaskTurns$Letters", name := "append", desc := "(I)V" } : Jvm.MethodName) prog_4_method_4_code (2 : Nat) (Option.none : Option Jvm.ClassFile.FieldType)) ∈ xTB := xmem 358 (by decide +kernel) (by decide +kernel)
set_option maxRecDepth 20000 in
theorem w_359 : (Jvm.Cond.methodLink "TaskTurns" (221 : Nat) ({ cls := "TaskTurns$Task", name := "waitFor", desc := "(I)I" } : Jvm.MethodName)) ∈ xTB := xmem 359 (by decide +kernel) (by decide +kernel)
set_option maxRecDepth 20000 in
theorem w_360 : (Jvm.Cond.instanceMethod ({ cls := "TaskTurns$Task", name := "waitFor", desc := "(I)I" } : Jvm.MethodName)) ∈ xTB := xmem 360 (by decide +kernel) (by decide +kernel)
set_option maxRecDepth 20000 in
theorem w_361 : (Jvm.Cond.selects "TaskTurns$Task" ({ cls := "TaskTurns$Task", name := "waitFor", desc := "(I)I" } : Jvm.MethodName) ({ cls := "TaskTurns$Task", name := "waitFor", desc := "(I)I" } : Jvm.MethodName)) ∈ xTB := xmem 361 (by decide +kernel) (by decide +kernel)
set_option maxRecDepth 20000 in
theorem w_362 : (Jvm.Cond.code ({ cls := "TaskTurns$Task", name := "waitFor", desc := "(I)I" } : Jvm.MethodName) prog_7_method_16_code (2 : Nat) (Option.some Jvm.ClassFile.FieldType.int)) ∈ xTB := xmem 362 (by decide +kernel) (by decide +kernel)
set_option maxRecDepth 20000 in
theorem w_363 : (Jvm.Cond.methodLink "TaskTurns" (224 : Nat) ({ cls := "TaskTurns$Task", name := "setMark", desc := "()I" } : Jvm.MethodName)) ∈ xTB := xmem 363 (by decide +kernel) (by decide +kernel)
set_option maxRecDepth 20000 in
theorem w_364 : (Jvm.Cond.instanceMethod ({ cls := "TaskTurns$Task", name := "setMark", desc := "()I" } : Jvm.MethodName)) ∈ xTB := xmem 364 (by decide +kernel) (by decide +kernel)
set_option maxRecDepth 20000 in
theorem w_365 : (Jvm.Cond.selects "TaskTurns$Task" ({ cls := "TaskTurns$Task", name := "setMark", desc := "()I" } : Jvm.MethodName) ({ cls := "TaskTurns$Task", name := "setMark", desc := "()I" } : Jvm.MethodName)) ∈ xTB := xmem 365 (by decide +kernel) (by decide +kernel)
set_option maxRecDepth 20000 in
theorem w_366 : (Jvm.Cond.code ({ cls := "TaskTurns$Task", name := "setMark", desc := "()I" } : Jvm.MethodName) prog_7_method_9_code (1 : Nat) (Option.some Jvm.ClassFile.FieldType.int)) ∈ xTB := xmem 366 (by decide +kernel) (by decide +kernel)
set_option maxRecDepth 20000 in
theorem w_367 : (Jvm.Cond.methodLink "TaskTurns$Task" (104 : Nat) ({ cls := "TaskTurns$Row", name := "copyFrom", desc := "(LTaskTurns$Row;)V" } : Jvm.MethodName)) ∈ xTB := xmem 367 (by decide +kernel) (by decide +kernel)
set_option maxRecDepth 20000 in
theorem w_368 : (Jvm.Cond.instanceMethod ({ cls := "TaskTurns$Row", name := "copyFrom", desc := "(LTaskTurns$Row;)V" } : Jvm.MethodName)) ∈ xTB := xmem 368 (by decide +kernel) (by decide +kernel)
set_option maxRecDepth 20000 in
theorem w_369 : (Jvm.Cond.selects "TaskTurns$Row" ({ cls := "TaskTurns$Row", name := "copyFrom", desc := "(LTaskTurns$Row;)V" } : Jvm.MethodName) ({ cls := "TaskTurns$Row", name := "copyFrom", desc := "(LTaskTurns$Row;)V" } : Jvm.MethodName)) ∈ xTB := xmem 369 (by decide +kernel) (by decide +kernel)
set_option maxRecDepth 20000 in
theorem w_370 : (Jvm.Cond.code ({ cls := "TaskTurns$Row", name := "copyFrom", desc := "(LTaskTurns$Row;)V" } : Jvm.MethodName) prog_6_method_5_code (3 : Nat) (Option.none : Option Jvm.ClassFile.FieldType)) ∈ xTB := xmem 370 (by decide +kernel) (by decide +kernel)
set_option maxRecDepth 20000 in
theorem w_371 : (Jvm.Cond.methodLink "TaskTurns" (227 : Nat) ({ cls := "TaskTurns$Task", name := "makeBox", desc := "(I)I" } : Jvm.MethodName)) ∈ xTB := xmem 371 (by decide +kernel) (by decide +kernel)
set_option maxRecDepth 20000 in
theorem w_372 : (Jvm.Cond.instanceMethod ({ cls := "TaskTurns$Task", name := "makeBox", desc := "(I)I" } : Jvm.MethodName)) ∈ xTB := xmem 372 (by decide +kernel) (by decide +kernel)
set_option maxRecDepth 20000 in
theorem w_373 : (Jvm.Cond.selects "TaskTurns$Task" ({ cls := "TaskTurns$Task", name := "makeBox", desc := "(I)I" } : Jvm.MethodName) ({ cls := "TaskTurns$Task", name := "makeBox", desc := "(I)I" } : Jvm.MethodName)) ∈ xTB := xmem 373 (by decide +kernel) (by decide +kernel)
set_option maxRecDepth 20000 in
theorem w_374 : (Jvm.Cond.code ({ cls := "TaskTurns$Task", name := "makeBox", desc := "(I)I" } : Jvm.MethodName) prog_7_method_17_code (2 : Nat) (Option.some Jvm.ClassFile.FieldType.int)) ∈ xTB := xmem 374 (by decide +kernel) (by decide +kernel)
set_option maxRecDepth 20000 in
theorem w_375 : (Jvm.Cond.methodLink "TaskTurns$Task" (128 : Nat) ({ cls := "TaskTurns$Box", name := "renew", desc := "(I)V" } : Jvm.MethodName)) ∈ xTB := xmem 375 (by decide +kernel) (by decide +kernel)
set_option maxRecDepth 20000 in
theorem w_376 : (Jvm.Cond.instanceMethod ({ cls := "TaskTurns$Box", name := "renew", desc := "(I)V" } : Jvm.MethodName)) ∈ xTB := xmem 376 (by decide +kernel) (by decide +kernel)
set_option maxRecDepth 20000 in
theorem w_377 : (Jvm.Cond.selects "TaskTurns$Box" ({ cls := "TaskTurns$Box", name := "renew", desc := "(I)V" } : Jvm.MethodName) ({ cls := "TaskTurns$Box", name := "renew", desc := "(I)V" } : Jvm.MethodName)) ∈ xTB := xmem 377 (by decide +kernel) (by decide +kernel)
set_option maxRecDepth 20000 in
theorem w_378 : (Jvm.Cond.code ({ cls := "TaskTurns$Box", name := "renew", desc := "(I)V" } : Jvm.MethodName) prog_3_method_4_code (3 : Nat) (Option.none : Option Jvm.ClassFile.FieldType)) ∈ xTB := xmem 378 (by decide +kernel) (by decide +kernel)
set_option maxRecDepth 20000 in
theorem w_379 : (Jvm.Cond.methodLink "TaskTurns" (230 : Nat) ({ cls := "TaskTurns$Box", name := "put", desc := "(III)I" } : Jvm.MethodName)) ∈ xTB := xmem 379 (by decide +kernel) (by decide +kernel)
set_option maxRecDepth 20000 in
theorem w_380 : (Jvm.Cond.instanceMethod ({ cls := "TaskTurns$Box", name := "put", desc := "(III)I" } : Jvm.MethodName)) ∈ xTB := xmem 380 (by decide +kernel) (by decide +kernel)
set_option maxRecDepth 20000 in
theorem w_381 : (Jvm.Cond.selects "TaskTurns$Box" ({ cls := "TaskTurns$Box", name := "put", desc := "(III)I" } : Jvm.MethodName) ({ cls := "TaskTurns$Box", name := "put", desc := "(III)I" } : Jvm.MethodName)) ∈ xTB := xmem 381 (by decide +kernel) (by decide +kernel)
set_option maxRecDepth 20000 in
theorem w_382 : (Jvm.Cond.code ({ cls := "TaskTurns$Box", name := "put", desc := "(III)I" } : Jvm.MethodName) prog_3_method_6_code (5 : Nat) (Option.some Jvm.ClassFile.FieldType.int)) ∈ xTB := xmem 382 (by decide +kernel) (by decide +kernel)
set_option maxRecDepth 20000 in
theorem w_383 : (Jvm.Cond.methodLink "TaskTurns$Box" (19 : Nat) ({ cls := "TaskTurns$Box", name := "lookAt", desc := "(II)I" } : Jvm.MethodName)) ∈ xTB := xmem 383 (by decide +kernel) (by decide +kernel)
set_option maxRecDepth 20000 in
theorem w_384 : (Jvm.Cond.instanceMethod ({ cls := "TaskTurns$Box", name := "lookAt", desc := "(II)I" } : Jvm.MethodName)) ∈ xTB := xmem 384 (by decide +kernel) (by decide +kernel)
set_option maxRecDepth 20000 in
theorem w_385 : (Jvm.Cond.selects "TaskTurns$Box" ({ cls := "TaskTurns$Box", name := "lookAt", desc := "(II)I" } : Jvm.MethodName) ({ cls := "TaskTurns$Box", name := "lookAt", desc := "(II)I" } : Jvm.MethodName)) ∈ xTB := xmem 385 (by decide +kernel) (by decide +kernel)
set_option maxRecDepth 20000 in
theorem w_386 : (Jvm.Cond.code ({ cls := "TaskTurns$Box", name := "lookAt", desc := "(II)I" } : Jvm.MethodName) prog_3_method_5_code (3 : Nat) (Option.some Jvm.ClassFile.FieldType.int)) ∈ xTB := xmem 386 (by decide +kernel) (by decide +kernel)
set_option maxRecDepth 20000 in
theorem w_387 : (Jvm.Cond.methodLink "TaskTurns" (232 : Nat) ({ cls := "TaskTurns", name := "ask", desc := "(LTaskTurns$Task;I)I" } : Jvm.MethodName)) ∈ xTB := xmem 387 (by decide +kernel) (by decide +kernel)
set_option maxRecDepth 20000 in
theorem w_389 : (Jvm.Cond.instanceMethod ({ cls := "TaskTurns", name := "ask", desc := "(LTaskTurns$Task;I)I" } : Jvm.MethodName)) ∈ xTB := xmem 389 (by decide +kernel) (by decide +kernel)
set_option maxRecDepth 20000 in
theorem w_390 : (Jvm.Cond.code ({ cls := "TaskTurns", name := "ask", desc := "(LTaskTurns$Task;I)I" } : Jvm.MethodName) prog_1_method_25_code (5 : Nat) (Option.some Jvm.ClassFile.FieldType.int)) ∈ xTB := xmem 390 (by decide +kernel) (by decide +kernel)
set_option maxRecDepth 20000 in
theorem w_391 : (Jvm.Cond.methodLink "TaskTurns" (239 : Nat) ({ cls := "TaskTurns$Box", name := "lookAt", desc := "(II)I" } : Jvm.MethodName)) ∈ xTB := xmem 391 (by decide +kernel) (by decide +kernel)
set_option maxRecDepth 20000 in
theorem w_392 : (Jvm.Cond.methodLink "TaskTurns" (236 : Nat) ({ cls := "TaskTurns$Task", name := "copyToBox", desc := "(I)I" } : Jvm.MethodName)) ∈ xTB := xmem 392 (by decide +kernel) (by decide +kernel)
set_option maxRecDepth 20000 in
theorem w_393 : (Jvm.Cond.instanceMethod ({ cls := "TaskTurns$Task", name := "copyToBox", desc := "(I)I" } : Jvm.MethodName)) ∈ xTB := xmem 393 (by decide +kernel) (by decide +kernel)
set_option maxRecDepth 20000 in
theorem w_394 : (Jvm.Cond.selects "TaskTurns$Task" ({ cls := "TaskTurns$Task", name := "copyToBox", desc := "(I)I" } : Jvm.MethodName) ({ cls := "TaskTurns$Task", name := "copyToBox", desc := "(I)I" } : Jvm.MethodName)) ∈ xTB := xmem 394 (by decide +kernel) (by decide +kernel)
set_option maxRecDepth 20000 in
theorem w_395 : (Jvm.Cond.code ({ cls := "TaskTurns$Task", name := "copyToBox", desc := "(I)I" } : Jvm.MethodName) prog_7_method_18_code (3 : Nat) (Option.some Jvm.ClassFile.FieldType.int)) ∈ xTB := xmem 395 (by decide +kernel) (by decide +kernel)
set_option maxRecDepth 20000 in
theorem w_396 : (Jvm.Cond.methodLink "TaskTurns$Task" (129 : Nat) ({ cls := "TaskTurns$Box", name := "isNothing", desc := "()Z" } : Jvm.MethodName)) ∈ xTB := xmem 396 (by decide +kernel) (by decide +kernel)
set_option maxRecDepth 20000 in
theorem w_397 : (Jvm.Cond.instanceMethod ({ cls := "TaskTurns$Box", name := "isNothing", desc := "()Z" } : Jvm.MethodName)) ∈ xTB := xmem 397 (by decide +kernel) (by decide +kernel)
set_option maxRecDepth 20000 in
theorem w_398 : (Jvm.Cond.selects "TaskTurns$Box" ({ cls := "TaskTurns$Box", name := "isNothing", desc := "()Z" } : Jvm.MethodName) ({ cls := "TaskTurns$Box", name := "isNothing", desc := "()Z" } : Jvm.MethodName)) ∈ xTB := xmem 398 (by decide +kernel) (by decide +kernel)
set_option maxRecDepth 20000 in
theorem w_399 : (Jvm.Cond.code ({ cls := "TaskTurns$Box", name := "isNothing", desc := "()Z" } : Jvm.MethodName) prog_3_method_2_code (1 : Nat) (Option.some Jvm.ClassFile.FieldType.boolean)) ∈ xTB := xmem 399 (by decide +kernel) (by decide +kernel)
set_option maxRecDepth 20000 in
theorem w_400 : (Jvm.Cond.methodLink "TaskTurns" (175 : Nat) ({ cls := "TaskTurns$Task", name := "fail", desc := "(I)V" } : Jvm.MethodName)) ∈ xTB := xmem 400 (by decide +kernel) (by decide +kernel)
set_option maxRecDepth 20000 in
theorem w_401 : (Jvm.Cond.instanceMethod ({ cls := "TaskTurns$Task", name := "fail", desc := "(I)V" } : Jvm.MethodName)) ∈ xTB := xmem 401 (by decide +kernel) (by decide +kernel)
set_option maxRecDepth 20000 in
theorem w_402 : (Jvm.Cond.selects "TaskTurns$Task" ({ cls := "TaskTurns$Task", name := "fail", desc := "(I)V" } : Jvm.MethodName) ({ cls := "TaskTurns$Task", name := "fail", desc := "(I)V" } : Jvm.MethodName)) ∈ xTB := xmem 402 (by decide +kernel) (by decide +kernel)
set_option maxRecDepth 20000 in
theorem w_403 : (Jvm.Cond.code ({ cls := "TaskTurns$Task", name := "fail", desc := "(I)V" } : Jvm.MethodName) prog_7_method_6_code (2 : Nat) (Option.none : Option Jvm.ClassFile.FieldType)) ∈ xTB := xmem 403 (by decide +kernel) (by decide +kernel)
set_option maxRecDepth 20000 in
theorem w_404 : (Jvm.Cond.methodLink "TaskTurns$Task" (95 : Nat) ({ cls := "TaskTurns$Task", name := "backsAllowed", desc := "()I" } : Jvm.MethodName)) ∈ xTB := xmem 404 (by decide +kernel) (by decide +kernel)
set_option maxRecDepth 20000 in
theorem w_405 : (Jvm.Cond.instanceMethod ({ cls := "TaskTurns$Task", name := "backsAllowed", desc := "()I" } : Jvm.MethodName)) ∈ xTB := xmem 405 (by decide +kernel) (by decide +kernel)
set_option maxRecDepth 20000 in
theorem w_406 : (Jvm.Cond.selects "TaskTurns$Task" ({ cls := "TaskTurns$Task", name := "backsAllowed", desc := "()I" } : Jvm.MethodName) ({ cls := "TaskTurns$Task", name := "backsAllowed", desc := "()I" } : Jvm.MethodName)) ∈ xTB := xmem 406 (by decide +kernel) (by decide +kernel)
set_option maxRecDepth 20000 in
theorem w_407 : (Jvm.Cond.code ({ cls := "TaskTurns$Task", name := "backsAllowed", desc := "()I" } : Jvm.MethodName) prog_7_method_7_code (1 : Nat) (Option.some Jvm.ClassFile.FieldType.int)) ∈ xTB := xmem 407 (by decide +kernel) (by decide +kernel)
set_option maxRecDepth 20000 in
theorem w_408 : (Jvm.Cond.methodLink "TaskTurns$Task" (99 : Nat) ({ cls := "TaskTurns$Task", name := "goBack", desc := "()V" } : Jvm.MethodName)) ∈ xTB := xmem 408 (by decide +kernel) (by decide +kernel)
set_option maxRecDepth 20000 in
theorem w_409 : (Jvm.Cond.instanceMethod ({ cls := "TaskTurns$Task", name := "goBack", desc := "()V" } : Jvm.MethodName)) ∈ xTB := xmem 409 (by decide +kernel) (by decide +kernel)
set_option maxRecDepth 20000 in
theorem w_410 : (Jvm.Cond.selects "TaskTurns$Task" ({ cls := "TaskTurns$Task", name := "goBack", desc := "()V" } : Jvm.MethodName) ({ cls := "TaskTurns$Task", name := "goBack", desc := "()V" } : Jvm.MethodName)) ∈ xTB := xmem 410 (by decide +kernel) (by decide +kernel)
set_option maxRecDepth 20000 in
theorem w_411 : (Jvm.Cond.code ({ cls := "TaskTurns$Task", name := "goBack", desc := "()V" } : Jvm.MethodName) prog_7_method_8_code (1 : Nat) (Option.none : Option Jvm.ClassFile.FieldType)) ∈ xTB := xmem 411 (by decide +kernel) (by decide +kernel)
set_option maxRecDepth 20000 in
theorem w_412 : (Jvm.Cond.methodLink "TaskTurns" (178 : Nat) ({ cls := "TaskTurns", name := "becomeDone", desc := "(LTaskTurns$Task;)V" } : Jvm.MethodName)) ∈ xTB := xmem 412 (by decide +kernel) (by decide +kernel)
set_option maxRecDepth 20000 in
theorem w_414 : (Jvm.Cond.instanceMethod ({ cls := "TaskTurns", name := "becomeDone", desc := "(LTaskTurns$Task;)V" } : Jvm.MethodName)) ∈ xTB := xmem 414 (by decide +kernel) (by decide +kernel)
set_option maxRecDepth 20000 in
theorem w_415 : (Jvm.Cond.code ({ cls := "TaskTurns", name := "becomeDone", desc := "(LTaskTurns$Task;)V" } : Jvm.MethodName) prog_1_method_21_code (2 : Nat) (Option.none : Option Jvm.ClassFile.FieldType)) ∈ xTB := xmem 415 (by decide +kernel) (by decide +kernel)
set_option maxRecDepth 20000 in
theorem w_416 : (Jvm.Cond.methodLink "TaskTurns" (139 : Nat) ({ cls := "TaskTurns", name := "ageTasks", desc := "()V" } : Jvm.MethodName)) ∈ xTB := xmem 416 (by decide +kernel) (by decide +kernel)
set_option maxRecDepth 20000 in
theorem w_418 : (Jvm.Cond.instanceMethod ({ cls := "TaskTurns", name := "ageTasks", desc := "()V" } : Jvm.MethodName)) ∈ xTB := xmem 418 (by decide +kernel) (by decide +kernel)
set_option maxRecDepth 20000 in
theorem w_419 : (Jvm.Cond.code ({ cls := "TaskTurns", name := "ageTasks", desc := "()V" } : Jvm.MethodName) prog_1_method_18_code (3 : Nat) (Option.none : Option Jvm.ClassFile.FieldType)) ∈ xTB := xmem 419 (by decide +kernel) (by decide +kernel)
set_option maxRecDepth 20000 in
theorem w_432 : (Jvm.Cond.methodLink "TaskTurns" (75 : Nat) ({ cls := "TaskTurns$Task", name := "goBack", desc := "()V" } : Jvm.MethodName)) ∈ xTB := xmem 432 (by decide +kernel) (by decide +kernel)
set_option maxRecDepth 20000 in
theorem w_437 : (Jvm.Cond.methodLink "TaskTurns" (78 : Nat) ({ cls := "TaskTurns$Task", name := "tell", desc := "(I)I" } : Jvm.MethodName)) ∈ xTB := xmem 437 (by decide +kernel) (by decide +kernel)
set_option maxRecDepth 20000 in
theorem w_438 : (Jvm.Cond.instanceMethod ({ cls := "TaskTurns$Task", name := "tell", desc := "(I)I" } : Jvm.MethodName)) ∈ xTB := xmem 438 (by decide +kernel) (by decide +kernel)
set_option maxRecDepth 20000 in
theorem w_439 : (Jvm.Cond.selects "TaskTurns$Task" ({ cls := "TaskTurns$Task", name := "tell", desc := "(I)I" } : Jvm.MethodName) ({ cls := "TaskTurns$Task", name := "tell", desc := "(I)I" } : Jvm.MethodName)) ∈ xTB := xmem 439 (by decide +kernel) (by decide +kernel)
set_option maxRecDepth 20000 in
theorem w_440 : (Jvm.Cond.code ({ cls := "TaskTurns$Task", name := "tell", desc := "(I)I" } : Jvm.MethodName) prog_7_method_4_code (2 : Nat) (Option.some Jvm.ClassFile.FieldType.int)) ∈ xTB := xmem 440 (by decide +kernel) (by decide +kernel)
set_option maxRecDepth 20000 in
theorem w_445 : (Jvm.Cond.methodLink "TaskTurns" (86 : Nat) ({ cls := "TaskTurns$Box", name := "has", desc := "(I)Z" } : Jvm.MethodName)) ∈ xTB := xmem 445 (by decide +kernel) (by decide +kernel)
set_option maxRecDepth 20000 in
theorem w_446 : (Jvm.Cond.instanceMethod ({ cls := "TaskTurns$Box", name := "has", desc := "(I)Z" } : Jvm.MethodName)) ∈ xTB := xmem 446 (by decide +kernel) (by decide +kernel)
set_option maxRecDepth 20000 in
theorem w_447 : (Jvm.Cond.selects "TaskTurns$Box" ({ cls := "TaskTurns$Box", name := "has", desc := "(I)Z" } : Jvm.MethodName) ({ cls := "TaskTurns$Box", name := "has", desc := "(I)Z" } : Jvm.MethodName)) ∈ xTB := xmem 447 (by decide +kernel) (by decide +kernel)
set_option maxRecDepth 20000 in
theorem w_448 : (Jvm.Cond.code ({ cls := "TaskTurns$Box", name := "has", desc := "(I)Z" } : Jvm.MethodName) prog_3_method_3_code (2 : Nat) (Option.some Jvm.ClassFile.FieldType.boolean)) ∈ xTB := xmem 448 (by decide +kernel) (by decide +kernel)
set_option maxRecDepth 20000 in
theorem w_449 : (Jvm.Cond.methodLink "TaskTurns" (99 : Nat) ({ cls := "TaskTurns$Row", name := "has", desc := "(I)Z" } : Jvm.MethodName)) ∈ xTB := xmem 449 (by decide +kernel) (by decide +kernel)
set_option maxRecDepth 20000 in
theorem w_454 : (Jvm.Cond.methodLink "TaskTurns" (105 : Nat) ({ cls := "TaskTurns$Letters", name := "has", desc := "(I)Z" } : Jvm.MethodName)) ∈ xTB := xmem 454 (by decide +kernel) (by decide +kernel)
set_option maxRecDepth 20000 in
theorem w_455 : (Jvm.Cond.instanceMethod ({ cls := "TaskTurns$Letters", name := "has", desc := "(I)Z" } : Jvm.MethodName)) ∈ xTB := xmem 455 (by decide +kernel) (by decide +kernel)
set_option maxRecDepth 20000 in
theorem w_456 : (Jvm.Cond.selects "TaskTurns$Letters" ({ cls := "TaskTurns$Letters", name := "has", desc := "(I)Z" } : Jvm.MethodName) ({ cls := "TaskTurns$Letters", name := "has", desc := "(I)Z" } : Jvm.MethodName)) ∈ xTB := xmem 456 (by decide +kernel) (by decide +kernel)
set_option maxRecDepth 20000 in
theorem w_457 : (Jvm.Cond.code ({ cls := "TaskTurns$Letters", name := "has", desc := "(I)Z" } : Jvm.MethodName) prog_4_method_3_code (2 : Nat) (Option.some Jvm.ClassFile.FieldType.boolean)) ∈ xTB := xmem 457 (by decide +kernel) (by decide +kernel)
set_option maxRecDepth 20000 in
theorem w_462 : (Jvm.Cond.methodLink "TaskTurns" (121 : Nat) ({ cls := "TaskTurns", name := "countGoingOn", desc := "()I" } : Jvm.MethodName)) ∈ xTB := xmem 462 (by decide +kernel) (by decide +kernel)
set_option maxRecDepth 20000 in
theorem w_464 : (Jvm.Cond.instanceMethod ({ cls := "TaskTurns", name := "countGoingOn", desc := "()I" } : Jvm.MethodName)) ∈ xTB := xmem 464 (by decide +kernel) (by decide +kernel)
set_option maxRecDepth 20000 in
theorem w_465 : (Jvm.Cond.code ({ cls := "TaskTurns", name := "countGoingOn", desc := "()I" } : Jvm.MethodName) prog_1_method_15_code (4 : Nat) (Option.some Jvm.ClassFile.FieldType.int)) ∈ xTB := xmem 465 (by decide +kernel) (by decide +kernel)
set_option maxRecDepth 20000 in
theorem w_475 : (Jvm.Cond.methodLink "TaskTurnsModel" (1 : Nat) ({ cls := "java/lang/Object", name := "<init>", desc := "()V" } : Jvm.MethodName)) ∈ xTB := xmem 475 (by decide +kernel) (by decide +kernel)
set_option maxRecDepth 20000 in
theorem w_476 : (Jvm.Cond.fieldLink "TaskTurnsModel" (103 : Nat) "TaskTurnsModel" "tasks" "I") ∈ xTB := xmem 476 (by decide +kernel) (by decide +kernel)
set_option maxRecDepth 20000 in
theorem w_477 : (Jvm.Cond.fieldLink "TaskTurnsModel" (7 : Nat) "TaskTurnsModel" "sort" "[I") ∈ xTB := xmem 477 (by decide +kernel) (by decide +kernel)
set_option maxRecDepth 20000 in
theorem w_478 : (Jvm.Cond.fieldLink "TaskTurnsModel" (13 : Nat) "TaskTurnsModel" "rank" "[I") ∈ xTB := xmem 478 (by decide +kernel) (by decide +kernel)
set_option maxRecDepth 20000 in
theorem w_479 : (Jvm.Cond.fieldLink "TaskTurnsModel" (16 : Nat) "TaskTurnsModel" "age" "[I") ∈ xTB := xmem 479 (by decide +kernel) (by decide +kernel)
set_option maxRecDepth 20000 in
theorem w_480 : (Jvm.Cond.fieldLink "TaskTurnsModel" (19 : Nat) "TaskTurnsModel" "state" "[I") ∈ xTB := xmem 480 (by decide +kernel) (by decide +kernel)
set_option maxRecDepth 20000 in
theorem w_481 : (Jvm.Cond.fieldLink "TaskTurnsModel" (22 : Nat) "TaskTurnsModel" "actMany" "[I") ∈ xTB := xmem 481 (by decide +kernel) (by decide +kernel)
set_option maxRecDepth 20000 in
theorem w_482 : (Jvm.Cond.fieldLink "TaskTurnsModel" (25 : Nat) "TaskTurnsModel" "kind" "[I") ∈ xTB := xmem 482 (by decide +kernel) (by decide +kernel)
set_option maxRecDepth 20000 in
theorem w_483 : (Jvm.Cond.fieldLink "TaskTurnsModel" (28 : Nat) "TaskTurnsModel" "first" "[I") ∈ xTB := xmem 483 (by decide +kernel) (by decide +kernel)
set_option maxRecDepth 20000 in
theorem w_484 : (Jvm.Cond.fieldLink "TaskTurnsModel" (31 : Nat) "TaskTurnsModel" "second" "[I") ∈ xTB := xmem 484 (by decide +kernel) (by decide +kernel)
set_option maxRecDepth 20000 in
theorem w_485 : (Jvm.Cond.fieldLink "TaskTurnsModel" (34 : Nat) "TaskTurnsModel" "next" "[I") ∈ xTB := xmem 485 (by decide +kernel) (by decide +kernel)
set_option maxRecDepth 20000 in
theorem w_486 : (Jvm.Cond.fieldLink "TaskTurnsModel" (37 : Nat) "TaskTurnsModel" "sum" "[I") ∈ xTB := xmem 486 (by decide +kernel) (by decide +kernel)
set_option maxRecDepth 20000 in
theorem w_487 : (Jvm.Cond.fieldLink "TaskTurnsModel" (40 : Nat) "TaskTurnsModel" "rowSize" "[I") ∈ xTB := xmem 487 (by decide +kernel) (by decide +kernel)
set_option maxRecDepth 20000 in
theorem w_488 : (Jvm.Cond.fieldLink "TaskTurnsModel" (43 : Nat) "TaskTurnsModel" "row" "[I") ∈ xTB := xmem 488 (by decide +kernel) (by decide +kernel)
set_option maxRecDepth 20000 in
theorem w_489 : (Jvm.Cond.fieldLink "TaskTurnsModel" (46 : Nat) "TaskTurnsModel" "markSum" "[I") ∈ xTB := xmem 489 (by decide +kernel) (by decide +kernel)
set_option maxRecDepth 20000 in
theorem w_490 : (Jvm.Cond.fieldLink "TaskTurnsModel" (49 : Nat) "TaskTurnsModel" "markNext" "[I") ∈ xTB := xmem 490 (by decide +kernel) (by decide +kernel)
set_option maxRecDepth 20000 in
theorem w_491 : (Jvm.Cond.fieldLink "TaskTurnsModel" (52 : Nat) "TaskTurnsModel" "markSize" "[I") ∈ xTB := xmem 491 (by decide +kernel) (by decide +kernel)
set_option maxRecDepth 20000 in
theorem w_492 : (Jvm.Cond.fieldLink "TaskTurnsModel" (55 : Nat) "TaskTurnsModel" "markRow" "[I") ∈ xTB := xmem 492 (by decide +kernel) (by decide +kernel)
set_option maxRecDepth 20000 in
theorem w_493 : (Jvm.Cond.fieldLink "TaskTurnsModel" (58 : Nat) "TaskTurnsModel" "boxSort" "[I") ∈ xTB := xmem 493 (by decide +kernel) (by decide +kernel)
set_option maxRecDepth 20000 in
theorem w_494 : (Jvm.Cond.fieldLink "TaskTurnsModel" (61 : Nat) "TaskTurnsModel" "box" "[I") ∈ xTB := xmem 494 (by decide +kernel) (by decide +kernel)
set_option maxRecDepth 20000 in
theorem w_495 : (Jvm.Cond.fieldLink "TaskTurnsModel" (64 : Nat) "TaskTurnsModel" "letterMany" "[I") ∈ xTB := xmem 495 (by decide +kernel) (by decide +kernel)
set_option maxRecDepth 20000 in
theorem w_496 : (Jvm.Cond.fieldLink "TaskTurnsModel" (67 : Nat) "TaskTurnsModel" "letters" "[I") ∈ xTB := xmem 496 (by decide +kernel) (by decide +kernel)
set_option maxRecDepth 20000 in
theorem w_497 : (Jvm.Cond.fieldLink "TaskTurnsModel" (70 : Nat) "TaskTurnsModel" "wakes" "[J") ∈ xTB := xmem 497 (by decide +kernel) (by decide +kernel)
set_option maxRecDepth 20000 in
theorem w_498 : (Jvm.Cond.fieldLink "TaskTurnsModel" (74 : Nat) "TaskTurnsModel" "failures" "[I") ∈ xTB := xmem 498 (by decide +kernel) (by decide +kernel)
set_option maxRecDepth 20000 in
theorem w_499 : (Jvm.Cond.fieldLink "TaskTurnsModel" (77 : Nat) "TaskTurnsModel" "latest" "[I") ∈ xTB := xmem 499 (by decide +kernel) (by decide +kernel)
set_option maxRecDepth 20000 in
theorem w_500 : (Jvm.Cond.fieldLink "TaskTurnsModel" (80 : Nat) "TaskTurnsModel" "latestAct" "[I") ∈ xTB := xmem 500 (by decide +kernel) (by decide +kernel)
set_option maxRecDepth 20000 in
theorem w_501 : (Jvm.Cond.fieldLink "TaskTurnsModel" (83 : Nat) "TaskTurnsModel" "backs" "[I") ∈ xTB := xmem 501 (by decide +kernel) (by decide +kernel)
set_option maxRecDepth 20000 in
theorem w_502 : (Jvm.Cond.fieldLink "TaskTurnsModel" (86 : Nat) "TaskTurnsModel" "hasActed" "[Z") ∈ xTB := xmem 502 (by decide +kernel) (by decide +kernel)
set_option maxRecDepth 20000 in
theorem w_503 : (Jvm.Cond.fieldLink "TaskTurnsModel" (90 : Nat) "TaskTurnsModel" "hadTurn" "[Z") ∈ xTB := xmem 503 (by decide +kernel) (by decide +kernel)
set_option maxRecDepth 20000 in
theorem w_504 : (Jvm.Cond.fieldLink "TaskTurnsModel" (93 : Nat) "TaskTurnsModel" "doneRow" "[I") ∈ xTB := xmem 504 (by decide +kernel) (by decide +kernel)
set_option maxRecDepth 20000 in
theorem w_505 : (Jvm.Cond.fieldLink "TaskTurnsModel" (172 : Nat) "TaskTurnsModel" "dones" "I") ∈ xTB := xmem 505 (by decide +kernel) (by decide +kernel)
set_option maxRecDepth 20000 in
theorem w_506 : (Jvm.Cond.fieldLink "TaskTurnsModel" (96 : Nat) "TaskTurnsModel" "workers" "I") ∈ xTB := xmem 506 (by decide +kernel) (by decide +kernel)
set_option maxRecDepth 20000 in
theorem w_507 : (Jvm.Cond.fieldLink "TaskTurnsModel" (100 : Nat) "TaskTurnsModel" "turns" "I") ∈ xTB := xmem 507 (by decide +kernel) (by decide +kernel)
set_option maxRecDepth 20000 in
theorem w_508 : (Jvm.Cond.fieldLink "TaskTurnsModel" (150 : Nat) "TaskTurnsModel" "acts" "I") ∈ xTB := xmem 508 (by decide +kernel) (by decide +kernel)
set_option maxRecDepth 20000 in
theorem w_509 : (Jvm.Cond.fieldLink "TaskTurnsModel" (121 : Nat) "TaskTurnsModel" "lost" "I") ∈ xTB := xmem 509 (by decide +kernel) (by decide +kernel)
set_option maxRecDepth 20000 in
theorem w_510 : (Jvm.Cond.fieldLink "TaskTurnsModel" (156 : Nat) "TaskTurnsModel" "left" "I") ∈ xTB := xmem 510 (by decide +kernel) (by decide +kernel)
set_option maxRecDepth 20000 in
theorem w_511 : (Jvm.Cond.fieldLink "TaskTurnsModel" (159 : Nat) "TaskTurnsModel" "allFailures" "I") ∈ xTB := xmem 511 (by decide +kernel) (by decide +kernel)
set_option maxRecDepth 20000 in
theorem w_512 : (Jvm.Cond.fieldLink "TaskTurnsModel" (135 : Nat) "TaskTurnsModel" "waitTold" "I") ∈ xTB := xmem 512 (by decide +kernel) (by decide +kernel)
set_option maxRecDepth 20000 in
theorem w_513 : (Jvm.Cond.fieldLink "TaskTurnsModel" (114 : Nat) "TaskTurnsModel" "isGuarded" "Z") ∈ xTB := xmem 513 (by decide +kernel) (by decide +kernel)
set_option maxRecDepth 20000 in
theorem w_591 : (Jvm.Cond.arrayClass Jvm.ClassFile.FieldType.long) ∈ xTB := xmem 591 (by decide +kernel) (by decide +kernel)
set_option maxRecDepth 20000 in
theorem w_592 : (Jvm.Cond.arrayClass Jvm.ClassFile.FieldType.boolean) ∈ xTB := xmem 592 (by decide +kernel) (by decide +kernel)
set_option maxRecDepth 20000 in
theorem w_597 : (Jvm.Cond.methodLink "TaskTurnsModel" (106 : Nat) ({ cls := "TaskTurnsModel", name := "in", desc := "(III)Z" } : Jvm.MethodName)) ∈ xTB := xmem 597 (by decide +kernel) (by decide +kernel)
set_option maxRecDepth 20000 in
theorem w_598 : (Jvm.Cond.static ({ cls := "TaskTurnsModel", name := "in", desc := "(III)Z" } : Jvm.MethodName)) ∈ xTB := xmem 598 (by decide +kernel) (by decide +kernel)
set_option maxRecDepth 20000 in
theorem w_599 : (Jvm.Cond.code ({ cls := "TaskTurnsModel", name := "in", desc := "(III)Z" } : Jvm.MethodName) prog_9_method_2_code (3 : Nat) (Option.some Jvm.ClassFile.FieldType.boolean)) ∈ xTB := xmem 599 (by decide +kernel) (by decide +kernel)
set_option maxRecDepth 20000 in
theorem w_604 : (Jvm.Cond.methodLink "TaskTurnsModel" (110 : Nat) ({ cls := "TaskTurnsModel", name := "isTask", desc := "(I)Z" } : Jvm.MethodName)) ∈ xTB := xmem 604 (by decide +kernel) (by decide +kernel)
set_option maxRecDepth 20000 in
theorem w_606 : (Jvm.Cond.instanceMethod ({ cls := "TaskTurnsModel", name := "isTask", desc := "(I)Z" } : Jvm.MethodName)) ∈ xTB := xmem 606 (by decide +kernel) (by decide +kernel)
set_option maxRecDepth 20000 in
theorem w_607 : (Jvm.Cond.code ({ cls := "TaskTurnsModel", name := "isTask", desc := "(I)Z" } : Jvm.MethodName) prog_9_method_3_code (2 : Nat) (Option.some Jvm.ClassFile.FieldType.boolean)) ∈ xTB := xmem 607 (by decide +kernel) (by decide +kernel)
set_option maxRecDepth 20000 in
theorem w_616 : (Jvm.Cond.methodLink "TaskTurnsModel" (184 : Nat) ({ cls := "TaskTurnsModel", name := "oneTurn", desc := "()V" } : Jvm.MethodName)) ∈ xTB := xmem 616 (by decide +kernel) (by decide +kernel)
set_option maxRecDepth 20000 in
theorem w_618 : (Jvm.Cond.instanceMethod ({ cls := "TaskTurnsModel", name := "oneTurn", desc := "()V" } : Jvm.MethodName)) ∈ xTB := xmem 618 (by decide +kernel) (by decide +kernel)
set_option maxRecDepth 20000 in
theorem w_619 : (Jvm.Cond.code ({ cls := "TaskTurnsModel", name := "oneTurn", desc := "()V" } : Jvm.MethodName) prog_9_method_21_code (3 : Nat) (Option.none : Option Jvm.ClassFile.FieldType)) ∈ xTB := xmem 619 (by decide +kernel) (by decide +kernel)
set_option maxRecDepth 20000 in
theorem w_620 : (Jvm.Cond.methodLink "TaskTurnsModel" (175 : Nat) ({ cls := "TaskTurnsModel", name := "pick", desc := "()I" } : Jvm.MethodName)) ∈ xTB := xmem 620 (by decide +kernel) (by decide +kernel)
set_option maxRecDepth 20000 in
theorem w_622 : (Jvm.Cond.instanceMethod ({ cls := "TaskTurnsModel", name := "pick", desc := "()I" } : Jvm.MethodName)) ∈ xTB := xmem 622 (by decide +kernel) (by decide +kernel)
set_option maxRecDepth 20000 in
theorem w_623 : (Jvm.Cond.code ({ cls := "TaskTurnsModel", name := "pick", desc := "()I" } : Jvm.MethodName) prog_9_method_20_code (4 : Nat) (Option.some Jvm.ClassFile.FieldType.int)) ∈ xTB := xmem 623 (by decide +kernel) (by decide +kernel)
set_option maxRecDepth 20000 in
theorem w_624 : (Jvm.Cond.methodLink "TaskTurnsModel" (179 : Nat) ({ cls := "TaskTurnsModel", name := "acts", desc := "(I)V" } : Jvm.MethodName)) ∈ xTB := xmem 624 (by decide +kernel) (by decide +kernel)
set_option maxRecDepth 20000 in
theorem w_626 : (Jvm.Cond.instanceMethod ({ cls := "TaskTurnsModel", name := "acts", desc := "(I)V" } : Jvm.MethodName)) ∈ xTB := xmem 626 (by decide +kernel) (by decide +kernel)
set_option maxRecDepth 20000 in
theorem w_627 : (Jvm.Cond.code ({ cls := "TaskTurnsModel", name := "acts", desc := "(I)V" } : Jvm.MethodName) prog_9_method_18_code (4 : Nat) (Option.none : Option Jvm.ClassFile.FieldType)) ∈ xTB := xmem 627 (by decide +kernel) (by decide +kernel)
set_option maxRecDepth 20000 in
theorem w_628 : (Jvm.Cond.methodLink "TaskTurnsModel" (165 : Nat) ({ cls := "TaskTurnsModel", name := "guard", desc := "(II)I" } : Jvm.MethodName)) ∈ xTB := xmem 628 (by decide +kernel) (by decide +kernel)
set_option maxRecDepth 20000 in
theorem w_630 : (Jvm.Cond.instanceMethod ({ cls := "TaskTurnsModel", name := "guard", desc := "(II)I" } : Jvm.MethodName)) ∈ xTB := xmem 630 (by decide +kernel) (by decide +kernel)
set_option maxRecDepth 20000 in
theorem w_631 : (Jvm.Cond.code ({ cls := "TaskTurnsModel", name := "guard", desc := "(II)I" } : Jvm.MethodName) prog_9_method_16_code (6 : Nat) (Option.some Jvm.ClassFile.FieldType.int)) ∈ xTB := xmem 631 (by decide +kernel) (by decide +kernel)
set_option maxRecDepth 20000 in
theorem w_632 : (Jvm.Cond.methodLink "TaskTurnsModel" (153 : Nat) ({ cls := "TaskTurnsModel", name := "simple", desc := "(II)I" } : Jvm.MethodName)) ∈ xTB := xmem 632 (by decide +kernel) (by decide +kernel)
set_option maxRecDepth 20000 in
theorem w_634 : (Jvm.Cond.instanceMethod ({ cls := "TaskTurnsModel", name := "simple", desc := "(II)I" } : Jvm.MethodName)) ∈ xTB := xmem 634 (by decide +kernel) (by decide +kernel)
set_option maxRecDepth 20000 in
theorem w_635 : (Jvm.Cond.code ({ cls := "TaskTurnsModel", name := "simple", desc := "(II)I" } : Jvm.MethodName) prog_9_method_15_code (6 : Nat) (Option.some Jvm.ClassFile.FieldType.int)) ∈ xTB := xmem 635 (by decide +kernel) (by decide +kernel)
set_option maxRecDepth 20000 in
theorem w_636 : (Jvm.Cond.methodLink "TaskTurnsModel" (124 : Nat) ({ cls := "TaskTurnsModel", name := "rowAct", desc := "(III)I" } : Jvm.MethodName)) ∈ xTB := xmem 636 (by decide +kernel) (by decide +kernel)
set_option maxRecDepth 20000 in
theorem w_638 : (Jvm.Cond.instanceMethod ({ cls := "TaskTurnsModel", name := "rowAct", desc := "(III)I" } : Jvm.MethodName)) ∈ xTB := xmem 638 (by decide +kernel) (by decide +kernel)
set_option maxRecDepth 20000 in
theorem w_639 : (Jvm.Cond.code ({ cls := "TaskTurnsModel", name := "rowAct", desc := "(III)I" } : Jvm.MethodName) prog_9_method_8_code (5 : Nat) (Option.some Jvm.ClassFile.FieldType.int)) ∈ xTB := xmem 639 (by decide +kernel) (by decide +kernel)
set_option maxRecDepth 20000 in
theorem w_640 : (Jvm.Cond.methodLink "TaskTurnsModel" (128 : Nat) ({ cls := "TaskTurnsModel", name := "takeAct", desc := "(I)I" } : Jvm.MethodName)) ∈ xTB := xmem 640 (by decide +kernel) (by decide +kernel)
set_option maxRecDepth 20000 in
theorem w_642 : (Jvm.Cond.instanceMethod ({ cls := "TaskTurnsModel", name := "takeAct", desc := "(I)I" } : Jvm.MethodName)) ∈ xTB := xmem 642 (by decide +kernel) (by decide +kernel)
set_option maxRecDepth 20000 in
theorem w_643 : (Jvm.Cond.code ({ cls := "TaskTurnsModel", name := "takeAct", desc := "(I)I" } : Jvm.MethodName) prog_9_method_9_code (3 : Nat) (Option.some Jvm.ClassFile.FieldType.int)) ∈ xTB := xmem 643 (by decide +kernel) (by decide +kernel)
set_option maxRecDepth 20000 in
theorem w_644 : (Jvm.Cond.methodLink "TaskTurnsModel" (132 : Nat) ({ cls := "TaskTurnsModel", name := "sendAct", desc := "(III)I" } : Jvm.MethodName)) ∈ xTB := xmem 644 (by decide +kernel) (by decide +kernel)
set_option maxRecDepth 20000 in
theorem w_646 : (Jvm.Cond.instanceMethod ({ cls := "TaskTurnsModel", name := "sendAct", desc := "(III)I" } : Jvm.MethodName)) ∈ xTB := xmem 646 (by decide +kernel) (by decide +kernel)
set_option maxRecDepth 20000 in
theorem w_647 : (Jvm.Cond.code ({ cls := "TaskTurnsModel", name := "sendAct", desc := "(III)I" } : Jvm.MethodName) prog_9_method_10_code (4 : Nat) (Option.some Jvm.ClassFile.FieldType.int)) ∈ xTB := xmem 647 (by decide +kernel) (by decide +kernel)
set_option maxRecDepth 20000 in
theorem w_648 : (Jvm.Cond.methodLink "TaskTurnsModel" (118 : Nat) ({ cls := "TaskTurnsModel", name := "isOver", desc := "(I)Z" } : Jvm.MethodName)) ∈ xTB := xmem 648 (by decide +kernel) (by decide +kernel)
set_option maxRecDepth 20000 in
theorem w_649 : (Jvm.Cond.static ({ cls := "TaskTurnsModel", name := "isOver", desc := "(I)Z" } : Jvm.MethodName)) ∈ xTB := xmem 649 (by decide +kernel) (by decide +kernel)
set_option maxRecDepth 20000 in
theorem w_650 : (Jvm.Cond.code ({ cls := "TaskTurnsModel", name := "isOver", desc := "(I)Z" } : Jvm.MethodName) prog_9_method_4_code (1 : Nat) (Option.some Jvm.ClassFile.FieldType.boolean)) ∈ xTB := xmem 650 (by decide +kernel) (by decide +kernel)
set_option maxRecDepth 20000 in
theorem w_651 : (Jvm.Cond.methodLink "TaskTurnsModel" (138 : Nat) ({ cls := "TaskTurnsModel", name := "mark", desc := "(I)V" } : Jvm.MethodName)) ∈ xTB := xmem 651 (by decide +kernel) (by decide +kernel)
set_option maxRecDepth 20000 in
theorem w_653 : (Jvm.Cond.instanceMethod ({ cls := "TaskTurnsModel", name := "mark", desc := "(I)V" } : Jvm.MethodName)) ∈ xTB := xmem 653 (by decide +kernel) (by decide +kernel)
set_option maxRecDepth 20000 in
theorem w_654 : (Jvm.Cond.code ({ cls := "TaskTurnsModel", name := "mark", desc := "(I)V" } : Jvm.MethodName) prog_9_method_11_code (3 : Nat) (Option.none : Option Jvm.ClassFile.FieldType)) ∈ xTB := xmem 654 (by decide +kernel) (by decide +kernel)
set_option maxRecDepth 20000 in
theorem w_655 : (Jvm.Cond.methodLink "TaskTurnsModel" (142 : Nat) ({ cls := "TaskTurnsModel", name := "copyAct", desc := "(II)I" } : Jvm.MethodName)) ∈ xTB := xmem 655 (by decide +kernel) (by decide +kernel)
set_option maxRecDepth 20000 in
theorem w_657 : (Jvm.Cond.instanceMethod ({ cls := "TaskTurnsModel", name := "copyAct", desc := "(II)I" } : Jvm.MethodName)) ∈ xTB := xmem 657 (by decide +kernel) (by decide +kernel)
set_option maxRecDepth 20000 in
theorem w_658 : (Jvm.Cond.code ({ cls := "TaskTurnsModel", name := "copyAct", desc := "(II)I" } : Jvm.MethodName) prog_9_method_14_code (4 : Nat) (Option.some Jvm.ClassFile.FieldType.int)) ∈ xTB := xmem 658 (by decide +kernel) (by decide +kernel)
set_option maxRecDepth 20000 in
theorem w_659 : (Jvm.Cond.methodLink "TaskTurnsModel" (146 : Nat) ({ cls := "TaskTurnsModel", name := "boxAct", desc := "(IIII)I" } : Jvm.MethodName)) ∈ xTB := xmem 659 (by decide +kernel) (by decide +kernel)
set_option maxRecDepth 20000 in
theorem w_661 : (Jvm.Cond.instanceMethod ({ cls := "TaskTurnsModel", name := "boxAct", desc := "(IIII)I" } : Jvm.MethodName)) ∈ xTB := xmem 661 (by decide +kernel) (by decide +kernel)
set_option maxRecDepth 20000 in
theorem w_662 : (Jvm.Cond.code ({ cls := "TaskTurnsModel", name := "boxAct", desc := "(IIII)I" } : Jvm.MethodName) prog_9_method_13_code (7 : Nat) (Option.some Jvm.ClassFile.FieldType.int)) ∈ xTB := xmem 662 (by decide +kernel) (by decide +kernel)
set_option maxRecDepth 20000 in
theorem w_663 : (Jvm.Cond.methodLink "TaskTurnsModel" (168 : Nat) ({ cls := "TaskTurnsModel", name := "fails", desc := "(II)V" } : Jvm.MethodName)) ∈ xTB := xmem 663 (by decide +kernel) (by decide +kernel)
set_option maxRecDepth 20000 in
theorem w_665 : (Jvm.Cond.instanceMethod ({ cls := "TaskTurnsModel", name := "fails", desc := "(II)V" } : Jvm.MethodName)) ∈ xTB := xmem 665 (by decide +kernel) (by decide +kernel)
set_option maxRecDepth 20000 in
theorem w_666 : (Jvm.Cond.code ({ cls := "TaskTurnsModel", name := "fails", desc := "(II)V" } : Jvm.MethodName) prog_9_method_17_code (4 : Nat) (Option.none : Option Jvm.ClassFile.FieldType)) ∈ xTB := xmem 666 (by decide +kernel) (by decide +kernel)
set_option maxRecDepth 20000 in
theorem w_667 : (Jvm.Cond.methodLink "TaskTurnsModel" (162 : Nat) ({ cls := "TaskTurnsModel", name := "back", desc := "(I)V" } : Jvm.MethodName)) ∈ xTB := xmem 667 (by decide +kernel) (by decide +kernel)
set_option maxRecDepth 20000 in
theorem w_669 : (Jvm.Cond.instanceMethod ({ cls := "TaskTurnsModel", name := "back", desc := "(I)V" } : Jvm.MethodName)) ∈ xTB := xmem 669 (by decide +kernel) (by decide +kernel)
set_option maxRecDepth 20000 in
theorem w_670 : (Jvm.Cond.code ({ cls := "TaskTurnsModel", name := "back", desc := "(I)V" } : Jvm.MethodName) prog_9_method_12_code (3 : Nat) (Option.none : Option Jvm.ClassFile.FieldType)) ∈ xTB := xmem 670 (by decide +kernel) (by decide +kernel)
set_option maxRecDepth 20000 in
theorem w_671 : (Jvm.Cond.methodLink "TaskTurnsModel" (181 : Nat) ({ cls := "TaskTurnsModel", name := "maybeDone", desc := "(I)V" } : Jvm.MethodName)) ∈ xTB := xmem 671 (by decide +kernel) (by decide +kernel)
set_option maxRecDepth 20000 in
theorem w_673 : (Jvm.Cond.instanceMethod ({ cls := "TaskTurnsModel", name := "maybeDone", desc := "(I)V" } : Jvm.MethodName)) ∈ xTB := xmem 673 (by decide +kernel) (by decide +kernel)
set_option maxRecDepth 20000 in
theorem w_674 : (Jvm.Cond.code ({ cls := "TaskTurnsModel", name := "maybeDone", desc := "(I)V" } : Jvm.MethodName) prog_9_method_19_code (2 : Nat) (Option.none : Option Jvm.ClassFile.FieldType)) ∈ xTB := xmem 674 (by decide +kernel) (by decide +kernel)
end
section
def k_X0_init_0 (b0 : Nat) : xK := oALd 0 <| oObj <| oALd 0 <| oCst (16) <| oNewI b0 <| oPutR b0 0 0 <| oALd 0 <| oCst (16) <| oNewI b0 <| oPutR b0 0 1 <| oALd 0 <| oCst (16) <| oNewI b0 <| oPutR b0 0 2 <| oRetV
def f_X0_init (b0 : Nat) : List xV → xH → xR := xfun 1 1 (k_X0_init_0 b0)
def k_X0_append_0 (b0 : Nat) : xK := oALd 0 <| oGetI b0 0 3 <| oCst (16) <| oC2lt (oALd 0 <| oGetI b0 0 3 <| oISt 4 <| oALd 0 <| oGetR b0 0 0 <| oILd 4 <| oILd 1 <| oIas b0 <| oALd 0 <| oGetR b0 0 1 <| oILd 4 <| oILd 2 <| oIas b0 <| oALd 0 <| oGetR b0 0 2 <| oILd 4 <| oILd 3 <| oIas b0 <| oALd 0 <| oDup <| oGetI b0 0 3 <| oCst (1) <| oAdd <| oPutI b0 0 3 <| oILd 4 <| oRetI) <| oCst (-3) <| oRetI
def f_X0_append (b0 : Nat) : List xV → xH → xR := xfun 4 5 (k_X0_append_0 b0)
def k_X1_init_0 (b0 : Nat) : xK := oALd 0 <| oObj <| oALd 0 <| oCst (3) <| oNewI b0 <| oPutR b0 1 0 <| oALd 0 <| oCst (-4) <| oPutI b0 1 1 <| oRetV
def f_X1_init (b0 : Nat) : List xV → xH → xR := xfun 1 1 (k_X1_init_0 b0)
def k_X1_isNothing_0 (b0 : Nat) : xK := oALd 0 <| oGetI b0 1 1 <| oCst (-4) <| oC2ne (oCst (0) <| oRetZ) <| oCst (1) <| oRetZ
def f_X1_isNothing (b0 : Nat) : List xV → xH → xR := xfun 1 1 (k_X1_isNothing_0 b0)
def k_X1_has_0 (b0 : Nat) : xK := oALd 0 <| oGetI b0 1 1 <| oCst (-4) <| oC2eq (oCst (0) <| oRetZ) <| oILd 1 <| oC1lt (oCst (0) <| oRetZ) <| oILd 1 <| oCst (3) <| oC2ge (oCst (0) <| oRetZ) <| oCst (1) <| oRetZ
def f_X1_has (b0 : Nat) : List xV → xH → xR := xfun 2 2 (k_X1_has_0 b0)
def k_X1_renew_10 (b0 : Nat) (k : Nat → xK) : xK := oILd 1 <| oPutI b0 1 1 <| oCst (0) <| oISt 2 <| k 0
def k_X1_renew_0 (b0 : Nat) (k : Nat → xK) : xK := oALd 0 <| oILd 1 <| oC1eq (k_X1_renew_10 b0 k) <| oILd 1 <| oCst (1) <| oC2ne (oCst (-4) <| oPutI b0 1 1 <| oCst (0) <| oISt 2 <| k 0) <| k_X1_renew_10 b0 k
def k_X1_renew_21 (b0 : Nat) (k : Nat → xK) : xK := oILd 2 <| oCst (3) <| oC2ge (oRetV) <| oALd 0 <| oGetR b0 1 0 <| oILd 2 <| oALd 0 <| oGetI b0 1 1 <| oCst (1) <| oC2ne (oCst (0) <| oIas b0 <| oInc 2 (1) <| k 0) <| oCst (-4) <| oIas b0 <| oInc 2 (1) <| k 0
def r_X1_renew (b0 : Nat) : Nat → Nat → xK
  | 0, _ => fun _ _ _ => none
  | n + 1, i => match i with
    | 0 => k_X1_renew_21 b0 (r_X1_renew b0 n)
    | _ => fun _ _ _ => none
def f_X1_renew (b0 : Nat) : List xV → xH → xR := xfun 2 3 (k_X1_renew_0 b0 (r_X1_renew b0 64))
def k_X1_lookAt_19 (b0 : Nat) : xK := oALd 0 <| oGetI b0 1 1 <| oCst (-4) <| oC2ne (oILd 2 <| oC1lt (oCst (2) <| oRetI) <| oILd 2 <| oCst (3) <| oC2ge (oCst (2) <| oRetI) <| oCst (0) <| oRetI) <| oCst (1) <| oRetI
def k_X1_lookAt_0 (b0 : Nat) : xK := oALd 0 <| oGetI b0 1 1 <| oILd 1 <| oC2eq (k_X1_lookAt_19 b0) <| oALd 0 <| oGetI b0 1 1 <| oCst (-4) <| oC2eq (k_X1_lookAt_19 b0) <| oCst (4) <| oRetI
def f_X1_lookAt (b0 : Nat) : List xV → xH → xR := xfun 3 3 (k_X1_lookAt_0 b0)
def k_X1_put_0 (b0 : Nat) : xK := oALd 0 <| oILd 1 <| oILd 2 <| oCallV b0 2 1 (f_X1_lookAt b0) <| oISt 4 <| oILd 4 <| oC1ne (oILd 4 <| oRetI) <| oALd 0 <| oGetR b0 1 0 <| oILd 2 <| oILd 3 <| oIas b0 <| oILd 4 <| oRetI
def f_X1_put (b0 : Nat) : List xV → xH → xR := xfun 4 5 (k_X1_put_0 b0)
def k_X2_init_0 (b0 : Nat) : xK := oALd 0 <| oObj <| oALd 0 <| oCst (6) <| oNewI b0 <| oPutR b0 2 0 <| oRetV
def f_X2_init (b0 : Nat) : List xV → xH → xR := xfun 1 1 (k_X2_init_0 b0)
def k_X2_isFull_0 (b0 : Nat) : xK := oALd 0 <| oGetI b0 2 1 <| oCst (6) <| oC2lt (oCst (0) <| oRetZ) <| oCst (1) <| oRetZ
def f_X2_isFull (b0 : Nat) : List xV → xH → xR := xfun 1 1 (k_X2_isFull_0 b0)
def k_X2_has_0 (b0 : Nat) : xK := oILd 1 <| oC1lt (oCst (0) <| oRetZ) <| oILd 1 <| oALd 0 <| oGetI b0 2 1 <| oC2ge (oCst (0) <| oRetZ) <| oCst (1) <| oRetZ
def f_X2_has (b0 : Nat) : List xV → xH → xR := xfun 2 2 (k_X2_has_0 b0)
def k_X2_append_0 (b0 : Nat) : xK := oALd 0 <| oGetI b0 2 1 <| oCst (6) <| oC2ge (oRetV) <| oALd 0 <| oGetR b0 2 0 <| oALd 0 <| oGetI b0 2 1 <| oILd 1 <| oIas b0 <| oALd 0 <| oDup <| oGetI b0 2 1 <| oCst (1) <| oAdd <| oPutI b0 2 1 <| oRetV
def f_X2_append (b0 : Nat) : List xV → xH → xR := xfun 2 2 (k_X2_append_0 b0)
def k_X2_removeEldest_0 (b0 : Nat) (k : Nat → xK) : xK := oALd 0 <| oGetI b0 2 1 <| oC1gt (oALd 0 <| oGetR b0 2 0 <| oCst (0) <| oIal b0 <| oISt 1 <| oALd 0 <| oDup <| oGetI b0 2 1 <| oCst (1) <| oSub <| oPutI b0 2 1 <| oCst (0) <| oISt 2 <| k 0) <| oCst (0) <| oRetI
def k_X2_removeEldest_28 (b0 : Nat) (k : Nat → xK) : xK := oILd 2 <| oALd 0 <| oGetI b0 2 1 <| oC2ge (oILd 1 <| oRetI) <| oALd 0 <| oGetR b0 2 0 <| oILd 2 <| oALd 0 <| oGetR b0 2 0 <| oILd 2 <| oCst (1) <| oAdd <| oIal b0 <| oIas b0 <| oInc 2 (1) <| k 0
def r_X2_removeEldest (b0 : Nat) : Nat → Nat → xK
  | 0, _ => fun _ _ _ => none
  | n + 1, i => match i with
    | 0 => k_X2_removeEldest_28 b0 (r_X2_removeEldest b0 n)
    | _ => fun _ _ _ => none
def f_X2_removeEldest (b0 : Nat) : List xV → xH → xR := xfun 1 3 (k_X2_removeEldest_0 b0 (r_X2_removeEldest b0 64))
def k_X4_init_0 (b0 : Nat) : xK := oALd 0 <| oObj <| oALd 0 <| oCst (40) <| oNewI b0 <| oPutR b0 4 0 <| oALd 0 <| oCst (-4) <| oPutI b0 4 1 <| oRetV
def f_X4_init (b0 : Nat) : List xV → xH → xR := xfun 1 1 (k_X4_init_0 b0)
def k_X3_init_0 (b0 : Nat) : xK := oALd 0 <| oObj <| oALd 0 <| oNew b0 4 n_X4 <| oDup <| oCallI 0 (f_X4_init b0) <| oPutR b0 3 0 <| oRetV
def f_X3_init (b0 : Nat) : List xV → xH → xR := xfun 1 1 (k_X3_init_0 b0)
def k_X4_isNothing_0 (b0 : Nat) : xK := oALd 0 <| oGetI b0 4 1 <| oCst (-4) <| oC2ne (oCst (0) <| oRetZ) <| oCst (1) <| oRetZ
def f_X4_isNothing (b0 : Nat) : List xV → xH → xR := xfun 1 1 (k_X4_isNothing_0 b0)
def k_X4_has_0 (b0 : Nat) : xK := oILd 1 <| oC1lt (oCst (0) <| oRetZ) <| oILd 1 <| oALd 0 <| oGetI b0 4 1 <| oC2ge (oCst (0) <| oRetZ) <| oILd 1 <| oCst (40) <| oC2ge (oCst (0) <| oRetZ) <| oCst (1) <| oRetZ
def f_X4_has (b0 : Nat) : List xV → xH → xR := xfun 2 2 (k_X4_has_0 b0)
def k_X4_renew_0 (b0 : Nat) (k : Nat → xK) : xK := oCst (0) <| oISt 2 <| k 0
def k_X4_renew_2 (b0 : Nat) (k : Nat → xK) : xK := oILd 2 <| oCst (40) <| oC2ge (oALd 0 <| oILd 1 <| oPutI b0 4 1 <| oRetV) <| oALd 0 <| oGetR b0 4 0 <| oILd 2 <| oCst (0) <| oIas b0 <| oInc 2 (1) <| k 0
def r_X4_renew (b0 : Nat) : Nat → Nat → xK
  | 0, _ => fun _ _ _ => none
  | n + 1, i => match i with
    | 0 => k_X4_renew_2 b0 (r_X4_renew b0 n)
    | _ => fun _ _ _ => none
def f_X4_renew (b0 : Nat) : List xV → xH → xR := xfun 2 3 (k_X4_renew_0 b0 (r_X4_renew b0 64))
def k_X4_copyFrom_0 (b0 : Nat) (k : Nat → xK) : xK := oCst (0) <| oISt 2 <| k 0
def k_X4_copyFrom_2 (b0 : Nat) (k : Nat → xK) : xK := oILd 2 <| oCst (40) <| oC2ge (oALd 0 <| oALd 1 <| oGetI b0 4 1 <| oPutI b0 4 1 <| oRetV) <| oALd 0 <| oGetR b0 4 0 <| oILd 2 <| oALd 1 <| oGetR b0 4 0 <| oILd 2 <| oIal b0 <| oIas b0 <| oInc 2 (1) <| k 0
def r_X4_copyFrom (b0 : Nat) : Nat → Nat → xK
  | 0, _ => fun _ _ _ => none
  | n + 1, i => match i with
    | 0 => k_X4_copyFrom_2 b0 (r_X4_copyFrom b0 n)
    | _ => fun _ _ _ => none
def f_X4_copyFrom (b0 : Nat) : List xV → xH → xR := xfun 2 3 (k_X4_copyFrom_0 b0 (r_X4_copyFrom b0 64))
def k_X5_init_0 (b0 : Nat) : xK := oALd 0 <| oObj <| oALd 0 <| oILd 1 <| oPutI b0 5 0 <| oALd 0 <| oILd 2 <| oPutI b0 5 1 <| oALd 0 <| oILd 3 <| oPutI b0 5 2 <| oALd 0 <| oNew b0 0 n_X0 <| oDup <| oCallI 0 (f_X0_init b0) <| oPutR b0 5 3 <| oALd 0 <| oNew b0 2 n_X2 <| oDup <| oCallI 0 (f_X2_init b0) <| oPutR b0 5 4 <| oALd 0 <| oNew b0 4 n_X4 <| oDup <| oCallI 0 (f_X4_init b0) <| oPutR b0 5 5 <| oALd 0 <| oNew b0 1 n_X1 <| oDup <| oCallI 0 (f_X1_init b0) <| oPutR b0 5 6 <| oALd 0 <| oNew b0 3 n_X3 <| oDup <| oCallI 0 (f_X3_init b0) <| oPutR b0 5 7 <| oALd 0 <| oCst (0) <| oPutI b0 5 8 <| oALd 0 <| oCst (0) <| oPutI b0 5 16 <| oALd 0 <| oCst (-4) <| oPutI b0 5 17 <| oRetV
def f_X5_init (b0 : Nat) : List xV → xH → xR := xfun 4 4 (k_X5_init_0 b0)
def k_X5_isOver_0 (b0 : Nat) : xK := oALd 0 <| oGetI b0 5 8 <| oCst (3) <| oC2eq (oCst (1) <| oRetZ) <| oALd 0 <| oGetI b0 5 8 <| oCst (4) <| oC2eq (oCst (1) <| oRetZ) <| oALd 0 <| oGetI b0 5 8 <| oCst (5) <| oC2ne (oCst (0) <| oRetZ) <| oCst (1) <| oRetZ
def f_X5_isOver (b0 : Nat) : List xV → xH → xR := xfun 1 1 (k_X5_isOver_0 b0)
def k_X5_isReadyIn_0 (b0 : Nat) : xK := oALd 0 <| oGetI b0 5 8 <| oC1ne (oCst (0) <| oRetZ) <| oALd 0 <| oGetI b0 5 13 <| oILd 1 <| oC2eq (oCst (0) <| oRetZ) <| oCst (1) <| oRetZ
def f_X5_isReadyIn (b0 : Nat) : List xV → xH → xR := xfun 2 2 (k_X5_isReadyIn_0 b0)
def k_X5_tell_60 (b0 : Nat) : xK := oALd 0 <| oGetI b0 5 8 <| oRetI
def k_X5_tell_67 (b0 : Nat) : xK := oALd 0 <| oGetI b0 5 10 <| oRetI
def k_X5_tell_74 (b0 : Nat) : xK := oALd 0 <| oGetI b0 5 11 <| oRetI
def k_X5_tell_81 (b0 : Nat) : xK := oALd 0 <| oGetR b0 5 4 <| oGetI b0 2 1 <| oRetI
def k_X5_tell_91 (b0 : Nat) : xK := oALd 0 <| oGetI b0 5 9 <| oRetI
def k_X5_tell_98 (b0 : Nat) : xK := oALd 0 <| oGetI b0 5 15 <| oRetI
def k_X5_tell_105 (b0 : Nat) : xK := oALd 0 <| oGetI b0 5 16 <| oRetI
def k_X5_tell_112 (b0 : Nat) : xK := oALd 0 <| oGetR b0 5 5 <| oGetI b0 4 1 <| oRetI
def k_X5_tell_122 (b0 : Nat) : xK := oALd 0 <| oGetR b0 5 6 <| oGetI b0 1 1 <| oRetI
def k_X5_tell_132 (b0 : Nat) : xK := oALd 0 <| oGetI b0 5 18 <| oRetI
def k_X5_tell_139 (b0 : Nat) : xK := oALd 0 <| oGetI b0 5 17 <| oRetI
def k_X5_tell_146 (b0 : Nat) : xK := oCst (-1) <| oRetI
def sw_X5_tell_1 (b0 : Nat) : Nat → xK
  | 0 => k_X5_tell_60 b0
  | 1 => k_X5_tell_67 b0
  | 2 => k_X5_tell_74 b0
  | 3 => k_X5_tell_81 b0
  | 4 => k_X5_tell_91 b0
  | 5 => k_X5_tell_98 b0
  | 6 => k_X5_tell_105 b0
  | 7 => k_X5_tell_112 b0
  | 8 => k_X5_tell_122 b0
  | 9 => k_X5_tell_132 b0
  | 10 => k_X5_tell_139 b0
  | _ => k_X5_tell_146 b0
def st_X5_tell_1 : Nat → Nat
  | 0 => 60
  | 1 => 67
  | 2 => 74
  | 3 => 81
  | 4 => 91
  | 5 => 98
  | 6 => 105
  | 7 => 112
  | 8 => 122
  | 9 => 132
  | 10 => 139
  | _ => 0
def k_X5_tell_0 (b0 : Nat) : xK := oILd 1 <| oTab 11 (sw_X5_tell_1 b0) (k_X5_tell_146 b0)
def f_X5_tell (b0 : Nat) : List xV → xH → xR := xfun 2 2 (k_X5_tell_0 b0)
def k_X5_wake_54 (b0 : Nat) : xK := oALd 0 <| oCst (0) <| oPutI b0 5 8 <| oRetV
def k_X5_wake_28 (b0 : Nat) : xK := oALd 0 <| oGetI b0 5 8 <| oCst (1) <| oC2eq (k_X5_wake_54 b0) <| oALd 0 <| oGetI b0 5 8 <| oCst (2) <| oC2ne (oRetV) <| oALd 0 <| oGetR b0 5 4 <| oGetI b0 2 1 <| oC1le (oRetV) <| k_X5_wake_54 b0
def k_X5_wake_0 (b0 : Nat) : xK := oALd 0 <| oGetI b0 5 8 <| oCst (1) <| oC2ne (k_X5_wake_28 b0) <| oALd 0 <| oGetI b0 5 12 <| oC1le (k_X5_wake_28 b0) <| oALd 0 <| oDup <| oGetI b0 5 12 <| oCst (1) <| oSub <| oPutI b0 5 12 <| oRetV
def f_X5_wake (b0 : Nat) : List xV → xH → xR := xfun 1 1 (k_X5_wake_0 b0)
def k_X5_backsAllowed_0 (b0 : Nat) : xK := oALd 0 <| oGetI b0 5 1 <| oCst (3) <| oC2ne (oALd 0 <| oGetI b0 5 1 <| oCst (4) <| oC2ne (oCst (0) <| oRetI) <| oCst (5) <| oRetI) <| oCst (3) <| oRetI
def f_X5_backsAllowed (b0 : Nat) : List xV → xH → xR := xfun 1 1 (k_X5_backsAllowed_0 b0)
def k_X5_goBack_0 (b0 : Nat) : xK := oALd 0 <| oALd 0 <| oGetR b0 5 7 <| oGetI b0 3 1 <| oPutI b0 5 10 <| oALd 0 <| oGetR b0 5 5 <| oALd 0 <| oGetR b0 5 7 <| oGetR b0 3 0 <| oCallV b0 1 4 (f_X4_copyFrom b0) <| oALd 0 <| oALd 0 <| oGetR b0 5 7 <| oGetI b0 3 2 <| oPutI b0 5 11 <| oRetV
def f_X5_goBack (b0 : Nat) : List xV → xH → xR := xfun 1 1 (k_X5_goBack_0 b0)
def k_X5_fail_0 (b0 : Nat) : xK := oALd 0 <| oDup <| oGetI b0 5 15 <| oCst (1) <| oAdd <| oPutI b0 5 15 <| oALd 0 <| oILd 1 <| oPutI b0 5 16 <| oALd 0 <| oALd 0 <| oGetI b0 5 11 <| oPutI b0 5 17 <| oALd 0 <| oGetI b0 5 1 <| oCst (2) <| oC2ge (oALd 0 <| oGetI b0 5 18 <| oALd 0 <| oCallV b0 0 5 (f_X5_backsAllowed b0) <| oC2ge (oALd 0 <| oDup <| oGetI b0 5 11 <| oCst (1) <| oAdd <| oPutI b0 5 11 <| oRetV) <| oALd 0 <| oDup <| oGetI b0 5 18 <| oCst (1) <| oAdd <| oPutI b0 5 18 <| oALd 0 <| oCallV b0 0 5 (f_X5_goBack b0) <| oRetV) <| oALd 0 <| oCst (4) <| oPutI b0 5 8 <| oRetV
def f_X5_fail (b0 : Nat) : List xV → xH → xR := xfun 2 2 (k_X5_fail_0 b0)
def k_X5_setMark_0 (b0 : Nat) : xK := oALd 0 <| oGetR b0 5 7 <| oALd 0 <| oGetI b0 5 10 <| oPutI b0 3 1 <| oALd 0 <| oGetR b0 5 7 <| oGetR b0 3 0 <| oALd 0 <| oGetR b0 5 5 <| oCallV b0 1 4 (f_X4_copyFrom b0) <| oALd 0 <| oGetR b0 5 7 <| oALd 0 <| oGetI b0 5 11 <| oCst (1) <| oAdd <| oPutI b0 3 2 <| oCst (0) <| oRetI
def f_X5_setMark (b0 : Nat) : List xV → xH → xR := xfun 1 1 (k_X5_setMark_0 b0)
def k_X5_add_28 (b0 : Nat) : xK := oAdd <| oPutI b0 5 10 <| oCst (0) <| oRetI
def k_X5_add_21 (b0 : Nat) : xK := oCst (2) <| oILd 1 <| oMul <| k_X5_add_28 b0
def k_X5_add_0 (b0 : Nat) : xK := oALd 0 <| oDup <| oGetI b0 5 10 <| oALd 0 <| oGetI b0 5 1 <| oCst (1) <| oC2eq (k_X5_add_21 b0) <| oALd 0 <| oGetI b0 5 1 <| oCst (4) <| oC2ne (oILd 1 <| k_X5_add_28 b0) <| k_X5_add_21 b0
def f_X5_add (b0 : Nat) : List xV → xH → xR := xfun 2 2 (k_X5_add_0 b0)
def k_X5_divide_0 (b0 : Nat) : xK := oILd 1 <| oC1ne (oALd 0 <| oDup <| oGetI b0 5 10 <| oILd 1 <| oDiv <| oPutI b0 5 10 <| oCst (0) <| oRetI) <| oCst (6) <| oRetI
def f_X5_divide (b0 : Nat) : List xV → xH → xR := xfun 2 2 (k_X5_divide_0 b0)
def k_X5_makeRow_0 (b0 : Nat) : xK := oILd 1 <| oC1ge (oALd 0 <| oGetR b0 5 5 <| oILd 1 <| oCallV b0 1 4 (f_X4_renew b0) <| oCst (0) <| oRetI) <| oCst (5) <| oRetI
def f_X5_makeRow (b0 : Nat) : List xV → xH → xR := xfun 2 2 (k_X5_makeRow_0 b0)
def k_X5_put_0 (b0 : Nat) : xK := oALd 0 <| oGetR b0 5 5 <| oILd 1 <| oCallV b0 1 4 (f_X4_has b0) <| oC1eq (oALd 0 <| oGetR b0 5 5 <| oCallV b0 0 4 (f_X4_isNothing b0) <| oC1eq (oCst (2) <| oRetI) <| oCst (1) <| oRetI) <| oALd 0 <| oGetR b0 5 5 <| oGetR b0 4 0 <| oILd 1 <| oALd 0 <| oGetI b0 5 10 <| oIas b0 <| oCst (0) <| oRetI
def f_X5_put (b0 : Nat) : List xV → xH → xR := xfun 2 2 (k_X5_put_0 b0)
def k_X5_get_0 (b0 : Nat) : xK := oALd 0 <| oGetR b0 5 5 <| oILd 1 <| oCallV b0 1 4 (f_X4_has b0) <| oC1eq (oALd 0 <| oGetR b0 5 5 <| oCallV b0 0 4 (f_X4_isNothing b0) <| oC1eq (oCst (2) <| oRetI) <| oCst (1) <| oRetI) <| oALd 0 <| oDup <| oGetI b0 5 10 <| oALd 0 <| oGetR b0 5 5 <| oGetR b0 4 0 <| oILd 1 <| oIal b0 <| oAdd <| oPutI b0 5 10 <| oCst (0) <| oRetI
def f_X5_get (b0 : Nat) : List xV → xH → xR := xfun 2 2 (k_X5_get_0 b0)
def k_X5_takeLetter_0 (b0 : Nat) : xK := oALd 0 <| oGetR b0 5 4 <| oGetI b0 2 1 <| oC1le (oILd 1 <| oC1eq (oALd 0 <| oCst (2) <| oPutI b0 5 8 <| oCst (0) <| oRetI) <| oCst (9) <| oRetI) <| oALd 0 <| oDup <| oGetI b0 5 10 <| oALd 0 <| oGetR b0 5 4 <| oCallV b0 0 2 (f_X2_removeEldest b0) <| oAdd <| oPutI b0 5 10 <| oCst (0) <| oRetI
def f_X5_takeLetter (b0 : Nat) : List xV → xH → xR := xfun 2 2 (k_X5_takeLetter_0 b0)
def k_X5_waitFor_0 (b0 : Nat) : xK := oILd 1 <| oC1le (oCst (0) <| oRetI) <| oALd 0 <| oILd 1 <| oPutI b0 5 12 <| oCst (0) <| oRetI
def f_X5_waitFor (b0 : Nat) : List xV → xH → xR := xfun 2 2 (k_X5_waitFor_0 b0)
def k_X5_makeBox_0 (b0 : Nat) : xK := oALd 0 <| oGetR b0 5 6 <| oILd 1 <| oCallV b0 1 1 (f_X1_renew b0) <| oCst (0) <| oRetI
def f_X5_makeBox (b0 : Nat) : List xV → xH → xR := xfun 2 2 (k_X5_makeBox_0 b0)
def k_X5_copyToBox_0 (b0 : Nat) (k : Nat → xK) : xK := oALd 0 <| oGetR b0 5 5 <| oCallV b0 0 4 (f_X4_isNothing b0) <| oC1ne (oCst (1) <| oRetI) <| oALd 0 <| oGetR b0 5 6 <| oCallV b0 0 1 (f_X1_isNothing b0) <| oC1eq (oALd 0 <| oGetR b0 5 6 <| oGetI b0 1 1 <| oC1eq (oILd 1 <| oC1lt (oCst (2) <| oRetI) <| oILd 1 <| oALd 0 <| oGetR b0 5 5 <| oGetI b0 4 1 <| oC2gt (oCst (2) <| oRetI) <| oILd 1 <| oCst (3) <| oC2le (oCst (0) <| oISt 2 <| k 0) <| oCst (2) <| oRetI) <| oCst (3) <| oRetI) <| oCst (1) <| oRetI
def k_X5_copyToBox_58 (b0 : Nat) (k : Nat → xK) : xK := oILd 2 <| oILd 1 <| oC2ge (oCst (0) <| oRetI) <| oALd 0 <| oGetR b0 5 6 <| oGetR b0 1 0 <| oILd 2 <| oALd 0 <| oGetR b0 5 5 <| oGetR b0 4 0 <| oILd 2 <| oIal b0 <| oIas b0 <| oInc 2 (1) <| k 0
def r_X5_copyToBox (b0 : Nat) : Nat → Nat → xK
  | 0, _ => fun _ _ _ => none
  | n + 1, i => match i with
    | 0 => k_X5_copyToBox_58 b0 (r_X5_copyToBox b0 n)
    | _ => fun _ _ _ => none
def f_X5_copyToBox (b0 : Nat) : List xV → xH → xR := xfun 2 3 (k_X5_copyToBox_0 b0 (r_X5_copyToBox b0 64))
def k_X6_init_0 (b0 : Nat) : xK := oALd 0 <| oObj <| oALd 0 <| oCst (12) <| oNewQ b0 <| oPutR b0 6 0 <| oALd 0 <| oCst (12) <| oNewI b0 <| oPutR b0 6 1 <| oALd 0 <| oCst (1) <| oPutI b0 6 4 <| oRetV
def f_X6_init (b0 : Nat) : List xV → xH → xR := xfun 1 1 (k_X6_init_0 b0)
def k_X6_task_0 (b0 : Nat) : xK := oILd 1 <| oC1lt (oCst (-1) <| oRetI) <| oILd 1 <| oCst (4) <| oC2gt (oCst (-1) <| oRetI) <| oILd 2 <| oC1lt (oCst (-1) <| oRetI) <| oILd 2 <| oCst (9) <| oC2le (oALd 0 <| oGetI b0 6 2 <| oALd 0 <| oGetR b0 6 0 <| oLen b0 <| oC2lt (oALd 0 <| oGetI b0 6 2 <| oISt 3 <| oALd 0 <| oGetR b0 6 0 <| oILd 3 <| oNew b0 5 n_X5 <| oDup <| oILd 3 <| oILd 1 <| oILd 2 <| oCallI 3 (f_X5_init b0) <| oQas b0 5 <| oALd 0 <| oDup <| oGetI b0 6 2 <| oCst (1) <| oAdd <| oPutI b0 6 2 <| oILd 3 <| oRetI) <| oCst (-3) <| oRetI) <| oCst (-1) <| oRetI
def f_X6_task (b0 : Nat) : List xV → xH → xR := xfun 3 4 (k_X6_task_0 b0)
def k_X6_find_0 (b0 : Nat) : xK := oILd 1 <| oC1lt (oNul <| oRetR) <| oILd 1 <| oALd 0 <| oGetR b0 6 0 <| oLen b0 <| oC2ge (oNul <| oRetR) <| oALd 0 <| oGetR b0 6 0 <| oILd 1 <| oQal b0 <| oRetR
def f_X6_find (b0 : Nat) : List xV → xH → xR := xfun 2 2 (k_X6_find_0 b0)
def k_X6_act_35 (b0 : Nat) : xK := oALd 5 <| oGetI b0 5 8 <| oC1ne (oCst (-2) <| oRetI) <| oALd 5 <| oGetI b0 5 14 <| oC1eq (oALd 5 <| oGetR b0 5 3 <| oILd 2 <| oILd 3 <| oILd 4 <| oCallV b0 3 0 (f_X0_append b0) <| oRetI) <| oCst (-2) <| oRetI
def k_X6_act_0 (b0 : Nat) : xK := oALd 0 <| oILd 1 <| oCallV b0 1 6 (f_X6_find b0) <| oASt 5 <| oALd 5 <| oCnull (oCst (-1) <| oRetI) <| oILd 2 <| oC1lt (oCst (-1) <| oRetI) <| oILd 2 <| oCst (15) <| oC2gt (oCst (-1) <| oRetI) <| oILd 2 <| oCst (2) <| oC2ne (k_X6_act_35 b0) <| oILd 3 <| oCst (40) <| oC2le (k_X6_act_35 b0) <| oCst (-1) <| oRetI
def f_X6_act (b0 : Nat) : List xV → xH → xR := xfun 5 6 (k_X6_act_0 b0)
def k_X6_workers_0 (b0 : Nat) : xK := oILd 1 <| oCst (1) <| oC2lt (oCst (-1) <| oRetI) <| oILd 1 <| oCst (4) <| oC2le (oALd 0 <| oGetI b0 6 4 <| oISt 2 <| oALd 0 <| oILd 1 <| oPutI b0 6 4 <| oILd 2 <| oRetI) <| oCst (-1) <| oRetI
def f_X6_workers (b0 : Nat) : List xV → xH → xR := xfun 2 3 (k_X6_workers_0 b0)
def k_X6_wakeTasks_0 (b0 : Nat) (k : Nat → xK) : xK := oCst (0) <| oISt 1 <| k 0
def k_X6_wakeTasks_2 (b0 : Nat) (k : Nat → xK) : xK := oILd 1 <| oALd 0 <| oGetR b0 6 0 <| oLen b0 <| oC2ge (oRetV) <| oALd 0 <| oGetR b0 6 0 <| oILd 1 <| oQal b0 <| oASt 2 <| oALd 2 <| oCnull (oInc 1 (1) <| k 0) <| oALd 2 <| oCallV b0 0 5 (f_X5_wake b0) <| oInc 1 (1) <| k 0
def r_X6_wakeTasks (b0 : Nat) : Nat → Nat → xK
  | 0, _ => fun _ _ _ => none
  | n + 1, i => match i with
    | 0 => k_X6_wakeTasks_2 b0 (r_X6_wakeTasks b0 n)
    | _ => fun _ _ _ => none
def f_X6_wakeTasks (b0 : Nat) : List xV → xH → xR := xfun 1 3 (k_X6_wakeTasks_0 b0 (r_X6_wakeTasks b0 64))
def k_X6_findNextToWork_0 (b0 : Nat) (k : Nat → xK) : xK := oNul <| oASt 1 <| oCst (0) <| oISt 2 <| k 0
def k_X6_findNextToWork_60 (b0 : Nat) (k : Nat → xK) : xK := oALd 3 <| oASt 1 <| oInc 2 (1) <| k 0
def k_X6_findNextToWork_4 (b0 : Nat) (k : Nat → xK) : xK := oILd 2 <| oALd 0 <| oGetR b0 6 0 <| oLen b0 <| oC2ge (oALd 1 <| oRetR) <| oALd 0 <| oGetR b0 6 0 <| oILd 2 <| oQal b0 <| oASt 3 <| oALd 3 <| oCnull (oInc 2 (1) <| k 0) <| oALd 3 <| oALd 0 <| oGetI b0 6 5 <| oCallV b0 1 5 (f_X5_isReadyIn b0) <| oC1eq (oInc 2 (1) <| k 0) <| oALd 1 <| oCnull (k_X6_findNextToWork_60 b0 k) <| oALd 3 <| oGetI b0 5 2 <| oALd 3 <| oGetI b0 5 9 <| oAdd <| oALd 1 <| oGetI b0 5 2 <| oALd 1 <| oGetI b0 5 9 <| oAdd <| oC2le (oInc 2 (1) <| k 0) <| k_X6_findNextToWork_60 b0 k
def r_X6_findNextToWork (b0 : Nat) : Nat → Nat → xK
  | 0, _ => fun _ _ _ => none
  | n + 1, i => match i with
    | 0 => k_X6_findNextToWork_4 b0 (r_X6_findNextToWork b0 n)
    | _ => fun _ _ _ => none
def f_X6_findNextToWork (b0 : Nat) : List xV → xH → xR := xfun 1 4 (k_X6_findNextToWork_0 b0 (r_X6_findNextToWork b0 64))
def k_X6_send_0 (b0 : Nat) : xK := oALd 0 <| oILd 2 <| oCallV b0 1 6 (f_X6_find b0) <| oASt 3 <| oALd 3 <| oCnonnull (oALd 3 <| oCallV b0 0 5 (f_X5_isOver b0) <| oC1eq (oALd 3 <| oGetR b0 5 4 <| oCallV b0 0 2 (f_X2_isFull b0) <| oC1eq (oALd 3 <| oGetR b0 5 4 <| oILd 1 <| oCallV b0 1 2 (f_X2_append b0) <| oCst (0) <| oRetI) <| oCst (7) <| oRetI) <| oALd 0 <| oDup <| oGetI b0 6 7 <| oCst (1) <| oAdd <| oPutI b0 6 7 <| oCst (0) <| oRetI) <| oCst (2) <| oRetI
def f_X6_send (b0 : Nat) : List xV → xH → xR := xfun 3 4 (k_X6_send_0 b0)
def k_X6_ask_0 (b0 : Nat) : xK := oALd 1 <| oGetR b0 5 6 <| oCst (1) <| oILd 2 <| oCallV b0 2 1 (f_X1_lookAt b0) <| oISt 3 <| oILd 3 <| oC1eq (oALd 0 <| oALd 1 <| oGetR b0 5 6 <| oGetR b0 1 0 <| oILd 2 <| oIal b0 <| oCallV b0 1 6 (f_X6_find b0) <| oASt 4 <| oALd 4 <| oCnonnull (oALd 1 <| oDup <| oGetI b0 5 10 <| oALd 4 <| oGetI b0 5 10 <| oAdd <| oPutI b0 5 10 <| oCst (0) <| oRetI) <| oCst (1) <| oRetI) <| oILd 3 <| oRetI
def f_X6_ask (b0 : Nat) : List xV → xH → xR := xfun 3 5 (k_X6_ask_0 b0)
def k_X6_doAct_301 (b0 : Nat) : xK := oISt 5 <| oILd 5 <| oC1ne (oILd 5 <| oRetI) <| oALd 1 <| oGetI b0 5 8 <| oCst (2) <| oC2eq (oILd 5 <| oRetI) <| oALd 1 <| oDup <| oGetI b0 5 11 <| oCst (1) <| oAdd <| oPutI b0 5 11 <| oILd 5 <| oRetI
def k_X6_doAct_132 (b0 : Nat) : xK := oALd 1 <| oILd 3 <| oCallV b0 1 5 (f_X5_add b0) <| k_X6_doAct_301 b0
def k_X6_doAct_140 (b0 : Nat) : xK := oALd 1 <| oILd 3 <| oCallV b0 1 5 (f_X5_divide b0) <| k_X6_doAct_301 b0
def k_X6_doAct_148 (b0 : Nat) : xK := oALd 1 <| oILd 3 <| oCallV b0 1 5 (f_X5_makeRow b0) <| k_X6_doAct_301 b0
def k_X6_doAct_156 (b0 : Nat) : xK := oALd 1 <| oILd 3 <| oCallV b0 1 5 (f_X5_put b0) <| k_X6_doAct_301 b0
def k_X6_doAct_164 (b0 : Nat) : xK := oALd 1 <| oILd 3 <| oCallV b0 1 5 (f_X5_get b0) <| k_X6_doAct_301 b0
def k_X6_doAct_172 (b0 : Nat) : xK := oALd 1 <| oILd 2 <| oCallV b0 1 5 (f_X5_takeLetter b0) <| k_X6_doAct_301 b0
def k_X6_doAct_180 (b0 : Nat) : xK := oALd 0 <| oALd 1 <| oGetI b0 5 10 <| oILd 4 <| oAdd <| oILd 3 <| oCallV b0 2 6 (f_X6_send b0) <| k_X6_doAct_301 b0
def k_X6_doAct_195 (b0 : Nat) : xK := oALd 1 <| oILd 3 <| oCallV b0 1 5 (f_X5_waitFor b0) <| k_X6_doAct_301 b0
def k_X6_doAct_203 (b0 : Nat) : xK := oALd 1 <| oCallV b0 0 5 (f_X5_setMark b0) <| k_X6_doAct_301 b0
def k_X6_doAct_210 (b0 : Nat) : xK := oCst (8) <| k_X6_doAct_301 b0
def k_X6_doAct_215 (b0 : Nat) : xK := oALd 1 <| oILd 3 <| oCallV b0 1 5 (f_X5_makeBox b0) <| k_X6_doAct_301 b0
def k_X6_doAct_223 (b0 : Nat) : xK := oALd 1 <| oGetR b0 5 6 <| oCst (0) <| oILd 3 <| oALd 1 <| oGetI b0 5 10 <| oCallV b0 3 1 (f_X1_put b0) <| k_X6_doAct_301 b0
def k_X6_doAct_239 (b0 : Nat) : xK := oALd 0 <| oILd 4 <| oCallV b0 1 6 (f_X6_find b0) <| oCnonnull (oALd 1 <| oGetR b0 5 6 <| oCst (1) <| oILd 3 <| oILd 4 <| oCallV b0 3 1 (f_X1_put b0) <| k_X6_doAct_301 b0) <| oCst (2) <| k_X6_doAct_301 b0
def k_X6_doAct_266 (b0 : Nat) : xK := oALd 0 <| oALd 1 <| oILd 3 <| oCallV b0 2 6 (f_X6_ask b0) <| k_X6_doAct_301 b0
def k_X6_doAct_275 (b0 : Nat) : xK := oALd 1 <| oGetI b0 5 10 <| oILd 3 <| oC2ge (oCst (0) <| k_X6_doAct_301 b0) <| oCst (10) <| k_X6_doAct_301 b0
def k_X6_doAct_292 (b0 : Nat) : xK := oALd 1 <| oILd 3 <| oCallV b0 1 5 (f_X5_copyToBox b0) <| k_X6_doAct_301 b0
def k_X6_doAct_300 (b0 : Nat) : xK := oCst (0) <| k_X6_doAct_301 b0
def sw_X6_doAct_54 (b0 : Nat) : Nat → xK
  | 0 => k_X6_doAct_132 b0
  | 1 => k_X6_doAct_140 b0
  | 2 => k_X6_doAct_148 b0
  | 3 => k_X6_doAct_156 b0
  | 4 => k_X6_doAct_164 b0
  | 5 => k_X6_doAct_172 b0
  | 6 => k_X6_doAct_180 b0
  | 7 => k_X6_doAct_195 b0
  | 8 => k_X6_doAct_203 b0
  | 9 => k_X6_doAct_210 b0
  | 10 => k_X6_doAct_215 b0
  | 11 => k_X6_doAct_223 b0
  | 12 => k_X6_doAct_239 b0
  | 13 => k_X6_doAct_266 b0
  | 14 => k_X6_doAct_275 b0
  | 15 => k_X6_doAct_292 b0
  | _ => k_X6_doAct_300 b0
def st_X6_doAct_54 : Nat → Nat
  | 0 => 132
  | 1 => 140
  | 2 => 148
  | 3 => 156
  | 4 => 164
  | 5 => 172
  | 6 => 180
  | 7 => 195
  | 8 => 203
  | 9 => 210
  | 10 => 215
  | 11 => 223
  | 12 => 239
  | 13 => 266
  | 14 => 275
  | 15 => 292
  | _ => 0
def k_X6_doAct_0 (b0 : Nat) : xK := oALd 1 <| oGetR b0 5 3 <| oGetR b0 0 1 <| oALd 1 <| oGetI b0 5 11 <| oIal b0 <| oISt 3 <| oALd 1 <| oGetR b0 5 3 <| oGetR b0 0 2 <| oALd 1 <| oGetI b0 5 11 <| oIal b0 <| oISt 4 <| oALd 0 <| oDup <| oGetI b0 6 6 <| oCst (1) <| oAdd <| oPutI b0 6 6 <| oALd 1 <| oCst (1) <| oPutZ b0 5 14 <| oALd 1 <| oGetR b0 5 3 <| oGetR b0 0 0 <| oALd 1 <| oGetI b0 5 11 <| oIal b0 <| oTab 16 (sw_X6_doAct_54 b0) (k_X6_doAct_300 b0)
def f_X6_doAct (b0 : Nat) : List xV → xH → xR := xfun 3 6 (k_X6_doAct_0 b0)
def k_X6_doGuard_0 (b0 : Nat) (k : Nat → xK) : xK := oALd 1 <| oGetR b0 5 3 <| oGetR b0 0 1 <| oALd 1 <| oGetI b0 5 11 <| oIal b0 <| oALd 1 <| oGetR b0 5 3 <| oGetI b0 0 3 <| oALd 1 <| oGetI b0 5 11 <| oSub <| oCst (1) <| oSub <| oMin <| oISt 2 <| oALd 0 <| oDup <| oGetI b0 6 6 <| oCst (1) <| oAdd <| oPutI b0 6 6 <| oALd 1 <| oCst (1) <| oPutZ b0 5 14 <| oALd 1 <| oDup <| oGetI b0 5 11 <| oCst (1) <| oAdd <| oPutI b0 5 11 <| oCst (0) <| oISt 3 <| oCst (0) <| oISt 4 <| k 0
def k_X6_doGuard_83 (b0 : Nat) (k : Nat → xK) : xK := oALd 0 <| oDup <| oGetI b0 6 8 <| oCst (1) <| oAdd <| oPutI b0 6 8 <| oILd 3 <| oRetI
def k_X6_doGuard_60 (b0 : Nat) (k : Nat → xK) : xK := oILd 4 <| oILd 2 <| oC2ge (k_X6_doGuard_83 b0 k) <| oILd 3 <| oC1ne (k_X6_doGuard_83 b0 k) <| oALd 0 <| oALd 1 <| oCst (1) <| oCallV b0 2 6 (f_X6_doAct b0) <| oISt 3 <| oInc 4 (1) <| k 0
def r_X6_doGuard (b0 : Nat) : Nat → Nat → xK
  | 0, _ => fun _ _ _ => none
  | n + 1, i => match i with
    | 0 => k_X6_doGuard_60 b0 (r_X6_doGuard b0 n)
    | _ => fun _ _ _ => none
def f_X6_doGuard (b0 : Nat) : List xV → xH → xR := xfun 2 5 (k_X6_doGuard_0 b0 (r_X6_doGuard b0 64))
def k_X6_becomeDone_0 (b0 : Nat) : xK := oALd 1 <| oCst (3) <| oPutI b0 5 8 <| oALd 0 <| oGetI b0 6 3 <| oALd 0 <| oGetR b0 6 1 <| oLen b0 <| oC2ge (oRetV) <| oALd 0 <| oGetR b0 6 1 <| oALd 0 <| oGetI b0 6 3 <| oALd 1 <| oGetI b0 5 0 <| oIas b0 <| oALd 0 <| oDup <| oGetI b0 6 3 <| oCst (1) <| oAdd <| oPutI b0 6 3 <| oRetV
def f_X6_becomeDone (b0 : Nat) : List xV → xH → xR := xfun 2 2 (k_X6_becomeDone_0 b0)
def k_X6_giveTurn_98 (b0 : Nat) : xK := oALd 1 <| oGetI b0 5 11 <| oALd 1 <| oGetR b0 5 3 <| oGetI b0 0 3 <| oC2lt (oRetV) <| oALd 0 <| oALd 1 <| oCallV b0 1 6 (f_X6_becomeDone b0) <| oRetV
def k_X6_giveTurn_63 (b0 : Nat) : xK := oISt 2 <| oILd 2 <| oC1eq (oALd 1 <| oGetI b0 5 12 <| oC1le (k_X6_giveTurn_98 b0) <| oALd 1 <| oCst (1) <| oPutI b0 5 8 <| k_X6_giveTurn_98 b0) <| oALd 0 <| oDup <| oGetI b0 6 9 <| oCst (1) <| oAdd <| oPutI b0 6 9 <| oALd 1 <| oILd 2 <| oCallV b0 1 5 (f_X5_fail b0) <| k_X6_giveTurn_98 b0
def k_X6_giveTurn_0 (b0 : Nat) : xK := oALd 1 <| oALd 0 <| oGetI b0 6 5 <| oPutI b0 5 13 <| oALd 1 <| oCst (0) <| oPutI b0 5 9 <| oALd 1 <| oCst (0) <| oPutI b0 5 12 <| oALd 1 <| oGetI b0 5 11 <| oALd 1 <| oGetR b0 5 3 <| oGetI b0 0 3 <| oC2ge (k_X6_giveTurn_98 b0) <| oALd 1 <| oGetR b0 5 3 <| oGetR b0 0 0 <| oALd 1 <| oGetI b0 5 11 <| oIal b0 <| oCst (9) <| oC2ne (oALd 0 <| oALd 1 <| oCst (0) <| oCallV b0 2 6 (f_X6_doAct b0) <| k_X6_giveTurn_63 b0) <| oALd 0 <| oALd 1 <| oCallV b0 1 6 (f_X6_doGuard b0) <| k_X6_giveTurn_63 b0
def f_X6_giveTurn (b0 : Nat) : List xV → xH → xR := xfun 2 3 (k_X6_giveTurn_0 b0)
def k_X6_ageTasks_0 (b0 : Nat) (k : Nat → xK) : xK := oCst (0) <| oISt 1 <| k 0
def k_X6_ageTasks_2 (b0 : Nat) (k : Nat → xK) : xK := oILd 1 <| oALd 0 <| oGetR b0 6 0 <| oLen b0 <| oC2ge (oRetV) <| oALd 0 <| oGetR b0 6 0 <| oILd 1 <| oQal b0 <| oASt 2 <| oALd 2 <| oCnull (oInc 1 (1) <| k 0) <| oALd 2 <| oALd 0 <| oGetI b0 6 5 <| oCallV b0 1 5 (f_X5_isReadyIn b0) <| oC1eq (oInc 1 (1) <| k 0) <| oALd 2 <| oDup <| oGetI b0 5 9 <| oCst (1) <| oAdd <| oPutI b0 5 9 <| oInc 1 (1) <| k 0
def r_X6_ageTasks (b0 : Nat) : Nat → Nat → xK
  | 0, _ => fun _ _ _ => none
  | n + 1, i => match i with
    | 0 => k_X6_ageTasks_2 b0 (r_X6_ageTasks b0 n)
    | _ => fun _ _ _ => none
def f_X6_ageTasks (b0 : Nat) : List xV → xH → xR := xfun 1 3 (k_X6_ageTasks_0 b0 (r_X6_ageTasks b0 64))
def k_X6_doTurn_0 (b0 : Nat) (k : Nat → xK) : xK := oALd 0 <| oDup <| oGetI b0 6 5 <| oCst (1) <| oAdd <| oPutI b0 6 5 <| oALd 0 <| oCallV b0 0 6 (f_X6_wakeTasks b0) <| oCst (0) <| oISt 1 <| k 0
def k_X6_doTurn_16 (b0 : Nat) (k : Nat → xK) : xK := oILd 1 <| oALd 0 <| oGetI b0 6 4 <| oC2ge (oALd 0 <| oCallV b0 0 6 (f_X6_ageTasks b0) <| oRetV) <| oALd 0 <| oCallV b0 0 6 (f_X6_findNextToWork b0) <| oASt 2 <| oALd 2 <| oCnull (oInc 1 (1) <| k 0) <| oALd 0 <| oALd 2 <| oCallV b0 1 6 (f_X6_giveTurn b0) <| oInc 1 (1) <| k 0
def r_X6_doTurn (b0 : Nat) : Nat → Nat → xK
  | 0, _ => fun _ _ _ => none
  | n + 1, i => match i with
    | 0 => k_X6_doTurn_16 b0 (r_X6_doTurn b0 n)
    | _ => fun _ _ _ => none
def f_X6_doTurn (b0 : Nat) : List xV → xH → xR := xfun 1 3 (k_X6_doTurn_0 b0 (r_X6_doTurn b0 64))
def k_X6_turn_0 (b0 : Nat) (k : Nat → xK) : xK := oILd 1 <| oCst (1) <| oC2lt (oCst (-1) <| oRetI) <| oILd 1 <| oCst (50) <| oC2le (oALd 0 <| oGetI b0 6 6 <| oISt 2 <| oCst (0) <| oISt 3 <| oCst (0) <| oISt 4 <| k 0) <| oCst (-1) <| oRetI
def k_X6_turn_64 (b0 : Nat) (k : Nat → xK) : xK := oALd 0 <| oGetI b0 6 6 <| oILd 2 <| oSub <| oRetI
def k_X6_turn_23 (b0 : Nat) (k : Nat → xK) : xK := oILd 4 <| oILd 1 <| oC2ge (k_X6_turn_64 b0 k) <| oILd 3 <| oC1ne (k_X6_turn_64 b0 k) <| oALd 0 <| oGetI b0 6 6 <| oISt 5 <| oALd 0 <| oCallV b0 0 6 (f_X6_doTurn b0) <| oALd 0 <| oGetI b0 6 6 <| oILd 5 <| oC2ne (oCst (0) <| oISt 3 <| oInc 4 (1) <| k 0) <| oCst (1) <| oISt 3 <| oInc 4 (1) <| k 0
def r_X6_turn (b0 : Nat) : Nat → Nat → xK
  | 0, _ => fun _ _ _ => none
  | n + 1, i => match i with
    | 0 => k_X6_turn_23 b0 (r_X6_turn b0 n)
    | _ => fun _ _ _ => none
def f_X6_turn (b0 : Nat) : List xV → xH → xR := xfun 2 6 (k_X6_turn_0 b0 (r_X6_turn b0 64))
def k_X6_letter_0 (b0 : Nat) : xK := oALd 0 <| oILd 1 <| oCallV b0 1 6 (f_X6_find b0) <| oASt 3 <| oALd 3 <| oCnonnull (oALd 3 <| oCallV b0 0 5 (f_X5_isOver b0) <| oC1eq (oALd 3 <| oGetR b0 5 4 <| oCallV b0 0 2 (f_X2_isFull b0) <| oC1eq (oALd 3 <| oGetR b0 5 4 <| oILd 2 <| oCallV b0 1 2 (f_X2_append b0) <| oALd 3 <| oGetR b0 5 4 <| oGetI b0 2 1 <| oRetI) <| oCst (-3) <| oRetI) <| oCst (-2) <| oRetI) <| oCst (-1) <| oRetI
def f_X6_letter (b0 : Nat) : List xV → xH → xR := xfun 3 4 (k_X6_letter_0 b0)
def k_X6_stop_0 (b0 : Nat) : xK := oALd 0 <| oILd 1 <| oCallV b0 1 6 (f_X6_find b0) <| oASt 2 <| oALd 2 <| oCnonnull (oALd 2 <| oCallV b0 0 5 (f_X5_isOver b0) <| oC1eq (oALd 2 <| oCst (5) <| oPutI b0 5 8 <| oCst (1) <| oRetI) <| oCst (-2) <| oRetI) <| oCst (-1) <| oRetI
def f_X6_stop (b0 : Nat) : List xV → xH → xR := xfun 2 3 (k_X6_stop_0 b0)
def k_X6_again_31 (b0 : Nat) : xK := oALd 2 <| oCst (0) <| oPutI b0 5 8 <| oALd 2 <| oCallV b0 0 5 (f_X5_goBack b0) <| oCst (1) <| oRetI
def k_X6_again_0 (b0 : Nat) : xK := oALd 0 <| oILd 1 <| oCallV b0 1 6 (f_X6_find b0) <| oASt 2 <| oALd 2 <| oCnonnull (oALd 2 <| oGetI b0 5 8 <| oCst (4) <| oC2eq (k_X6_again_31 b0) <| oALd 2 <| oGetI b0 5 8 <| oCst (5) <| oC2eq (k_X6_again_31 b0) <| oCst (-2) <| oRetI) <| oCst (-1) <| oRetI
def f_X6_again (b0 : Nat) : List xV → xH → xR := xfun 2 3 (k_X6_again_0 b0)
def k_X6_of_0 (b0 : Nat) : xK := oALd 0 <| oILd 1 <| oCallV b0 1 6 (f_X6_find b0) <| oASt 3 <| oALd 3 <| oCnonnull (oALd 3 <| oILd 2 <| oCallV b0 1 5 (f_X5_tell b0) <| oRetI) <| oCst (-1) <| oRetI
def f_X6_of (b0 : Nat) : List xV → xH → xR := xfun 3 4 (k_X6_of_0 b0)
def k_X6_at_0 (b0 : Nat) : xK := oALd 0 <| oILd 1 <| oCallV b0 1 6 (f_X6_find b0) <| oASt 4 <| oALd 4 <| oCnonnull (oILd 2 <| oC1eq (oALd 4 <| oGetR b0 5 5 <| oILd 3 <| oCallV b0 1 4 (f_X4_has b0) <| oC1eq (oCst (-1) <| oRetI) <| oALd 4 <| oGetR b0 5 5 <| oGetR b0 4 0 <| oILd 3 <| oIal b0 <| oRetI) <| oALd 4 <| oGetR b0 5 6 <| oILd 3 <| oCallV b0 1 1 (f_X1_has b0) <| oC1eq (oCst (-1) <| oRetI) <| oALd 4 <| oGetR b0 5 6 <| oGetR b0 1 0 <| oILd 3 <| oIal b0 <| oRetI) <| oCst (-1) <| oRetI
def f_X6_at (b0 : Nat) : List xV → xH → xR := xfun 4 5 (k_X6_at_0 b0)
def k_X6_letterAt_0 (b0 : Nat) : xK := oALd 0 <| oILd 1 <| oCallV b0 1 6 (f_X6_find b0) <| oASt 3 <| oALd 3 <| oCnull (oCst (-1) <| oRetI) <| oALd 3 <| oGetR b0 5 4 <| oILd 2 <| oCallV b0 1 2 (f_X2_has b0) <| oC1eq (oCst (-1) <| oRetI) <| oALd 3 <| oGetR b0 5 4 <| oGetR b0 2 0 <| oILd 2 <| oIal b0 <| oRetI
def f_X6_letterAt (b0 : Nat) : List xV → xH → xR := xfun 3 4 (k_X6_letterAt_0 b0)
def k_X6_countGoingOn_0 (b0 : Nat) (k : Nat → xK) : xK := oCst (0) <| oISt 1 <| oCst (0) <| oISt 2 <| k 0
def k_X6_countGoingOn_4 (b0 : Nat) (k : Nat → xK) : xK := oILd 2 <| oALd 0 <| oGetR b0 6 0 <| oLen b0 <| oC2ge (oILd 1 <| oRetI) <| oALd 0 <| oGetR b0 6 0 <| oILd 2 <| oQal b0 <| oASt 3 <| oALd 3 <| oCnull (oInc 2 (1) <| k 0) <| oALd 3 <| oCallV b0 0 5 (f_X5_isOver b0) <| oC1ne (oInc 2 (1) <| k 0) <| oInc 1 (1) <| oInc 2 (1) <| k 0
def r_X6_countGoingOn (b0 : Nat) : Nat → Nat → xK
  | 0, _ => fun _ _ _ => none
  | n + 1, i => match i with
    | 0 => k_X6_countGoingOn_4 b0 (r_X6_countGoingOn b0 n)
    | _ => fun _ _ _ => none
def f_X6_countGoingOn (b0 : Nat) : List xV → xH → xR := xfun 1 4 (k_X6_countGoingOn_0 b0 (r_X6_countGoingOn b0 64))
def k_X6_count_44 (b0 : Nat) : xK := oALd 0 <| oGetI b0 6 2 <| oRetI
def k_X6_count_51 (b0 : Nat) : xK := oALd 0 <| oGetI b0 6 5 <| oRetI
def k_X6_count_58 (b0 : Nat) : xK := oALd 0 <| oGetI b0 6 6 <| oRetI
def k_X6_count_65 (b0 : Nat) : xK := oALd 0 <| oGetI b0 6 7 <| oRetI
def k_X6_count_72 (b0 : Nat) : xK := oALd 0 <| oGetI b0 6 8 <| oRetI
def k_X6_count_79 (b0 : Nat) : xK := oALd 0 <| oGetI b0 6 9 <| oRetI
def k_X6_count_86 (b0 : Nat) : xK := oALd 0 <| oCallV b0 0 6 (f_X6_countGoingOn b0) <| oRetI
def k_X6_count_93 (b0 : Nat) : xK := oCst (-1) <| oRetI
def sw_X6_count_1 (b0 : Nat) : Nat → xK
  | 0 => k_X6_count_44 b0
  | 1 => k_X6_count_51 b0
  | 2 => k_X6_count_58 b0
  | 3 => k_X6_count_65 b0
  | 4 => k_X6_count_72 b0
  | 5 => k_X6_count_79 b0
  | 6 => k_X6_count_86 b0
  | _ => k_X6_count_93 b0
def st_X6_count_1 : Nat → Nat
  | 0 => 44
  | 1 => 51
  | 2 => 58
  | 3 => 65
  | 4 => 72
  | 5 => 79
  | 6 => 86
  | _ => 0
def k_X6_count_0 (b0 : Nat) : xK := oILd 1 <| oTab 7 (sw_X6_count_1 b0) (k_X6_count_93 b0)
def f_X6_count (b0 : Nat) : List xV → xH → xR := xfun 2 2 (k_X6_count_0 b0)
def k_X6_done_0 (b0 : Nat) : xK := oILd 1 <| oC1lt (oCst (-4) <| oRetI) <| oILd 1 <| oALd 0 <| oGetI b0 6 3 <| oC2ge (oCst (-4) <| oRetI) <| oILd 1 <| oALd 0 <| oGetR b0 6 1 <| oLen b0 <| oC2ge (oCst (-4) <| oRetI) <| oALd 0 <| oGetR b0 6 1 <| oILd 1 <| oIal b0 <| oRetI
def f_X6_done (b0 : Nat) : List xV → xH → xR := xfun 2 2 (k_X6_done_0 b0)
def k_X7_init_0 (b0 : Nat) : xK := oALd 0 <| oObj <| oALd 0 <| oCst (12) <| oNewI b0 <| oPutR b0 7 1 <| oALd 0 <| oCst (12) <| oNewI b0 <| oPutR b0 7 2 <| oALd 0 <| oCst (12) <| oNewI b0 <| oPutR b0 7 3 <| oALd 0 <| oCst (12) <| oNewI b0 <| oPutR b0 7 4 <| oALd 0 <| oCst (12) <| oNewI b0 <| oPutR b0 7 5 <| oALd 0 <| oCst (192) <| oNewI b0 <| oPutR b0 7 6 <| oALd 0 <| oCst (192) <| oNewI b0 <| oPutR b0 7 7 <| oALd 0 <| oCst (192) <| oNewI b0 <| oPutR b0 7 8 <| oALd 0 <| oCst (12) <| oNewI b0 <| oPutR b0 7 9 <| oALd 0 <| oCst (12) <| oNewI b0 <| oPutR b0 7 10 <| oALd 0 <| oCst (12) <| oNewI b0 <| oPutR b0 7 11 <| oALd 0 <| oCst (1200) <| oNewI b0 <| oPutR b0 7 12 <| oALd 0 <| oCst (12) <| oNewI b0 <| oPutR b0 7 13 <| oALd 0 <| oCst (12) <| oNewI b0 <| oPutR b0 7 14 <| oALd 0 <| oCst (12) <| oNewI b0 <| oPutR b0 7 15 <| oALd 0 <| oCst (1200) <| oNewI b0 <| oPutR b0 7 16 <| oALd 0 <| oCst (12) <| oNewI b0 <| oPutR b0 7 17 <| oALd 0 <| oCst (36) <| oNewI b0 <| oPutR b0 7 18 <| oALd 0 <| oCst (12) <| oNewI b0 <| oPutR b0 7 19 <| oALd 0 <| oCst (72) <| oNewI b0 <| oPutR b0 7 20 <| oALd 0 <| oCst (12) <| oNewJ b0 <| oPutR b0 7 21 <| oALd 0 <| oCst (12) <| oNewI b0 <| oPutR b0 7 22 <| oALd 0 <| oCst (12) <| oNewI b0 <| oPutR b0 7 23 <| oALd 0 <| oCst (12) <| oNewI b0 <| oPutR b0 7 24 <| oALd 0 <| oCst (12) <| oNewI b0 <| oPutR b0 7 25 <| oALd 0 <| oCst (12) <| oNewZ b0 <| oPutR b0 7 26 <| oALd 0 <| oCst (12) <| oNewZ b0 <| oPutR b0 7 27 <| oALd 0 <| oCst (12) <| oNewI b0 <| oPutR b0 7 28 <| oALd 0 <| oCst (1) <| oPutI b0 7 30 <| oALd 0 <| oCst (0) <| oPutI b0 7 31 <| oRetV
def f_X7_init (b0 : Nat) : List xV → xH → xR := xfun 1 1 (k_X7_init_0 b0)
def k_X7_in_0 (b0 : Nat) : xK := oILd 0 <| oILd 1 <| oC2lt (oCst (0) <| oRetZ) <| oILd 0 <| oILd 2 <| oC2gt (oCst (0) <| oRetZ) <| oCst (1) <| oRetZ
def f_X7_in (b0 : Nat) : List xV → xH → xR := xfun 3 3 (k_X7_in_0 b0)
def k_X7_isTask_0 (b0 : Nat) : xK := oILd 1 <| oCst (0) <| oALd 0 <| oGetI b0 7 0 <| oCst (1) <| oSub <| oCallS 3 (f_X7_in b0) <| oRetZ
def f_X7_isTask (b0 : Nat) : List xV → xH → xR := xfun 2 2 (k_X7_isTask_0 b0)
def k_X7_isOver_0 (b0 : Nat) : xK := oILd 0 <| oCst (2) <| oC2le (oCst (0) <| oRetZ) <| oCst (1) <| oRetZ
def f_X7_isOver (b0 : Nat) : List xV → xH → xR := xfun 1 1 (k_X7_isOver_0 b0)
def k_X7_task_0 (b0 : Nat) : xK := oILd 1 <| oCst (0) <| oCst (4) <| oCallS 3 (f_X7_in b0) <| oC1eq (oCst (-1) <| oRetI) <| oILd 2 <| oCst (0) <| oCst (9) <| oCallS 3 (f_X7_in b0) <| oC1ne (oALd 0 <| oGetI b0 7 0 <| oCst (12) <| oC2ne (oALd 0 <| oGetI b0 7 0 <| oISt 3 <| oALd 0 <| oGetR b0 7 1 <| oILd 3 <| oILd 1 <| oIas b0 <| oALd 0 <| oGetR b0 7 2 <| oILd 3 <| oILd 2 <| oIas b0 <| oALd 0 <| oGetR b0 7 11 <| oILd 3 <| oCst (-4) <| oIas b0 <| oALd 0 <| oGetR b0 7 15 <| oILd 3 <| oCst (-4) <| oIas b0 <| oALd 0 <| oGetR b0 7 17 <| oILd 3 <| oCst (-4) <| oIas b0 <| oALd 0 <| oGetR b0 7 24 <| oILd 3 <| oCst (-4) <| oIas b0 <| oALd 0 <| oDup <| oGetI b0 7 0 <| oCst (1) <| oAdd <| oPutI b0 7 0 <| oILd 3 <| oRetI) <| oCst (-3) <| oRetI) <| oCst (-1) <| oRetI
def f_X7_task (b0 : Nat) : List xV → xH → xR := xfun 3 4 (k_X7_task_0 b0)
def k_X7_act_31 (b0 : Nat) : xK := oALd 0 <| oGetR b0 7 4 <| oILd 1 <| oIal b0 <| oC1ne (oCst (-2) <| oRetI) <| oALd 0 <| oGetR b0 7 26 <| oILd 1 <| oZal b0 <| oC1eq (oALd 0 <| oGetR b0 7 5 <| oILd 1 <| oIal b0 <| oCst (16) <| oC2ne (oCst (16) <| oILd 1 <| oMul <| oALd 0 <| oGetR b0 7 5 <| oILd 1 <| oIal b0 <| oAdd <| oISt 5 <| oALd 0 <| oGetR b0 7 6 <| oILd 5 <| oILd 2 <| oIas b0 <| oALd 0 <| oGetR b0 7 7 <| oILd 5 <| oILd 3 <| oIas b0 <| oALd 0 <| oGetR b0 7 8 <| oILd 5 <| oILd 4 <| oIas b0 <| oALd 0 <| oGetR b0 7 5 <| oILd 1 <| oDup2 <| oIal b0 <| oCst (1) <| oAdd <| oIas b0 <| oALd 0 <| oGetR b0 7 5 <| oILd 1 <| oIal b0 <| oCst (1) <| oSub <| oRetI) <| oCst (-3) <| oRetI) <| oCst (-2) <| oRetI
def k_X7_act_0 (b0 : Nat) : xK := oALd 0 <| oILd 1 <| oCallV b0 1 7 (f_X7_isTask b0) <| oC1eq (oCst (-1) <| oRetI) <| oILd 2 <| oCst (0) <| oCst (15) <| oCallS 3 (f_X7_in b0) <| oC1eq (oCst (-1) <| oRetI) <| oILd 2 <| oCst (2) <| oC2ne (k_X7_act_31 b0) <| oILd 3 <| oCst (40) <| oC2le (k_X7_act_31 b0) <| oCst (-1) <| oRetI
def f_X7_act (b0 : Nat) : List xV → xH → xR := xfun 5 6 (k_X7_act_0 b0)
def k_X7_workers_0 (b0 : Nat) : xK := oILd 1 <| oCst (1) <| oCst (4) <| oCallS 3 (f_X7_in b0) <| oC1ne (oALd 0 <| oGetI b0 7 30 <| oISt 2 <| oALd 0 <| oILd 1 <| oPutI b0 7 30 <| oILd 2 <| oRetI) <| oCst (-1) <| oRetI
def f_X7_workers (b0 : Nat) : List xV → xH → xR := xfun 2 3 (k_X7_workers_0 b0)
def k_X7_rowAct_0 (b0 : Nat) (k : Nat → xK) : xK := oILd 2 <| oCst (2) <| oC2ne (oALd 0 <| oGetR b0 7 11 <| oILd 1 <| oIal b0 <| oCst (-4) <| oC2ne (oILd 3 <| oCst (0) <| oALd 0 <| oGetR b0 7 11 <| oILd 1 <| oIal b0 <| oCst (1) <| oSub <| oCallS 3 (f_X7_in b0) <| oC1ne (oILd 2 <| oCst (3) <| oC2ne (oALd 0 <| oGetR b0 7 10 <| oILd 1 <| oDup2 <| oIal b0 <| oALd 0 <| oGetR b0 7 12 <| oCst (100) <| oILd 1 <| oMul <| oILd 3 <| oAdd <| oIal b0 <| oAdd <| oIas b0 <| oCst (0) <| oRetI) <| oALd 0 <| oGetR b0 7 12 <| oCst (100) <| oILd 1 <| oMul <| oILd 3 <| oAdd <| oALd 0 <| oGetR b0 7 10 <| oILd 1 <| oIal b0 <| oIas b0 <| oCst (0) <| oRetI) <| oCst (2) <| oRetI) <| oCst (1) <| oRetI) <| oILd 3 <| oC1ge (oALd 0 <| oGetR b0 7 11 <| oILd 1 <| oILd 3 <| oIas b0 <| oCst (0) <| oISt 4 <| k 0) <| oCst (5) <| oRetI
def k_X7_rowAct_21 (b0 : Nat) (k : Nat → xK) : xK := oILd 4 <| oILd 3 <| oC2ge (oCst (0) <| oRetI) <| oALd 0 <| oGetR b0 7 12 <| oCst (100) <| oILd 1 <| oMul <| oILd 4 <| oAdd <| oCst (0) <| oIas b0 <| oInc 4 (1) <| k 0
def r_X7_rowAct (b0 : Nat) : Nat → Nat → xK
  | 0, _ => fun _ _ _ => none
  | n + 1, i => match i with
    | 0 => k_X7_rowAct_21 b0 (r_X7_rowAct b0 n)
    | _ => fun _ _ _ => none
def f_X7_rowAct (b0 : Nat) : List xV → xH → xR := xfun 4 5 (k_X7_rowAct_0 b0 (r_X7_rowAct b0 64))
def k_X7_takeAct_0 (b0 : Nat) (k : Nat → xK) : xK := oALd 0 <| oGetR b0 7 19 <| oILd 1 <| oIal b0 <| oC1ne (oALd 0 <| oGetR b0 7 10 <| oILd 1 <| oDup2 <| oIal b0 <| oALd 0 <| oGetR b0 7 20 <| oCst (6) <| oILd 1 <| oMul <| oIal b0 <| oAdd <| oIas b0 <| oALd 0 <| oGetR b0 7 19 <| oILd 1 <| oDup2 <| oIal b0 <| oCst (1) <| oSub <| oIas b0 <| oCst (0) <| oISt 2 <| k 0) <| oALd 0 <| oGetI b0 7 37 <| oC1eq (oALd 0 <| oGetR b0 7 4 <| oILd 1 <| oCst (2) <| oIas b0 <| oCst (0) <| oRetI) <| oCst (9) <| oRetI
def k_X7_takeAct_58 (b0 : Nat) (k : Nat → xK) : xK := oILd 2 <| oALd 0 <| oGetR b0 7 19 <| oILd 1 <| oIal b0 <| oC2ge (oCst (0) <| oRetI) <| oALd 0 <| oGetR b0 7 20 <| oCst (6) <| oILd 1 <| oMul <| oILd 2 <| oAdd <| oALd 0 <| oGetR b0 7 20 <| oCst (6) <| oILd 1 <| oMul <| oILd 2 <| oAdd <| oCst (1) <| oAdd <| oIal b0 <| oIas b0 <| oInc 2 (1) <| k 0
def r_X7_takeAct (b0 : Nat) : Nat → Nat → xK
  | 0, _ => fun _ _ _ => none
  | n + 1, i => match i with
    | 0 => k_X7_takeAct_58 b0 (r_X7_takeAct b0 n)
    | _ => fun _ _ _ => none
def f_X7_takeAct (b0 : Nat) : List xV → xH → xR := xfun 2 3 (k_X7_takeAct_0 b0 (r_X7_takeAct b0 64))
def k_X7_sendAct_0 (b0 : Nat) : xK := oALd 0 <| oILd 2 <| oCallV b0 1 7 (f_X7_isTask b0) <| oC1ne (oALd 0 <| oGetR b0 7 4 <| oILd 2 <| oIal b0 <| oCallS 1 (f_X7_isOver b0) <| oC1eq (oALd 0 <| oGetR b0 7 19 <| oILd 2 <| oIal b0 <| oCst (6) <| oC2ne (oALd 0 <| oGetR b0 7 20 <| oCst (6) <| oILd 2 <| oMul <| oALd 0 <| oGetR b0 7 19 <| oILd 2 <| oIal b0 <| oAdd <| oALd 0 <| oGetR b0 7 10 <| oILd 1 <| oIal b0 <| oILd 3 <| oAdd <| oIas b0 <| oALd 0 <| oGetR b0 7 19 <| oILd 2 <| oDup2 <| oIal b0 <| oCst (1) <| oAdd <| oIas b0 <| oCst (0) <| oRetI) <| oCst (7) <| oRetI) <| oALd 0 <| oDup <| oGetI b0 7 33 <| oCst (1) <| oAdd <| oPutI b0 7 33 <| oCst (0) <| oRetI) <| oCst (2) <| oRetI
def f_X7_sendAct (b0 : Nat) : List xV → xH → xR := xfun 4 4 (k_X7_sendAct_0 b0)
def k_X7_mark_0 (b0 : Nat) (k : Nat → xK) : xK := oALd 0 <| oGetR b0 7 13 <| oILd 1 <| oALd 0 <| oGetR b0 7 10 <| oILd 1 <| oIal b0 <| oIas b0 <| oALd 0 <| oGetR b0 7 14 <| oILd 1 <| oALd 0 <| oGetR b0 7 9 <| oILd 1 <| oIal b0 <| oCst (1) <| oAdd <| oIas b0 <| oALd 0 <| oGetR b0 7 15 <| oILd 1 <| oALd 0 <| oGetR b0 7 11 <| oILd 1 <| oIal b0 <| oIas b0 <| oCst (0) <| oISt 2 <| k 0
def k_X7_mark_40 (b0 : Nat) (k : Nat → xK) : xK := oILd 2 <| oALd 0 <| oGetR b0 7 11 <| oILd 1 <| oIal b0 <| oC2ge (oRetV) <| oALd 0 <| oGetR b0 7 16 <| oCst (100) <| oILd 1 <| oMul <| oILd 2 <| oAdd <| oALd 0 <| oGetR b0 7 12 <| oCst (100) <| oILd 1 <| oMul <| oILd 2 <| oAdd <| oIal b0 <| oIas b0 <| oInc 2 (1) <| k 0
def r_X7_mark (b0 : Nat) : Nat → Nat → xK
  | 0, _ => fun _ _ _ => none
  | n + 1, i => match i with
    | 0 => k_X7_mark_40 b0 (r_X7_mark b0 n)
    | _ => fun _ _ _ => none
def f_X7_mark (b0 : Nat) : List xV → xH → xR := xfun 2 3 (k_X7_mark_0 b0 (r_X7_mark b0 64))
def k_X7_back_0 (b0 : Nat) (k : Nat → xK) : xK := oALd 0 <| oGetR b0 7 10 <| oILd 1 <| oALd 0 <| oGetR b0 7 13 <| oILd 1 <| oIal b0 <| oIas b0 <| oALd 0 <| oGetR b0 7 9 <| oILd 1 <| oALd 0 <| oGetR b0 7 14 <| oILd 1 <| oIal b0 <| oIas b0 <| oALd 0 <| oGetR b0 7 11 <| oILd 1 <| oALd 0 <| oGetR b0 7 15 <| oILd 1 <| oIal b0 <| oIas b0 <| oCst (0) <| oISt 2 <| k 0
def k_X7_back_38 (b0 : Nat) (k : Nat → xK) : xK := oILd 2 <| oALd 0 <| oGetR b0 7 11 <| oILd 1 <| oIal b0 <| oC2ge (oRetV) <| oALd 0 <| oGetR b0 7 12 <| oCst (100) <| oILd 1 <| oMul <| oILd 2 <| oAdd <| oALd 0 <| oGetR b0 7 16 <| oCst (100) <| oILd 1 <| oMul <| oILd 2 <| oAdd <| oIal b0 <| oIas b0 <| oInc 2 (1) <| k 0
def r_X7_back (b0 : Nat) : Nat → Nat → xK
  | 0, _ => fun _ _ _ => none
  | n + 1, i => match i with
    | 0 => k_X7_back_38 b0 (r_X7_back b0 n)
    | _ => fun _ _ _ => none
def f_X7_back (b0 : Nat) : List xV → xH → xR := xfun 2 3 (k_X7_back_0 b0 (r_X7_back b0 64))
def k_X7_boxAct_94 (b0 : Nat) (k : Nat → xK) : xK := oISt 5 <| oALd 0 <| oGetR b0 7 17 <| oILd 1 <| oIal b0 <| oCst (1) <| oILd 5 <| oSub <| oC2ne (oALd 0 <| oGetR b0 7 17 <| oILd 1 <| oIal b0 <| oCst (-4) <| oC2ne (oILd 3 <| oCst (0) <| oCst (2) <| oCallS 3 (f_X7_in b0) <| oC1ne (oILd 2 <| oCst (12) <| oC2ne (oILd 2 <| oCst (11) <| oC2ne (oALd 0 <| oGetR b0 7 18 <| oCst (3) <| oILd 1 <| oMul <| oILd 3 <| oAdd <| oIal b0 <| oISt 6 <| oILd 6 <| oCst (-4) <| oC2ne (oALd 0 <| oGetR b0 7 10 <| oILd 1 <| oDup2 <| oIal b0 <| oALd 0 <| oGetR b0 7 10 <| oILd 6 <| oIal b0 <| oAdd <| oIas b0 <| oCst (0) <| oRetI) <| oCst (1) <| oRetI) <| oALd 0 <| oGetR b0 7 18 <| oCst (3) <| oILd 1 <| oMul <| oILd 3 <| oAdd <| oALd 0 <| oGetR b0 7 10 <| oILd 1 <| oIal b0 <| oIas b0 <| oCst (0) <| oRetI) <| oALd 0 <| oGetR b0 7 18 <| oCst (3) <| oILd 1 <| oMul <| oILd 3 <| oAdd <| oILd 4 <| oIas b0 <| oCst (0) <| oRetI) <| oCst (2) <| oRetI) <| oCst (1) <| oRetI) <| oCst (4) <| oRetI
def k_X7_boxAct_83 (b0 : Nat) (k : Nat → xK) : xK := oILd 2 <| oCst (11) <| oC2ne (oCst (1) <| k_X7_boxAct_94 b0 k) <| oCst (0) <| k_X7_boxAct_94 b0 k
def k_X7_boxAct_20 (b0 : Nat) (k : Nat → xK) : xK := oILd 3 <| oIas b0 <| oCst (0) <| oISt 5 <| k 0
def k_X7_boxAct_0 (b0 : Nat) (k : Nat → xK) : xK := oILd 2 <| oCst (10) <| oC2ne (oILd 2 <| oCst (12) <| oC2ne (k_X7_boxAct_83 b0 k) <| oALd 0 <| oILd 4 <| oCallV b0 1 7 (f_X7_isTask b0) <| oC1ne (k_X7_boxAct_83 b0 k) <| oCst (2) <| oRetI) <| oALd 0 <| oGetR b0 7 17 <| oILd 1 <| oILd 3 <| oC1eq (k_X7_boxAct_20 b0 k) <| oILd 3 <| oCst (1) <| oC2ne (oCst (-4) <| oIas b0 <| oCst (0) <| oISt 5 <| k 0) <| k_X7_boxAct_20 b0 k
def k_X7_boxAct_30 (b0 : Nat) (k : Nat → xK) : xK := oILd 5 <| oCst (3) <| oC2ge (oCst (0) <| oRetI) <| oALd 0 <| oGetR b0 7 18 <| oCst (3) <| oILd 1 <| oMul <| oILd 5 <| oAdd <| oILd 3 <| oCst (1) <| oC2ne (oCst (0) <| oIas b0 <| oInc 5 (1) <| k 0) <| oCst (-4) <| oIas b0 <| oInc 5 (1) <| k 0
def r_X7_boxAct (b0 : Nat) : Nat → Nat → xK
  | 0, _ => fun _ _ _ => none
  | n + 1, i => match i with
    | 0 => k_X7_boxAct_30 b0 (r_X7_boxAct b0 n)
    | _ => fun _ _ _ => none
def f_X7_boxAct (b0 : Nat) : List xV → xH → xR := xfun 5 7 (k_X7_boxAct_0 b0 (r_X7_boxAct b0 64))
def k_X7_copyAct_0 (b0 : Nat) (k : Nat → xK) : xK := oALd 0 <| oGetR b0 7 11 <| oILd 1 <| oIal b0 <| oCst (-4) <| oC2eq (oCst (1) <| oRetI) <| oALd 0 <| oGetR b0 7 17 <| oILd 1 <| oIal b0 <| oCst (-4) <| oC2ne (oALd 0 <| oGetR b0 7 17 <| oILd 1 <| oIal b0 <| oCst (1) <| oC2ne (oILd 2 <| oC1lt (oCst (2) <| oRetI) <| oILd 2 <| oCst (3) <| oC2gt (oCst (2) <| oRetI) <| oILd 2 <| oALd 0 <| oGetR b0 7 11 <| oILd 1 <| oIal b0 <| oC2le (oCst (0) <| oISt 3 <| k 0) <| oCst (2) <| oRetI) <| oCst (3) <| oRetI) <| oCst (1) <| oRetI
def k_X7_copyAct_59 (b0 : Nat) (k : Nat → xK) : xK := oILd 3 <| oILd 2 <| oC2ge (oCst (0) <| oRetI) <| oALd 0 <| oGetR b0 7 18 <| oCst (3) <| oILd 1 <| oMul <| oILd 3 <| oAdd <| oALd 0 <| oGetR b0 7 12 <| oCst (100) <| oILd 1 <| oMul <| oILd 3 <| oAdd <| oIal b0 <| oIas b0 <| oInc 3 (1) <| k 0
def r_X7_copyAct (b0 : Nat) : Nat → Nat → xK
  | 0, _ => fun _ _ _ => none
  | n + 1, i => match i with
    | 0 => k_X7_copyAct_59 b0 (r_X7_copyAct b0 n)
    | _ => fun _ _ _ => none
def f_X7_copyAct (b0 : Nat) : List xV → xH → xR := xfun 3 4 (k_X7_copyAct_0 b0 (r_X7_copyAct b0 64))
def k_X7_simple_140 (b0 : Nat) : xK := oAdd <| oIas b0 <| oCst (0) <| oRetI
def k_X7_simple_131 (b0 : Nat) : xK := oCst (2) <| oILd 4 <| oMul <| k_X7_simple_140 b0
def k_X7_simple_104 (b0 : Nat) : xK := oALd 0 <| oGetR b0 7 10 <| oILd 1 <| oDup2 <| oIal b0 <| oALd 0 <| oGetR b0 7 1 <| oILd 1 <| oIal b0 <| oCst (1) <| oC2eq (k_X7_simple_131 b0) <| oALd 0 <| oGetR b0 7 1 <| oILd 1 <| oIal b0 <| oCst (4) <| oC2ne (oILd 4 <| k_X7_simple_140 b0) <| k_X7_simple_131 b0
def k_X7_simple_144 (b0 : Nat) : xK := oILd 4 <| oC1ne (oALd 0 <| oGetR b0 7 10 <| oILd 1 <| oALd 0 <| oGetR b0 7 10 <| oILd 1 <| oIal b0 <| oILd 4 <| oDiv <| oIas b0 <| oCst (0) <| oRetI) <| oCst (6) <| oRetI
def k_X7_simple_169 (b0 : Nat) : xK := oALd 0 <| oILd 1 <| oILd 3 <| oILd 4 <| oCallV b0 3 7 (f_X7_rowAct b0) <| oRetI
def k_X7_simple_178 (b0 : Nat) : xK := oALd 0 <| oILd 1 <| oCallV b0 1 7 (f_X7_takeAct b0) <| oRetI
def k_X7_simple_184 (b0 : Nat) : xK := oALd 0 <| oILd 1 <| oILd 4 <| oILd 5 <| oCallV b0 3 7 (f_X7_sendAct b0) <| oRetI
def k_X7_simple_194 (b0 : Nat) : xK := oALd 0 <| oILd 4 <| oC1le (oALd 0 <| oGetI b0 7 36 <| oPutI b0 7 36 <| oCst (0) <| oRetI) <| oILd 4 <| oPutI b0 7 36 <| oCst (0) <| oRetI
def k_X7_simple_214 (b0 : Nat) : xK := oALd 0 <| oILd 1 <| oCallV b0 1 7 (f_X7_mark b0) <| oCst (0) <| oRetI
def k_X7_simple_247 (b0 : Nat) : xK := oALd 0 <| oILd 1 <| oILd 3 <| oILd 4 <| oILd 5 <| oCallV b0 4 7 (f_X7_boxAct b0) <| oRetI
def k_X7_simple_221 (b0 : Nat) : xK := oALd 0 <| oGetR b0 7 10 <| oILd 1 <| oIal b0 <| oILd 4 <| oC2ge (oCst (0) <| oRetI) <| oCst (10) <| oRetI
def k_X7_simple_239 (b0 : Nat) : xK := oALd 0 <| oILd 1 <| oILd 4 <| oCallV b0 2 7 (f_X7_copyAct b0) <| oRetI
def sw_X7_simple_24 (b0 : Nat) : Nat → xK
  | 0 => k_X7_simple_104 b0
  | 1 => k_X7_simple_144 b0
  | 2 => k_X7_simple_169 b0
  | 3 => k_X7_simple_169 b0
  | 4 => k_X7_simple_169 b0
  | 5 => k_X7_simple_178 b0
  | 6 => k_X7_simple_184 b0
  | 7 => k_X7_simple_194 b0
  | 8 => k_X7_simple_214 b0
  | 9 => k_X7_simple_247 b0
  | 10 => k_X7_simple_247 b0
  | 11 => k_X7_simple_247 b0
  | 12 => k_X7_simple_247 b0
  | 13 => k_X7_simple_247 b0
  | 14 => k_X7_simple_221 b0
  | 15 => k_X7_simple_239 b0
  | _ => k_X7_simple_247 b0
def st_X7_simple_24 : Nat → Nat
  | 0 => 104
  | 1 => 144
  | 2 => 169
  | 3 => 169
  | 4 => 169
  | 5 => 178
  | 6 => 184
  | 7 => 194
  | 8 => 214
  | 9 => 247
  | 10 => 247
  | 11 => 247
  | 12 => 247
  | 13 => 247
  | 14 => 221
  | 15 => 239
  | _ => 0
def k_X7_simple_0 (b0 : Nat) : xK := oALd 0 <| oGetR b0 7 6 <| oILd 2 <| oIal b0 <| oISt 3 <| oALd 0 <| oGetR b0 7 7 <| oILd 2 <| oIal b0 <| oISt 4 <| oALd 0 <| oGetR b0 7 8 <| oILd 2 <| oIal b0 <| oISt 5 <| oILd 3 <| oTab 16 (sw_X7_simple_24 b0) (k_X7_simple_247 b0)
def f_X7_simple (b0 : Nat) : List xV → xH → xR := xfun 3 6 (k_X7_simple_0 b0)
def k_X7_guard_0 (b0 : Nat) (k : Nat → xK) : xK := oCst (0) <| oISt 3 <| oALd 0 <| oCst (1) <| oPutZ b0 7 37 <| oCst (0) <| oISt 4 <| k 0
def k_X7_guard_107 (b0 : Nat) (k : Nat → xK) : xK := oALd 0 <| oCst (0) <| oPutZ b0 7 37 <| oALd 0 <| oDup <| oGetI b0 7 34 <| oCst (1) <| oAdd <| oPutI b0 7 34 <| oILd 3 <| oRetI
def k_X7_guard_99 (b0 : Nat) (k : Nat → xK) : xK := oAdd <| oIas b0 <| oInc 4 (1) <| k 0
def k_X7_guard_82 (b0 : Nat) (k : Nat → xK) : xK := oISt 3 <| oALd 0 <| oGetR b0 7 9 <| oILd 1 <| oDup2 <| oIal b0 <| oILd 3 <| oC1ne (oCst (0) <| k_X7_guard_99 b0 k) <| oCst (1) <| k_X7_guard_99 b0 k
def k_X7_guard_10 (b0 : Nat) (k : Nat → xK) : xK := oILd 4 <| oILd 2 <| oC2ge (k_X7_guard_107 b0 k) <| oILd 3 <| oC1ne (k_X7_guard_107 b0 k) <| oALd 0 <| oGetR b0 7 9 <| oILd 1 <| oIal b0 <| oALd 0 <| oGetR b0 7 5 <| oILd 1 <| oIal b0 <| oC2ge (k_X7_guard_107 b0 k) <| oCst (16) <| oILd 1 <| oMul <| oALd 0 <| oGetR b0 7 9 <| oILd 1 <| oIal b0 <| oAdd <| oISt 5 <| oALd 0 <| oDup <| oGetI b0 7 32 <| oCst (1) <| oAdd <| oPutI b0 7 32 <| oALd 0 <| oGetR b0 7 6 <| oILd 5 <| oIal b0 <| oCst (9) <| oC2ne (oALd 0 <| oILd 1 <| oILd 5 <| oCallV b0 2 7 (f_X7_simple b0) <| k_X7_guard_82 b0 k) <| oCst (8) <| k_X7_guard_82 b0 k
def r_X7_guard (b0 : Nat) : Nat → Nat → xK
  | 0, _ => fun _ _ _ => none
  | n + 1, i => match i with
    | 0 => k_X7_guard_10 b0 (r_X7_guard b0 n)
    | _ => fun _ _ _ => none
def f_X7_guard (b0 : Nat) : List xV → xH → xR := xfun 3 6 (k_X7_guard_0 b0 (r_X7_guard b0 64))
def k_X7_fails_68 (b0 : Nat) : xK := oISt 3 <| oALd 0 <| oGetR b0 7 1 <| oILd 1 <| oIal b0 <| oCst (2) <| oC2ge (oALd 0 <| oGetR b0 7 25 <| oILd 1 <| oIal b0 <| oILd 3 <| oC2ge (oALd 0 <| oGetR b0 7 9 <| oILd 1 <| oDup2 <| oIal b0 <| oCst (1) <| oAdd <| oIas b0 <| oRetV) <| oALd 0 <| oGetR b0 7 25 <| oILd 1 <| oDup2 <| oIal b0 <| oCst (1) <| oAdd <| oIas b0 <| oALd 0 <| oILd 1 <| oCallV b0 1 7 (f_X7_back b0) <| oRetV) <| oALd 0 <| oGetR b0 7 4 <| oILd 1 <| oCst (4) <| oIas b0 <| oRetV
def k_X7_fails_0 (b0 : Nat) : xK := oALd 0 <| oGetR b0 7 22 <| oILd 1 <| oDup2 <| oIal b0 <| oCst (1) <| oAdd <| oIas b0 <| oALd 0 <| oDup <| oGetI b0 7 35 <| oCst (1) <| oAdd <| oPutI b0 7 35 <| oALd 0 <| oGetR b0 7 23 <| oILd 1 <| oILd 2 <| oIas b0 <| oALd 0 <| oGetR b0 7 24 <| oILd 1 <| oALd 0 <| oGetR b0 7 9 <| oILd 1 <| oIal b0 <| oIas b0 <| oALd 0 <| oGetR b0 7 1 <| oILd 1 <| oIal b0 <| oCst (3) <| oC2ne (oALd 0 <| oGetR b0 7 1 <| oILd 1 <| oIal b0 <| oCst (4) <| oC2ne (oCst (0) <| k_X7_fails_68 b0) <| oCst (5) <| k_X7_fails_68 b0) <| oCst (3) <| k_X7_fails_68 b0
def f_X7_fails (b0 : Nat) : List xV → xH → xR := xfun 3 4 (k_X7_fails_0 b0)
def k_X7_acts_105 (b0 : Nat) : xK := oILd 3 <| oC1eq (oALd 0 <| oGetI b0 7 36 <| oC1le (oRetV) <| oALd 0 <| oGetR b0 7 4 <| oILd 1 <| oCst (1) <| oIas b0 <| oALd 0 <| oGetR b0 7 21 <| oILd 1 <| oALd 0 <| oGetI b0 7 31 <| oI2L <| oALd 0 <| oGetI b0 7 36 <| oI2L <| oLadd <| oJas b0 <| oRetV) <| oALd 0 <| oILd 1 <| oILd 3 <| oCallV b0 2 7 (f_X7_fails b0) <| oRetV
def k_X7_acts_103 (b0 : Nat) : xK := oAdd <| oIas b0 <| k_X7_acts_105 b0
def k_X7_acts_102 (b0 : Nat) : xK := oCst (0) <| k_X7_acts_103 b0
def k_X7_acts_0 (b0 : Nat) : xK := oCst (16) <| oILd 1 <| oMul <| oALd 0 <| oGetR b0 7 9 <| oILd 1 <| oIal b0 <| oAdd <| oISt 2 <| oALd 0 <| oDup <| oGetI b0 7 32 <| oCst (1) <| oAdd <| oPutI b0 7 32 <| oALd 0 <| oGetR b0 7 26 <| oILd 1 <| oCst (1) <| oZas b0 <| oALd 0 <| oCst (0) <| oPutI b0 7 36 <| oALd 0 <| oGetR b0 7 6 <| oILd 2 <| oIal b0 <| oCst (9) <| oC2ne (oALd 0 <| oILd 1 <| oILd 2 <| oCallV b0 2 7 (f_X7_simple b0) <| oISt 3 <| oALd 0 <| oGetR b0 7 9 <| oILd 1 <| oDup2 <| oIal b0 <| oILd 3 <| oC1ne (k_X7_acts_102 b0) <| oALd 0 <| oGetR b0 7 4 <| oILd 1 <| oIal b0 <| oCst (2) <| oC2eq (k_X7_acts_102 b0) <| oCst (1) <| k_X7_acts_103 b0) <| oALd 0 <| oGetR b0 7 9 <| oILd 1 <| oDup2 <| oIal b0 <| oCst (1) <| oAdd <| oIas b0 <| oALd 0 <| oILd 1 <| oALd 0 <| oGetR b0 7 7 <| oILd 2 <| oIal b0 <| oCallV b0 2 7 (f_X7_guard b0) <| oISt 3 <| k_X7_acts_105 b0
def f_X7_acts (b0 : Nat) : List xV → xH → xR := xfun 2 4 (k_X7_acts_0 b0)
def k_X7_maybeDone_0 (b0 : Nat) : xK := oALd 0 <| oGetR b0 7 4 <| oILd 1 <| oIal b0 <| oCallS 1 (f_X7_isOver b0) <| oC1ne (oRetV) <| oALd 0 <| oGetR b0 7 4 <| oILd 1 <| oIal b0 <| oCst (2) <| oC2eq (oRetV) <| oALd 0 <| oGetR b0 7 9 <| oILd 1 <| oIal b0 <| oALd 0 <| oGetR b0 7 5 <| oILd 1 <| oIal b0 <| oC2lt (oRetV) <| oALd 0 <| oGetR b0 7 4 <| oILd 1 <| oCst (3) <| oIas b0 <| oALd 0 <| oGetR b0 7 28 <| oALd 0 <| oGetI b0 7 29 <| oILd 1 <| oIas b0 <| oALd 0 <| oDup <| oGetI b0 7 29 <| oCst (1) <| oAdd <| oPutI b0 7 29 <| oRetV
def f_X7_maybeDone (b0 : Nat) : List xV → xH → xR := xfun 2 2 (k_X7_maybeDone_0 b0)
def k_X7_pick_0 (b0 : Nat) (k : Nat → xK) : xK := oCst (-1) <| oISt 1 <| oCst (0) <| oISt 2 <| k 0
def k_X7_pick_73 (b0 : Nat) (k : Nat → xK) : xK := oILd 2 <| oISt 1 <| oInc 2 (1) <| k 0
def k_X7_pick_35 (b0 : Nat) (k : Nat → xK) : xK := oISt 3 <| oILd 3 <| oC1eq (oInc 2 (1) <| k 0) <| oILd 1 <| oC1lt (k_X7_pick_73 b0 k) <| oALd 0 <| oGetR b0 7 2 <| oILd 2 <| oIal b0 <| oALd 0 <| oGetR b0 7 3 <| oILd 2 <| oIal b0 <| oAdd <| oALd 0 <| oGetR b0 7 2 <| oILd 1 <| oIal b0 <| oALd 0 <| oGetR b0 7 3 <| oILd 1 <| oIal b0 <| oAdd <| oC2le (oInc 2 (1) <| k 0) <| k_X7_pick_73 b0 k
def k_X7_pick_34 (b0 : Nat) (k : Nat → xK) : xK := oCst (0) <| k_X7_pick_35 b0 k
def k_X7_pick_4 (b0 : Nat) (k : Nat → xK) : xK := oILd 2 <| oALd 0 <| oGetI b0 7 0 <| oC2ge (oILd 1 <| oRetI) <| oALd 0 <| oGetR b0 7 4 <| oILd 2 <| oIal b0 <| oC1ne (k_X7_pick_34 b0 k) <| oALd 0 <| oGetR b0 7 27 <| oILd 2 <| oZal b0 <| oC1ne (k_X7_pick_34 b0 k) <| oCst (1) <| k_X7_pick_35 b0 k
def r_X7_pick (b0 : Nat) : Nat → Nat → xK
  | 0, _ => fun _ _ _ => none
  | n + 1, i => match i with
    | 0 => k_X7_pick_4 b0 (r_X7_pick b0 n)
    | _ => fun _ _ _ => none
def f_X7_pick (b0 : Nat) : List xV → xH → xR := xfun 1 4 (k_X7_pick_0 b0 (r_X7_pick b0 64))
def k_X7_oneTurn_0 (b0 : Nat) (k : Nat → xK) : xK := oCst (0) <| oISt 1 <| k 0
def k_X7_oneTurn_66 (b0 : Nat) (k : Nat → xK) : xK := oISt 2 <| oALd 0 <| oGetR b0 7 4 <| oILd 1 <| oILd 2 <| oC1eq (oALd 0 <| oGetR b0 7 4 <| oILd 1 <| oIal b0 <| oIas b0 <| oInc 1 (1) <| k 0) <| oCst (0) <| oIas b0 <| oInc 1 (1) <| k 0
def k_X7_oneTurn_65 (b0 : Nat) (k : Nat → xK) : xK := oCst (0) <| k_X7_oneTurn_66 b0 k
def k_X7_oneTurn_61 (b0 : Nat) (k : Nat → xK) : xK := oCst (1) <| k_X7_oneTurn_66 b0 k
def k_X7_oneTurn_42 (b0 : Nat) (k : Nat → xK) : xK := oALd 0 <| oGetR b0 7 4 <| oILd 1 <| oIal b0 <| oCst (2) <| oC2ne (k_X7_oneTurn_65 b0 k) <| oALd 0 <| oGetR b0 7 19 <| oILd 1 <| oIal b0 <| oC1le (k_X7_oneTurn_65 b0 k) <| k_X7_oneTurn_61 b0 k
def k_X7_oneTurn_2 (b0 : Nat) (k : Nat → xK) : xK := oILd 1 <| oALd 0 <| oGetI b0 7 0 <| oC2ge (oCst (0) <| oISt 1 <| k 1) <| oALd 0 <| oGetR b0 7 27 <| oILd 1 <| oCst (0) <| oZas b0 <| oALd 0 <| oGetR b0 7 4 <| oILd 1 <| oIal b0 <| oCst (1) <| oC2ne (k_X7_oneTurn_42 b0 k) <| oALd 0 <| oGetR b0 7 21 <| oILd 1 <| oJal b0 <| oALd 0 <| oGetI b0 7 31 <| oI2L <| oLcmp <| oC1lt (k_X7_oneTurn_61 b0 k) <| k_X7_oneTurn_42 b0 k
def k_X7_oneTurn_146 (b0 : Nat) (k : Nat → xK) : xK := oALd 0 <| oILd 2 <| oCallV b0 1 7 (f_X7_maybeDone b0) <| oInc 1 (1) <| k 1
def k_X7_oneTurn_95 (b0 : Nat) (k : Nat → xK) : xK := oILd 1 <| oALd 0 <| oGetI b0 7 30 <| oC2ge (oCst (0) <| oISt 1 <| k 2) <| oALd 0 <| oCallV b0 0 7 (f_X7_pick b0) <| oISt 2 <| oILd 2 <| oC1lt (oInc 1 (1) <| k 1) <| oALd 0 <| oGetR b0 7 27 <| oILd 2 <| oCst (1) <| oZas b0 <| oALd 0 <| oGetR b0 7 3 <| oILd 2 <| oCst (0) <| oIas b0 <| oALd 0 <| oGetR b0 7 9 <| oILd 2 <| oIal b0 <| oALd 0 <| oGetR b0 7 5 <| oILd 2 <| oIal b0 <| oC2ge (k_X7_oneTurn_146 b0 k) <| oALd 0 <| oILd 2 <| oCallV b0 1 7 (f_X7_acts b0) <| k_X7_oneTurn_146 b0 k
def k_X7_oneTurn_197 (b0 : Nat) (k : Nat → xK) : xK := oAdd <| oIas b0 <| oInc 1 (1) <| k 2
def k_X7_oneTurn_196 (b0 : Nat) (k : Nat → xK) : xK := oCst (0) <| k_X7_oneTurn_197 b0 k
def k_X7_oneTurn_159 (b0 : Nat) (k : Nat → xK) : xK := oILd 1 <| oALd 0 <| oGetI b0 7 0 <| oC2ge (oALd 0 <| oDup <| oGetI b0 7 31 <| oCst (1) <| oAdd <| oPutI b0 7 31 <| oRetV) <| oALd 0 <| oGetR b0 7 3 <| oILd 1 <| oDup2 <| oIal b0 <| oALd 0 <| oGetR b0 7 4 <| oILd 1 <| oIal b0 <| oC1ne (k_X7_oneTurn_196 b0 k) <| oALd 0 <| oGetR b0 7 27 <| oILd 1 <| oZal b0 <| oC1ne (k_X7_oneTurn_196 b0 k) <| oCst (1) <| k_X7_oneTurn_197 b0 k
def r_X7_oneTurn (b0 : Nat) : Nat → Nat → xK
  | 0, _ => fun _ _ _ => none
  | n + 1, i => match i with
    | 0 => k_X7_oneTurn_2 b0 (r_X7_oneTurn b0 n)
    | 1 => k_X7_oneTurn_95 b0 (r_X7_oneTurn b0 n)
    | 2 => k_X7_oneTurn_159 b0 (r_X7_oneTurn b0 n)
    | _ => fun _ _ _ => none
def f_X7_oneTurn (b0 : Nat) : List xV → xH → xR := xfun 1 3 (k_X7_oneTurn_0 b0 (r_X7_oneTurn b0 64))
def k_X7_turn_0 (b0 : Nat) (k : Nat → xK) : xK := oILd 1 <| oCst (1) <| oCst (50) <| oCallS 3 (f_X7_in b0) <| oC1ne (oALd 0 <| oGetI b0 7 32 <| oISt 2 <| oCst (1) <| oISt 3 <| oCst (0) <| oISt 4 <| k 0) <| oCst (-1) <| oRetI
def k_X7_turn_63 (b0 : Nat) (k : Nat → xK) : xK := oALd 0 <| oGetI b0 7 32 <| oILd 2 <| oSub <| oRetI
def k_X7_turn_22 (b0 : Nat) (k : Nat → xK) : xK := oILd 4 <| oILd 1 <| oC2ge (k_X7_turn_63 b0 k) <| oILd 3 <| oC1eq (k_X7_turn_63 b0 k) <| oALd 0 <| oGetI b0 7 32 <| oISt 5 <| oALd 0 <| oCallV b0 0 7 (f_X7_oneTurn b0) <| oALd 0 <| oGetI b0 7 32 <| oILd 5 <| oC2le (oCst (0) <| oISt 3 <| oInc 4 (1) <| k 0) <| oCst (1) <| oISt 3 <| oInc 4 (1) <| k 0
def r_X7_turn (b0 : Nat) : Nat → Nat → xK
  | 0, _ => fun _ _ _ => none
  | n + 1, i => match i with
    | 0 => k_X7_turn_22 b0 (r_X7_turn b0 n)
    | _ => fun _ _ _ => none
def f_X7_turn (b0 : Nat) : List xV → xH → xR := xfun 2 6 (k_X7_turn_0 b0 (r_X7_turn b0 64))
def k_X7_letter_0 (b0 : Nat) : xK := oALd 0 <| oILd 1 <| oCallV b0 1 7 (f_X7_isTask b0) <| oC1ne (oALd 0 <| oGetR b0 7 4 <| oILd 1 <| oIal b0 <| oCallS 1 (f_X7_isOver b0) <| oC1eq (oALd 0 <| oGetR b0 7 19 <| oILd 1 <| oIal b0 <| oCst (6) <| oC2ne (oALd 0 <| oGetR b0 7 20 <| oCst (6) <| oILd 1 <| oMul <| oALd 0 <| oGetR b0 7 19 <| oILd 1 <| oIal b0 <| oAdd <| oILd 2 <| oIas b0 <| oALd 0 <| oGetR b0 7 19 <| oILd 1 <| oDup2 <| oIal b0 <| oCst (1) <| oAdd <| oIas b0 <| oALd 0 <| oGetR b0 7 19 <| oILd 1 <| oIal b0 <| oRetI) <| oCst (-3) <| oRetI) <| oCst (-2) <| oRetI) <| oCst (-1) <| oRetI
def f_X7_letter (b0 : Nat) : List xV → xH → xR := xfun 3 3 (k_X7_letter_0 b0)
def k_X7_stop_0 (b0 : Nat) : xK := oALd 0 <| oILd 1 <| oCallV b0 1 7 (f_X7_isTask b0) <| oC1ne (oALd 0 <| oGetR b0 7 4 <| oILd 1 <| oIal b0 <| oCallS 1 (f_X7_isOver b0) <| oC1eq (oALd 0 <| oGetR b0 7 4 <| oILd 1 <| oCst (5) <| oIas b0 <| oCst (1) <| oRetI) <| oCst (-2) <| oRetI) <| oCst (-1) <| oRetI
def f_X7_stop (b0 : Nat) : List xV → xH → xR := xfun 2 2 (k_X7_stop_0 b0)
def k_X7_again_33 (b0 : Nat) : xK := oALd 0 <| oGetR b0 7 4 <| oILd 1 <| oCst (0) <| oIas b0 <| oALd 0 <| oILd 1 <| oCallV b0 1 7 (f_X7_back b0) <| oCst (1) <| oRetI
def k_X7_again_0 (b0 : Nat) : xK := oALd 0 <| oILd 1 <| oCallV b0 1 7 (f_X7_isTask b0) <| oC1ne (oALd 0 <| oGetR b0 7 4 <| oILd 1 <| oIal b0 <| oCst (4) <| oC2eq (k_X7_again_33 b0) <| oALd 0 <| oGetR b0 7 4 <| oILd 1 <| oIal b0 <| oCst (5) <| oC2eq (k_X7_again_33 b0) <| oCst (-2) <| oRetI) <| oCst (-1) <| oRetI
def f_X7_again (b0 : Nat) : List xV → xH → xR := xfun 2 2 (k_X7_again_0 b0)
def k_X7_of_68 (b0 : Nat) : xK := oALd 0 <| oGetR b0 7 4 <| oILd 1 <| oIal b0 <| oRetI
def k_X7_of_75 (b0 : Nat) : xK := oALd 0 <| oGetR b0 7 10 <| oILd 1 <| oIal b0 <| oRetI
def k_X7_of_82 (b0 : Nat) : xK := oALd 0 <| oGetR b0 7 9 <| oILd 1 <| oIal b0 <| oRetI
def k_X7_of_89 (b0 : Nat) : xK := oALd 0 <| oGetR b0 7 19 <| oILd 1 <| oIal b0 <| oRetI
def k_X7_of_96 (b0 : Nat) : xK := oALd 0 <| oGetR b0 7 3 <| oILd 1 <| oIal b0 <| oRetI
def k_X7_of_103 (b0 : Nat) : xK := oALd 0 <| oGetR b0 7 22 <| oILd 1 <| oIal b0 <| oRetI
def k_X7_of_110 (b0 : Nat) : xK := oALd 0 <| oGetR b0 7 23 <| oILd 1 <| oIal b0 <| oRetI
def k_X7_of_117 (b0 : Nat) : xK := oALd 0 <| oGetR b0 7 11 <| oILd 1 <| oIal b0 <| oRetI
def k_X7_of_124 (b0 : Nat) : xK := oALd 0 <| oGetR b0 7 17 <| oILd 1 <| oIal b0 <| oRetI
def k_X7_of_131 (b0 : Nat) : xK := oALd 0 <| oGetR b0 7 25 <| oILd 1 <| oIal b0 <| oRetI
def k_X7_of_138 (b0 : Nat) : xK := oALd 0 <| oGetR b0 7 24 <| oILd 1 <| oIal b0 <| oRetI
def k_X7_of_145 (b0 : Nat) : xK := oCst (-1) <| oRetI
def sw_X7_of_11 (b0 : Nat) : Nat → xK
  | 0 => k_X7_of_68 b0
  | 1 => k_X7_of_75 b0
  | 2 => k_X7_of_82 b0
  | 3 => k_X7_of_89 b0
  | 4 => k_X7_of_96 b0
  | 5 => k_X7_of_103 b0
  | 6 => k_X7_of_110 b0
  | 7 => k_X7_of_117 b0
  | 8 => k_X7_of_124 b0
  | 9 => k_X7_of_131 b0
  | 10 => k_X7_of_138 b0
  | _ => k_X7_of_145 b0
def st_X7_of_11 : Nat → Nat
  | 0 => 68
  | 1 => 75
  | 2 => 82
  | 3 => 89
  | 4 => 96
  | 5 => 103
  | 6 => 110
  | 7 => 117
  | 8 => 124
  | 9 => 131
  | 10 => 138
  | _ => 0
def k_X7_of_0 (b0 : Nat) : xK := oALd 0 <| oILd 1 <| oCallV b0 1 7 (f_X7_isTask b0) <| oC1ne (oILd 2 <| oTab 11 (sw_X7_of_11 b0) (k_X7_of_145 b0)) <| oCst (-1) <| oRetI
def f_X7_of (b0 : Nat) : List xV → xH → xR := xfun 3 3 (k_X7_of_0 b0)
def k_X7_at_0 (b0 : Nat) : xK := oALd 0 <| oILd 1 <| oCallV b0 1 7 (f_X7_isTask b0) <| oC1ne (oILd 2 <| oC1eq (oILd 3 <| oCst (0) <| oALd 0 <| oGetR b0 7 11 <| oILd 1 <| oIal b0 <| oCst (1) <| oSub <| oCallS 3 (f_X7_in b0) <| oC1eq (oCst (-1) <| oRetI) <| oALd 0 <| oGetR b0 7 12 <| oCst (100) <| oILd 1 <| oMul <| oILd 3 <| oAdd <| oIal b0 <| oRetI) <| oALd 0 <| oGetR b0 7 17 <| oILd 1 <| oIal b0 <| oCst (-4) <| oC2eq (oCst (-1) <| oRetI) <| oILd 3 <| oCst (0) <| oCst (2) <| oCallS 3 (f_X7_in b0) <| oC1ne (oALd 0 <| oGetR b0 7 18 <| oCst (3) <| oILd 1 <| oMul <| oILd 3 <| oAdd <| oIal b0 <| oRetI) <| oCst (-1) <| oRetI) <| oCst (-1) <| oRetI
def f_X7_at (b0 : Nat) : List xV → xH → xR := xfun 4 4 (k_X7_at_0 b0)
def k_X7_letterAt_0 (b0 : Nat) : xK := oALd 0 <| oILd 1 <| oCallV b0 1 7 (f_X7_isTask b0) <| oC1eq (oCst (-1) <| oRetI) <| oILd 2 <| oCst (0) <| oALd 0 <| oGetR b0 7 19 <| oILd 1 <| oIal b0 <| oCst (1) <| oSub <| oCallS 3 (f_X7_in b0) <| oC1eq (oCst (-1) <| oRetI) <| oALd 0 <| oGetR b0 7 20 <| oCst (6) <| oILd 1 <| oMul <| oILd 2 <| oAdd <| oIal b0 <| oRetI
def f_X7_letterAt (b0 : Nat) : List xV → xH → xR := xfun 3 3 (k_X7_letterAt_0 b0)
def k_X7_count_0 (b0 : Nat) (k : Nat → xK) : xK := oCst (0) <| oISt 2 <| oCst (0) <| oISt 3 <| k 0
def k_X7_count_80 (b0 : Nat) (k : Nat → xK) : xK := oALd 0 <| oGetI b0 7 0 <| oRetI
def k_X7_count_85 (b0 : Nat) (k : Nat → xK) : xK := oALd 0 <| oGetI b0 7 31 <| oRetI
def k_X7_count_90 (b0 : Nat) (k : Nat → xK) : xK := oALd 0 <| oGetI b0 7 32 <| oRetI
def k_X7_count_95 (b0 : Nat) (k : Nat → xK) : xK := oALd 0 <| oGetI b0 7 33 <| oRetI
def k_X7_count_100 (b0 : Nat) (k : Nat → xK) : xK := oALd 0 <| oGetI b0 7 34 <| oRetI
def k_X7_count_105 (b0 : Nat) (k : Nat → xK) : xK := oALd 0 <| oGetI b0 7 35 <| oRetI
def k_X7_count_110 (b0 : Nat) (k : Nat → xK) : xK := oILd 2 <| oRetI
def k_X7_count_112 (b0 : Nat) (k : Nat → xK) : xK := oCst (-1) <| oRetI
def k_X7_count_30 (b0 : Nat) (k : Nat → xK) : xK := oAdd <| oISt 2 <| oInc 3 (1) <| k 0
def sw_X7_count_39 (b0 : Nat) (k : Nat → xK) : Nat → xK
  | 0 => k_X7_count_80 b0 k
  | 1 => k_X7_count_85 b0 k
  | 2 => k_X7_count_90 b0 k
  | 3 => k_X7_count_95 b0 k
  | 4 => k_X7_count_100 b0 k
  | 5 => k_X7_count_105 b0 k
  | 6 => k_X7_count_110 b0 k
  | _ => k_X7_count_112 b0 k
def st_X7_count_39 : Nat → Nat
  | 0 => 80
  | 1 => 85
  | 2 => 90
  | 3 => 95
  | 4 => 100
  | 5 => 105
  | 6 => 110
  | _ => 0
def k_X7_count_4 (b0 : Nat) (k : Nat → xK) : xK := oILd 3 <| oALd 0 <| oGetI b0 7 0 <| oC2ge (oILd 1 <| oTab 7 (sw_X7_count_39 b0 k) (k_X7_count_112 b0 k)) <| oILd 2 <| oALd 0 <| oGetR b0 7 4 <| oILd 3 <| oIal b0 <| oCallS 1 (f_X7_isOver b0) <| oC1eq (oCst (1) <| k_X7_count_30 b0 k) <| oCst (0) <| k_X7_count_30 b0 k
def r_X7_count (b0 : Nat) : Nat → Nat → xK
  | 0, _ => fun _ _ _ => none
  | n + 1, i => match i with
    | 0 => k_X7_count_4 b0 (r_X7_count b0 n)
    | _ => fun _ _ _ => none
def f_X7_count (b0 : Nat) : List xV → xH → xR := xfun 2 4 (k_X7_count_0 b0 (r_X7_count b0 64))
def k_X7_done_0 (b0 : Nat) : xK := oILd 1 <| oCst (0) <| oALd 0 <| oGetI b0 7 29 <| oCst (1) <| oSub <| oCallS 3 (f_X7_in b0) <| oC1eq (oCst (-4) <| oRetI) <| oALd 0 <| oGetR b0 7 28 <| oILd 1 <| oIal b0 <| oRetI
def f_X7_done (b0 : Nat) : List xV → xH → xR := xfun 2 2 (k_X7_done_0 b0)
end
section
section M_X0_init
variable {p : Program} {l : Launch} {e : Env} {R : Room} {s : State} {m : MethodId} {args : Array Value} {below : List Frame} {meth : Method} {c : Code} {D : va_G} {cA : Nat → ClassId} {b0 : Nat} {hs : xH} {res : Option xV × xH}
set_option maxRecDepth 20000 in
theorem t_X0_init_0  : xS p l e R s m args below meth c cX0_init 1 none yX0_init.cls yX0_init.name 1 20 D cA b0 hs res (xMQ D cA b0 below args s hs res) (k_X0_init_0 b0) 0 := by
  unfold k_X0_init_0
  refine s_aload_n dX0_init_0 rfl ?_
  refine s_obj w_93 w_43 w_44 (by decide) dX0_init_1 ?_
  refine s_aload_n dX0_init_4 rfl ?_
  refine s_bipush dX0_init_5 (by decide) ?_
  refine s_newi w_78 dX0_init_7 ?_
  refine s_putRF (Tb := TX0) rfl inX0 (by decide) w_94 tyX0 tyX0_ok nmX0 rfl rfl rfl (Or.inr ⟨_, rfl⟩) dX0_init_9 ?_
  refine s_aload_n dX0_init_12 rfl ?_
  refine s_bipush dX0_init_13 (by decide) ?_
  refine s_newi w_78 dX0_init_15 ?_
  refine s_putRF (Tb := TX0) rfl inX0 (by decide) w_96 tyX0 tyX0_ok nmX0 rfl rfl rfl (Or.inr ⟨_, rfl⟩) dX0_init_17 ?_
  refine s_aload_n dX0_init_20 rfl ?_
  refine s_bipush dX0_init_21 (by decide) ?_
  refine s_newi w_78 dX0_init_23 ?_
  refine s_putRF (Tb := TX0) rfl inX0 (by decide) w_98 tyX0 tyX0_ok nmX0 rfl rfl rfl (Or.inr ⟨_, rfl⟩) dX0_init_25 ?_
  exact s_retV rfl dX0_init_28
theorem m_X0_init (l : Launch) (D : va_G) (cA : Nat → ClassId) (b0 : Nat) : xMet l D cA b0 yX0_init (.code yX0_init cX0_init 1 none :: xTB) 1 20 (f_X0_init b0) :=
  xMet_of (n := 1) (by decide +kernel) (by decide) (fun p e R s m args below meth c hs res => t_X0_init_0)
end M_X0_init
section M_X0_append
variable {p : Program} {l : Launch} {e : Env} {R : Room} {s : State} {m : MethodId} {args : Array Value} {below : List Frame} {meth : Method} {c : Code} {D : va_G} {cA : Nat → ClassId} {b0 : Nat} {hs : xH} {res : Option xV × xH}
set_option maxRecDepth 20000 in
theorem t_X0_append_0  : xS p l e R s m args below meth c cX0_append 5 (some .int) yX0_append.cls yX0_append.name 0 0 D cA b0 hs res (xMQ D cA b0 below args s hs res) (k_X0_append_0 b0) 0 := by
  unfold k_X0_append_0
  refine s_aload_n dX0_append_0 rfl ?_
  refine s_getI (Tb := TX0) rfl inX0 (by decide) w_100 dX0_append_1 ?_
  refine s_bipush dX0_append_4 (by decide) ?_
  refine s_c2lt (tgt := 12) dX0_append_6 (by decide) ?_ ?_
  · refine s_aload_n dX0_append_12 rfl ?_
    refine s_getI (Tb := TX0) rfl inX0 (by decide) w_100 dX0_append_13 ?_
    refine s_istore dX0_append_16 (by decide) ?_
    refine s_aload_n dX0_append_18 rfl ?_
    refine s_getR (Tb := TX0) rfl inX0 (by decide) w_94 dX0_append_19 ?_
    refine s_iload dX0_append_22 ?_
    refine s_iload_n dX0_append_24 rfl ?_
    refine s_ias dX0_append_25 ?_
    refine s_aload_n dX0_append_26 rfl ?_
    refine s_getR (Tb := TX0) rfl inX0 (by decide) w_96 dX0_append_27 ?_
    refine s_iload dX0_append_30 ?_
    refine s_iload_n dX0_append_32 rfl ?_
    refine s_ias dX0_append_33 ?_
    refine s_aload_n dX0_append_34 rfl ?_
    refine s_getR (Tb := TX0) rfl inX0 (by decide) w_98 dX0_append_35 ?_
    refine s_iload dX0_append_38 ?_
    refine s_iload_n dX0_append_40 rfl ?_
    refine s_ias dX0_append_41 ?_
    refine s_aload_n dX0_append_42 rfl ?_
    refine s_dup dX0_append_43 ?_
    refine s_getI (Tb := TX0) rfl inX0 (by decide) w_100 dX0_append_44 ?_
    refine s_iconst dX0_append_47 (by decide) ?_
    refine s_iadd dX0_append_48 ?_
    refine s_putI (Tb := TX0) rfl inX0 (by decide) w_100 tyX0 tyX0_ok nmX0 rfl rfl dX0_append_49 ?_
    refine s_iload dX0_append_52 ?_
    exact s_retI rfl dX0_append_54
  · refine s_bipush dX0_append_9 (by decide) ?_
    exact s_retI rfl dX0_append_11
theorem m_X0_append (l : Launch) (D : va_G) (cA : Nat → ClassId) (b0 : Nat) : xMet l D cA b0 yX0_append (.code yX0_append cX0_append 5 (some .int) :: xTB) 0 0 (f_X0_append b0) :=
  xMet_of (n := 4) (by decide +kernel) (by decide) (fun p e R s m args below meth c hs res => t_X0_append_0)
end M_X0_append
section M_X1_init
variable {p : Program} {l : Launch} {e : Env} {R : Room} {s : State} {m : MethodId} {args : Array Value} {below : List Frame} {meth : Method} {c : Code} {D : va_G} {cA : Nat → ClassId} {b0 : Nat} {hs : xH} {res : Option xV × xH}
set_option maxRecDepth 20000 in
theorem t_X1_init_0  : xS p l e R s m args below meth c cX1_init 1 none yX1_init.cls yX1_init.name 1 20 D cA b0 hs res (xMQ D cA b0 below args s hs res) (k_X1_init_0 b0) 0 := by
  unfold k_X1_init_0
  refine s_aload_n dX1_init_0 rfl ?_
  refine s_obj w_148 w_43 w_44 (by decide) dX1_init_1 ?_
  refine s_aload_n dX1_init_4 rfl ?_
  refine s_iconst dX1_init_5 (by decide) ?_
  refine s_newi w_78 dX1_init_6 ?_
  refine s_putRF (Tb := TX1) rfl inX1 (by decide) w_149 tyX1 tyX1_ok nmX1 rfl rfl rfl (Or.inr ⟨_, rfl⟩) dX1_init_8 ?_
  refine s_aload_n dX1_init_11 rfl ?_
  refine s_bipush dX1_init_12 (by decide) ?_
  refine s_putI (Tb := TX1) rfl inX1 (by decide) w_152 tyX1 tyX1_ok nmX1 rfl rfl dX1_init_14 ?_
  exact s_retV rfl dX1_init_17
theorem m_X1_init (l : Launch) (D : va_G) (cA : Nat → ClassId) (b0 : Nat) : xMet l D cA b0 yX1_init (.code yX1_init cX1_init 1 none :: xTB) 1 20 (f_X1_init b0) :=
  xMet_of (n := 1) (by decide +kernel) (by decide) (fun p e R s m args below meth c hs res => t_X1_init_0)
end M_X1_init
section M_X1_isNothing
variable {p : Program} {l : Launch} {e : Env} {R : Room} {s : State} {m : MethodId} {args : Array Value} {below : List Frame} {meth : Method} {c : Code} {D : va_G} {cA : Nat → ClassId} {b0 : Nat} {hs : xH} {res : Option xV × xH}
set_option maxRecDepth 20000 in
theorem t_X1_isNothing_0  : xS p l e R s m args below meth c cX1_isNothing 1 (some .boolean) yX1_isNothing.cls yX1_isNothing.name 0 0 D cA b0 hs res (xMQ D cA b0 below args s hs res) (k_X1_isNothing_0 b0) 0 := by
  unfold k_X1_isNothing_0
  refine s_aload_n dX1_isNothing_0 rfl ?_
  refine s_getI (Tb := TX1) rfl inX1 (by decide) w_152 dX1_isNothing_1 ?_
  refine s_bipush dX1_isNothing_4 (by decide) ?_
  refine s_c2ne (tgt := 13) dX1_isNothing_6 (by decide) ?_ ?_
  · refine s_iconst dX1_isNothing_13 (by decide) ?_
    exact s_retZ rfl dX1_isNothing_14
  · refine s_iconst dX1_isNothing_9 (by decide) ?_
    refine s_goto (tgt := 14) dX1_isNothing_10 (by decide) ?_
    exact s_retZ rfl dX1_isNothing_14
theorem m_X1_isNothing (l : Launch) (D : va_G) (cA : Nat → ClassId) (b0 : Nat) : xMet l D cA b0 yX1_isNothing (.code yX1_isNothing cX1_isNothing 1 (some .boolean) :: xTB) 0 0 (f_X1_isNothing b0) :=
  xMet_of (n := 1) (by decide +kernel) (by decide) (fun p e R s m args below meth c hs res => t_X1_isNothing_0)
end M_X1_isNothing
section M_X1_has
variable {p : Program} {l : Launch} {e : Env} {R : Room} {s : State} {m : MethodId} {args : Array Value} {below : List Frame} {meth : Method} {c : Code} {D : va_G} {cA : Nat → ClassId} {b0 : Nat} {hs : xH} {res : Option xV × xH}
set_option maxRecDepth 20000 in
theorem t_X1_has_0  : xS p l e R s m args below meth c cX1_has 2 (some .boolean) yX1_has.cls yX1_has.name 0 0 D cA b0 hs res (xMQ D cA b0 below args s hs res) (k_X1_has_0 b0) 0 := by
  unfold k_X1_has_0
  refine s_aload_n dX1_has_0 rfl ?_
  refine s_getI (Tb := TX1) rfl inX1 (by decide) w_152 dX1_has_1 ?_
  refine s_bipush dX1_has_4 (by decide) ?_
  refine s_c2eq (tgt := 22) dX1_has_6 (by decide) ?_ ?_
  · refine s_iconst dX1_has_22 (by decide) ?_
    exact s_retZ rfl dX1_has_23
  · refine s_iload_n dX1_has_9 rfl ?_
    refine s_c1lt (tgt := 22) dX1_has_10 (by decide) ?_ ?_
    · refine s_iconst dX1_has_22 (by decide) ?_
      exact s_retZ rfl dX1_has_23
    · refine s_iload_n dX1_has_13 rfl ?_
      refine s_iconst dX1_has_14 (by decide) ?_
      refine s_c2ge (tgt := 22) dX1_has_15 (by decide) ?_ ?_
      · refine s_iconst dX1_has_22 (by decide) ?_
        exact s_retZ rfl dX1_has_23
      · refine s_iconst dX1_has_18 (by decide) ?_
        refine s_goto (tgt := 23) dX1_has_19 (by decide) ?_
        exact s_retZ rfl dX1_has_23
theorem m_X1_has (l : Launch) (D : va_G) (cA : Nat → ClassId) (b0 : Nat) : xMet l D cA b0 yX1_has (.code yX1_has cX1_has 2 (some .boolean) :: xTB) 0 0 (f_X1_has b0) :=
  xMet_of (n := 2) (by decide +kernel) (by decide) (fun p e R s m args below meth c hs res => t_X1_has_0)
end M_X1_has
section M_X1_renew
variable {p : Program} {l : Launch} {e : Env} {R : Room} {s : State} {m : MethodId} {args : Array Value} {below : List Frame} {meth : Method} {c : Code} {D : va_G} {cA : Nat → ClassId} {b0 : Nat} {hs : xH} {res : Option xV × xH}
set_option maxRecDepth 20000 in
theorem t_X1_renew_10 (k : Nat → xK) (hk0 : xS p l e R s m args below meth c cX1_renew 3 none yX1_renew.cls yX1_renew.name 0 0 D cA b0 hs res (xMQ D cA b0 below args s hs res) (k 0) 21) : xS p l e R s m args below meth c cX1_renew 3 none yX1_renew.cls yX1_renew.name 0 0 D cA b0 hs res (xMQ D cA b0 below args s hs res) (k_X1_renew_10 b0 k) 10 := by
  unfold k_X1_renew_10
  refine s_iload_n dX1_renew_10 rfl ?_
  refine s_goto (tgt := 16) dX1_renew_11 (by decide) ?_
  refine s_putI (Tb := TX1) rfl inX1 (by decide) w_152 tyX1 tyX1_ok nmX1 rfl rfl dX1_renew_16 ?_
  refine s_iconst dX1_renew_19 (by decide) ?_
  refine s_istore_n dX1_renew_20 rfl (by decide) ?_
  exact hk0
set_option maxRecDepth 20000 in
theorem t_X1_renew_0 (k : Nat → xK) (hk0 : xS p l e R s m args below meth c cX1_renew 3 none yX1_renew.cls yX1_renew.name 0 0 D cA b0 hs res (xMQ D cA b0 below args s hs res) (k 0) 21) : xS p l e R s m args below meth c cX1_renew 3 none yX1_renew.cls yX1_renew.name 0 0 D cA b0 hs res (xMQ D cA b0 below args s hs res) (k_X1_renew_0 b0 k) 0 := by
  unfold k_X1_renew_0
  refine s_aload_n dX1_renew_0 rfl ?_
  refine s_iload_n dX1_renew_1 rfl ?_
  refine s_c1eq (tgt := 10) dX1_renew_2 (by decide) ?_ ?_
  · exact t_X1_renew_10 k hk0
  · refine s_iload_n dX1_renew_5 rfl ?_
    refine s_iconst dX1_renew_6 (by decide) ?_
    refine s_c2ne (tgt := 14) dX1_renew_7 (by decide) ?_ ?_
    · refine s_bipush dX1_renew_14 (by decide) ?_
      refine s_putI (Tb := TX1) rfl inX1 (by decide) w_152 tyX1 tyX1_ok nmX1 rfl rfl dX1_renew_16 ?_
      refine s_iconst dX1_renew_19 (by decide) ?_
      refine s_istore_n dX1_renew_20 rfl (by decide) ?_
      exact hk0
    · exact t_X1_renew_10 k hk0
set_option maxRecDepth 20000 in
theorem t_X1_renew_21 (k : Nat → xK) (hk0 : xS p l e R s m args below meth c cX1_renew 3 none yX1_renew.cls yX1_renew.name 0 0 D cA b0 hs res (xMQ D cA b0 below args s hs res) (k 0) 21) : xS p l e R s m args below meth c cX1_renew 3 none yX1_renew.cls yX1_renew.name 0 0 D cA b0 hs res (xMQ D cA b0 below args s hs res) (k_X1_renew_21 b0 k) 21 := by
  unfold k_X1_renew_21
  refine s_iload_n dX1_renew_21 rfl ?_
  refine s_iconst dX1_renew_22 (by decide) ?_
  refine s_c2ge (tgt := 52) dX1_renew_23 (by decide) ?_ ?_
  · exact s_retV rfl dX1_renew_52
  · refine s_aload_n dX1_renew_26 rfl ?_
    refine s_getR (Tb := TX1) rfl inX1 (by decide) w_149 dX1_renew_27 ?_
    refine s_iload_n dX1_renew_30 rfl ?_
    refine s_aload_n dX1_renew_31 rfl ?_
    refine s_getI (Tb := TX1) rfl inX1 (by decide) w_152 dX1_renew_32 ?_
    refine s_iconst dX1_renew_35 (by decide) ?_
    refine s_c2ne (tgt := 44) dX1_renew_36 (by decide) ?_ ?_
    · refine s_iconst dX1_renew_44 (by decide) ?_
      refine s_ias dX1_renew_45 ?_
      refine s_iinc dX1_renew_46 (by decide) (by decide) ?_
      refine s_goto (tgt := 21) dX1_renew_49 (by decide) ?_
      exact hk0
    · refine s_bipush dX1_renew_39 (by decide) ?_
      refine s_goto (tgt := 45) dX1_renew_41 (by decide) ?_
      refine s_ias dX1_renew_45 ?_
      refine s_iinc dX1_renew_46 (by decide) (by decide) ?_
      refine s_goto (tgt := 21) dX1_renew_49 (by decide) ?_
      exact hk0
theorem t_X1_renew_r (n : Nat) : xS p l e R s m args below meth c cX1_renew 3 none yX1_renew.cls yX1_renew.name 0 0 D cA b0 hs res (xMQ D cA b0 below args s hs res) (r_X1_renew b0 n 0) 21 := by
  induction n with
  | zero => exact fun ls st h hT => by cases hT
  | succ n ih => exact t_X1_renew_21 (r_X1_renew b0 n) ih
theorem m_X1_renew (l : Launch) (D : va_G) (cA : Nat → ClassId) (b0 : Nat) : xMet l D cA b0 yX1_renew (.code yX1_renew cX1_renew 3 none :: xTB) 0 0 (f_X1_renew b0) :=
  xMet_of (n := 2) (by decide +kernel) (by decide) (fun p e R s m args below meth c hs res => t_X1_renew_0 (r_X1_renew b0 64) (t_X1_renew_r 64))
end M_X1_renew
section M_X1_lookAt
variable {p : Program} {l : Launch} {e : Env} {R : Room} {s : State} {m : MethodId} {args : Array Value} {below : List Frame} {meth : Method} {c : Code} {D : va_G} {cA : Nat → ClassId} {b0 : Nat} {hs : xH} {res : Option xV × xH}
set_option maxRecDepth 20000 in
theorem t_X1_lookAt_19  : xS p l e R s m args below meth c cX1_lookAt 3 (some .int) yX1_lookAt.cls yX1_lookAt.name 0 0 D cA b0 hs res (xMQ D cA b0 below args s hs res) (k_X1_lookAt_19 b0) 19 := by
  unfold k_X1_lookAt_19
  refine s_aload_n dX1_lookAt_19 rfl ?_
  refine s_getI (Tb := TX1) rfl inX1 (by decide) w_152 dX1_lookAt_20 ?_
  refine s_bipush dX1_lookAt_23 (by decide) ?_
  refine s_c2ne (tgt := 30) dX1_lookAt_25 (by decide) ?_ ?_
  · refine s_iload_n dX1_lookAt_30 rfl ?_
    refine s_c1lt (tgt := 43) dX1_lookAt_31 (by decide) ?_ ?_
    · refine s_iconst dX1_lookAt_43 (by decide) ?_
      exact s_retI rfl dX1_lookAt_44
    · refine s_iload_n dX1_lookAt_34 rfl ?_
      refine s_iconst dX1_lookAt_35 (by decide) ?_
      refine s_c2ge (tgt := 43) dX1_lookAt_36 (by decide) ?_ ?_
      · refine s_iconst dX1_lookAt_43 (by decide) ?_
        exact s_retI rfl dX1_lookAt_44
      · refine s_iconst dX1_lookAt_39 (by decide) ?_
        refine s_goto (tgt := 44) dX1_lookAt_40 (by decide) ?_
        exact s_retI rfl dX1_lookAt_44
  · refine s_iconst dX1_lookAt_28 (by decide) ?_
    exact s_retI rfl dX1_lookAt_29
set_option maxRecDepth 20000 in
theorem t_X1_lookAt_0  : xS p l e R s m args below meth c cX1_lookAt 3 (some .int) yX1_lookAt.cls yX1_lookAt.name 0 0 D cA b0 hs res (xMQ D cA b0 below args s hs res) (k_X1_lookAt_0 b0) 0 := by
  unfold k_X1_lookAt_0
  refine s_aload_n dX1_lookAt_0 rfl ?_
  refine s_getI (Tb := TX1) rfl inX1 (by decide) w_152 dX1_lookAt_1 ?_
  refine s_iload_n dX1_lookAt_4 rfl ?_
  refine s_c2eq (tgt := 19) dX1_lookAt_5 (by decide) ?_ ?_
  · exact t_X1_lookAt_19
  · refine s_aload_n dX1_lookAt_8 rfl ?_
    refine s_getI (Tb := TX1) rfl inX1 (by decide) w_152 dX1_lookAt_9 ?_
    refine s_bipush dX1_lookAt_12 (by decide) ?_
    refine s_c2eq (tgt := 19) dX1_lookAt_14 (by decide) ?_ ?_
    · exact t_X1_lookAt_19
    · refine s_iconst dX1_lookAt_17 (by decide) ?_
      exact s_retI rfl dX1_lookAt_18
theorem m_X1_lookAt (l : Launch) (D : va_G) (cA : Nat → ClassId) (b0 : Nat) : xMet l D cA b0 yX1_lookAt (.code yX1_lookAt cX1_lookAt 3 (some .int) :: xTB) 0 0 (f_X1_lookAt b0) :=
  xMet_of (n := 3) (by decide +kernel) (by decide) (fun p e R s m args below meth c hs res => t_X1_lookAt_0)
end M_X1_lookAt
section M_X1_put
variable {p : Program} {l : Launch} {e : Env} {R : Room} {s : State} {m : MethodId} {args : Array Value} {below : List Frame} {meth : Method} {c : Code} {D : va_G} {cA : Nat → ClassId} {b0 : Nat} {hs : xH} {res : Option xV × xH}
set_option maxRecDepth 20000 in
theorem t_X1_put_0  : xS p l e R s m args below meth c cX1_put 5 (some .int) yX1_put.cls yX1_put.name 1 22 D cA b0 hs res (xMQ D cA b0 below args s hs res) (k_X1_put_0 b0) 0 := by
  unfold k_X1_put_0
  refine s_aload_n dX1_put_0 rfl ?_
  refine s_iload_n dX1_put_1 rfl ?_
  refine s_iload_n dX1_put_2 rfl ?_
  refine s_callV (Tb := TX1) (m_X1_lookAt l D cA b0) rfl w_383 w_384 w_385 w_34 w_386 ⟨rfl, by decide, by decide, by decide +kernel⟩ (by decide) dX1_put_3 ?_
  refine s_istore dX1_put_6 (by decide) ?_
  refine s_iload dX1_put_8 ?_
  refine s_c1ne (tgt := 20) dX1_put_10 (by decide) ?_ ?_
  · refine s_iload dX1_put_20 ?_
    exact s_retI rfl dX1_put_22
  · refine s_aload_n dX1_put_13 rfl ?_
    refine s_getR (Tb := TX1) rfl inX1 (by decide) w_149 dX1_put_14 ?_
    refine s_iload_n dX1_put_17 rfl ?_
    refine s_iload_n dX1_put_18 rfl ?_
    refine s_ias dX1_put_19 ?_
    refine s_iload dX1_put_20 ?_
    exact s_retI rfl dX1_put_22
theorem m_X1_put (l : Launch) (D : va_G) (cA : Nat → ClassId) (b0 : Nat) : xMet l D cA b0 yX1_put (.code yX1_put cX1_put 5 (some .int) :: xTB) 1 22 (f_X1_put b0) :=
  xMet_of (n := 4) (by decide +kernel) (by decide) (fun p e R s m args below meth c hs res => t_X1_put_0)
end M_X1_put
section M_X2_init
variable {p : Program} {l : Launch} {e : Env} {R : Room} {s : State} {m : MethodId} {args : Array Value} {below : List Frame} {meth : Method} {c : Code} {D : va_G} {cA : Nat → ClassId} {b0 : Nat} {hs : xH} {res : Option xV × xH}
set_option maxRecDepth 20000 in
theorem t_X2_init_0  : xS p l e R s m args below meth c cX2_init 1 none yX2_init.cls yX2_init.name 1 20 D cA b0 hs res (xMQ D cA b0 below args s hs res) (k_X2_init_0 b0) 0 := by
  unfold k_X2_init_0
  refine s_aload_n dX2_init_0 rfl ?_
  refine s_obj w_116 w_43 w_44 (by decide) dX2_init_1 ?_
  refine s_aload_n dX2_init_4 rfl ?_
  refine s_bipush dX2_init_5 (by decide) ?_
  refine s_newi w_78 dX2_init_7 ?_
  refine s_putRF (Tb := TX2) rfl inX2 (by decide) w_117 tyX2 tyX2_ok nmX2 rfl rfl rfl (Or.inr ⟨_, rfl⟩) dX2_init_9 ?_
  exact s_retV rfl dX2_init_12
theorem m_X2_init (l : Launch) (D : va_G) (cA : Nat → ClassId) (b0 : Nat) : xMet l D cA b0 yX2_init (.code yX2_init cX2_init 1 none :: xTB) 1 20 (f_X2_init b0) :=
  xMet_of (n := 1) (by decide +kernel) (by decide) (fun p e R s m args below meth c hs res => t_X2_init_0)
end M_X2_init
section M_X2_isFull
variable {p : Program} {l : Launch} {e : Env} {R : Room} {s : State} {m : MethodId} {args : Array Value} {below : List Frame} {meth : Method} {c : Code} {D : va_G} {cA : Nat → ClassId} {b0 : Nat} {hs : xH} {res : Option xV × xH}
set_option maxRecDepth 20000 in
theorem t_X2_isFull_0  : xS p l e R s m args below meth c cX2_isFull 1 (some .boolean) yX2_isFull.cls yX2_isFull.name 0 0 D cA b0 hs res (xMQ D cA b0 below args s hs res) (k_X2_isFull_0 b0) 0 := by
  unfold k_X2_isFull_0
  refine s_aload_n dX2_isFull_0 rfl ?_
  refine s_getI (Tb := TX2) rfl inX2 (by decide) w_119 dX2_isFull_1 ?_
  refine s_bipush dX2_isFull_4 (by decide) ?_
  refine s_c2lt (tgt := 13) dX2_isFull_6 (by decide) ?_ ?_
  · refine s_iconst dX2_isFull_13 (by decide) ?_
    exact s_retZ rfl dX2_isFull_14
  · refine s_iconst dX2_isFull_9 (by decide) ?_
    refine s_goto (tgt := 14) dX2_isFull_10 (by decide) ?_
    exact s_retZ rfl dX2_isFull_14
theorem m_X2_isFull (l : Launch) (D : va_G) (cA : Nat → ClassId) (b0 : Nat) : xMet l D cA b0 yX2_isFull (.code yX2_isFull cX2_isFull 1 (some .boolean) :: xTB) 0 0 (f_X2_isFull b0) :=
  xMet_of (n := 1) (by decide +kernel) (by decide) (fun p e R s m args below meth c hs res => t_X2_isFull_0)
end M_X2_isFull
section M_X2_has
variable {p : Program} {l : Launch} {e : Env} {R : Room} {s : State} {m : MethodId} {args : Array Value} {below : List Frame} {meth : Method} {c : Code} {D : va_G} {cA : Nat → ClassId} {b0 : Nat} {hs : xH} {res : Option xV × xH}
set_option maxRecDepth 20000 in
theorem t_X2_has_0  : xS p l e R s m args below meth c cX2_has 2 (some .boolean) yX2_has.cls yX2_has.name 0 0 D cA b0 hs res (xMQ D cA b0 below args s hs res) (k_X2_has_0 b0) 0 := by
  unfold k_X2_has_0
  refine s_iload_n dX2_has_0 rfl ?_
  refine s_c1lt (tgt := 16) dX2_has_1 (by decide) ?_ ?_
  · refine s_iconst dX2_has_16 (by decide) ?_
    exact s_retZ rfl dX2_has_17
  · refine s_iload_n dX2_has_4 rfl ?_
    refine s_aload_n dX2_has_5 rfl ?_
    refine s_getI (Tb := TX2) rfl inX2 (by decide) w_119 dX2_has_6 ?_
    refine s_c2ge (tgt := 16) dX2_has_9 (by decide) ?_ ?_
    · refine s_iconst dX2_has_16 (by decide) ?_
      exact s_retZ rfl dX2_has_17
    · refine s_iconst dX2_has_12 (by decide) ?_
      refine s_goto (tgt := 17) dX2_has_13 (by decide) ?_
      exact s_retZ rfl dX2_has_17
theorem m_X2_has (l : Launch) (D : va_G) (cA : Nat → ClassId) (b0 : Nat) : xMet l D cA b0 yX2_has (.code yX2_has cX2_has 2 (some .boolean) :: xTB) 0 0 (f_X2_has b0) :=
  xMet_of (n := 2) (by decide +kernel) (by decide) (fun p e R s m args below meth c hs res => t_X2_has_0)
end M_X2_has
section M_X2_append
variable {p : Program} {l : Launch} {e : Env} {R : Room} {s : State} {m : MethodId} {args : Array Value} {below : List Frame} {meth : Method} {c : Code} {D : va_G} {cA : Nat → ClassId} {b0 : Nat} {hs : xH} {res : Option xV × xH}
set_option maxRecDepth 20000 in
theorem t_X2_append_0  : xS p l e R s m args below meth c cX2_append 2 none yX2_append.cls yX2_append.name 0 0 D cA b0 hs res (xMQ D cA b0 below args s hs res) (k_X2_append_0 b0) 0 := by
  unfold k_X2_append_0
  refine s_aload_n dX2_append_0 rfl ?_
  refine s_getI (Tb := TX2) rfl inX2 (by decide) w_119 dX2_append_1 ?_
  refine s_bipush dX2_append_4 (by decide) ?_
  refine s_c2ge (tgt := 29) dX2_append_6 (by decide) ?_ ?_
  · exact s_retV rfl dX2_append_29
  · refine s_aload_n dX2_append_9 rfl ?_
    refine s_getR (Tb := TX2) rfl inX2 (by decide) w_117 dX2_append_10 ?_
    refine s_aload_n dX2_append_13 rfl ?_
    refine s_getI (Tb := TX2) rfl inX2 (by decide) w_119 dX2_append_14 ?_
    refine s_iload_n dX2_append_17 rfl ?_
    refine s_ias dX2_append_18 ?_
    refine s_aload_n dX2_append_19 rfl ?_
    refine s_dup dX2_append_20 ?_
    refine s_getI (Tb := TX2) rfl inX2 (by decide) w_119 dX2_append_21 ?_
    refine s_iconst dX2_append_24 (by decide) ?_
    refine s_iadd dX2_append_25 ?_
    refine s_putI (Tb := TX2) rfl inX2 (by decide) w_119 tyX2 tyX2_ok nmX2 rfl rfl dX2_append_26 ?_
    exact s_retV rfl dX2_append_29
theorem m_X2_append (l : Launch) (D : va_G) (cA : Nat → ClassId) (b0 : Nat) : xMet l D cA b0 yX2_append (.code yX2_append cX2_append 2 none :: xTB) 0 0 (f_X2_append b0) :=
  xMet_of (n := 2) (by decide +kernel) (by decide) (fun p e R s m args below meth c hs res => t_X2_append_0)
end M_X2_append
section M_X2_removeEldest
variable {p : Program} {l : Launch} {e : Env} {R : Room} {s : State} {m : MethodId} {args : Array Value} {below : List Frame} {meth : Method} {c : Code} {D : va_G} {cA : Nat → ClassId} {b0 : Nat} {hs : xH} {res : Option xV × xH}
set_option maxRecDepth 20000 in
theorem t_X2_removeEldest_0 (k : Nat → xK) (hk0 : xS p l e R s m args below meth c cX2_removeEldest 3 (some .int) yX2_removeEldest.cls yX2_removeEldest.name 0 0 D cA b0 hs res (xMQ D cA b0 below args s hs res) (k 0) 28) : xS p l e R s m args below meth c cX2_removeEldest 3 (some .int) yX2_removeEldest.cls yX2_removeEldest.name 0 0 D cA b0 hs res (xMQ D cA b0 below args s hs res) (k_X2_removeEldest_0 b0 k) 0 := by
  unfold k_X2_removeEldest_0
  refine s_aload_n dX2_removeEldest_0 rfl ?_
  refine s_getI (Tb := TX2) rfl inX2 (by decide) w_119 dX2_removeEldest_1 ?_
  refine s_c1gt (tgt := 9) dX2_removeEldest_4 (by decide) ?_ ?_
  · refine s_aload_n dX2_removeEldest_9 rfl ?_
    refine s_getR (Tb := TX2) rfl inX2 (by decide) w_117 dX2_removeEldest_10 ?_
    refine s_iconst dX2_removeEldest_13 (by decide) ?_
    refine s_ial dX2_removeEldest_14 ?_
    refine s_istore_n dX2_removeEldest_15 rfl (by decide) ?_
    refine s_aload_n dX2_removeEldest_16 rfl ?_
    refine s_dup dX2_removeEldest_17 ?_
    refine s_getI (Tb := TX2) rfl inX2 (by decide) w_119 dX2_removeEldest_18 ?_
    refine s_iconst dX2_removeEldest_21 (by decide) ?_
    refine s_isub dX2_removeEldest_22 ?_
    refine s_putI (Tb := TX2) rfl inX2 (by decide) w_119 tyX2 tyX2_ok nmX2 rfl rfl dX2_removeEldest_23 ?_
    refine s_iconst dX2_removeEldest_26 (by decide) ?_
    refine s_istore_n dX2_removeEldest_27 rfl (by decide) ?_
    exact hk0
  · refine s_iconst dX2_removeEldest_7 (by decide) ?_
    exact s_retI rfl dX2_removeEldest_8
set_option maxRecDepth 20000 in
theorem t_X2_removeEldest_28 (k : Nat → xK) (hk0 : xS p l e R s m args below meth c cX2_removeEldest 3 (some .int) yX2_removeEldest.cls yX2_removeEldest.name 0 0 D cA b0 hs res (xMQ D cA b0 below args s hs res) (k 0) 28) : xS p l e R s m args below meth c cX2_removeEldest 3 (some .int) yX2_removeEldest.cls yX2_removeEldest.name 0 0 D cA b0 hs res (xMQ D cA b0 below args s hs res) (k_X2_removeEldest_28 b0 k) 28 := by
  unfold k_X2_removeEldest_28
  refine s_iload_n dX2_removeEldest_28 rfl ?_
  refine s_aload_n dX2_removeEldest_29 rfl ?_
  refine s_getI (Tb := TX2) rfl inX2 (by decide) w_119 dX2_removeEldest_30 ?_
  refine s_c2ge (tgt := 56) dX2_removeEldest_33 (by decide) ?_ ?_
  · refine s_iload_n dX2_removeEldest_56 rfl ?_
    exact s_retI rfl dX2_removeEldest_57
  · refine s_aload_n dX2_removeEldest_36 rfl ?_
    refine s_getR (Tb := TX2) rfl inX2 (by decide) w_117 dX2_removeEldest_37 ?_
    refine s_iload_n dX2_removeEldest_40 rfl ?_
    refine s_aload_n dX2_removeEldest_41 rfl ?_
    refine s_getR (Tb := TX2) rfl inX2 (by decide) w_117 dX2_removeEldest_42 ?_
    refine s_iload_n dX2_removeEldest_45 rfl ?_
    refine s_iconst dX2_removeEldest_46 (by decide) ?_
    refine s_iadd dX2_removeEldest_47 ?_
    refine s_ial dX2_removeEldest_48 ?_
    refine s_ias dX2_removeEldest_49 ?_
    refine s_iinc dX2_removeEldest_50 (by decide) (by decide) ?_
    refine s_goto (tgt := 28) dX2_removeEldest_53 (by decide) ?_
    exact hk0
theorem t_X2_removeEldest_r (n : Nat) : xS p l e R s m args below meth c cX2_removeEldest 3 (some .int) yX2_removeEldest.cls yX2_removeEldest.name 0 0 D cA b0 hs res (xMQ D cA b0 below args s hs res) (r_X2_removeEldest b0 n 0) 28 := by
  induction n with
  | zero => exact fun ls st h hT => by cases hT
  | succ n ih => exact t_X2_removeEldest_28 (r_X2_removeEldest b0 n) ih
theorem m_X2_removeEldest (l : Launch) (D : va_G) (cA : Nat → ClassId) (b0 : Nat) : xMet l D cA b0 yX2_removeEldest (.code yX2_removeEldest cX2_removeEldest 3 (some .int) :: xTB) 0 0 (f_X2_removeEldest b0) :=
  xMet_of (n := 1) (by decide +kernel) (by decide) (fun p e R s m args below meth c hs res => t_X2_removeEldest_0 (r_X2_removeEldest b0 64) (t_X2_removeEldest_r 64))
end M_X2_removeEldest
section M_X4_init
variable {p : Program} {l : Launch} {e : Env} {R : Room} {s : State} {m : MethodId} {args : Array Value} {below : List Frame} {meth : Method} {c : Code} {D : va_G} {cA : Nat → ClassId} {b0 : Nat} {hs : xH} {res : Option xV × xH}
set_option maxRecDepth 20000 in
theorem t_X4_init_0  : xS p l e R s m args below meth c cX4_init 1 none yX4_init.cls yX4_init.name 1 20 D cA b0 hs res (xMQ D cA b0 below args s hs res) (k_X4_init_0 b0) 0 := by
  unfold k_X4_init_0
  refine s_aload_n dX4_init_0 rfl ?_
  refine s_obj w_132 w_43 w_44 (by decide) dX4_init_1 ?_
  refine s_aload_n dX4_init_4 rfl ?_
  refine s_bipush dX4_init_5 (by decide) ?_
  refine s_newi w_78 dX4_init_7 ?_
  refine s_putRF (Tb := TX4) rfl inX4 (by decide) w_133 tyX4 tyX4_ok nmX4 rfl rfl rfl (Or.inr ⟨_, rfl⟩) dX4_init_9 ?_
  refine s_aload_n dX4_init_12 rfl ?_
  refine s_bipush dX4_init_13 (by decide) ?_
  refine s_putI (Tb := TX4) rfl inX4 (by decide) w_136 tyX4 tyX4_ok nmX4 rfl rfl dX4_init_15 ?_
  exact s_retV rfl dX4_init_18
theorem m_X4_init (l : Launch) (D : va_G) (cA : Nat → ClassId) (b0 : Nat) : xMet l D cA b0 yX4_init (.code yX4_init cX4_init 1 none :: xTB) 1 20 (f_X4_init b0) :=
  xMet_of (n := 1) (by decide +kernel) (by decide) (fun p e R s m args below meth c hs res => t_X4_init_0)
end M_X4_init
section M_X3_init
variable {p : Program} {l : Launch} {e : Env} {R : Room} {s : State} {m : MethodId} {args : Array Value} {below : List Frame} {meth : Method} {c : Code} {D : va_G} {cA : Nat → ClassId} {b0 : Nat} {hs : xH} {res : Option xV × xH}
set_option maxRecDepth 20000 in
theorem t_X3_init_0  : xS p l e R s m args below meth c cX3_init 1 none yX3_init.cls yX3_init.name 2 40 D cA b0 hs res (xMQ D cA b0 below args s hs res) (k_X3_init_0 b0) 0 := by
  unfold k_X3_init_0
  refine s_aload_n dX3_init_0 rfl ?_
  refine s_obj w_164 w_43 w_44 (by decide) dX3_init_1 ?_
  refine s_aload_n dX3_init_4 rfl ?_
  refine s_new (Tb := TX4) rfl inX4 tyX4 tyX4_ok w_165 w_128 w_33 nd_X4 rfl dX3_init_5 ?_
  refine s_dup dX3_init_8 ?_
  refine s_callI (m_X4_init l D cA b0) w_166 w_130 w_33 w_131 rfl ⟨by decide, by decide, by decide +kernel⟩ (by decide) dX3_init_9 ?_
  refine s_putRF (Tb := TX3) rfl inX3 (by decide) w_167 tyX3 tyX3_ok nmX3 rfl rfl rfl (Or.inl ⟨_, rfl⟩) dX3_init_12 ?_
  exact s_retV rfl dX3_init_15
theorem m_X3_init (l : Launch) (D : va_G) (cA : Nat → ClassId) (b0 : Nat) : xMet l D cA b0 yX3_init (.code yX3_init cX3_init 1 none :: xTB) 2 40 (f_X3_init b0) :=
  xMet_of (n := 1) (by decide +kernel) (by decide) (fun p e R s m args below meth c hs res => t_X3_init_0)
end M_X3_init
section M_X4_isNothing
variable {p : Program} {l : Launch} {e : Env} {R : Room} {s : State} {m : MethodId} {args : Array Value} {below : List Frame} {meth : Method} {c : Code} {D : va_G} {cA : Nat → ClassId} {b0 : Nat} {hs : xH} {res : Option xV × xH}
set_option maxRecDepth 20000 in
theorem t_X4_isNothing_0  : xS p l e R s m args below meth c cX4_isNothing 1 (some .boolean) yX4_isNothing.cls yX4_isNothing.name 0 0 D cA b0 hs res (xMQ D cA b0 below args s hs res) (k_X4_isNothing_0 b0) 0 := by
  unfold k_X4_isNothing_0
  refine s_aload_n dX4_isNothing_0 rfl ?_
  refine s_getI (Tb := TX4) rfl inX4 (by decide) w_136 dX4_isNothing_1 ?_
  refine s_bipush dX4_isNothing_4 (by decide) ?_
  refine s_c2ne (tgt := 13) dX4_isNothing_6 (by decide) ?_ ?_
  · refine s_iconst dX4_isNothing_13 (by decide) ?_
    exact s_retZ rfl dX4_isNothing_14
  · refine s_iconst dX4_isNothing_9 (by decide) ?_
    refine s_goto (tgt := 14) dX4_isNothing_10 (by decide) ?_
    exact s_retZ rfl dX4_isNothing_14
theorem m_X4_isNothing (l : Launch) (D : va_G) (cA : Nat → ClassId) (b0 : Nat) : xMet l D cA b0 yX4_isNothing (.code yX4_isNothing cX4_isNothing 1 (some .boolean) :: xTB) 0 0 (f_X4_isNothing b0) :=
  xMet_of (n := 1) (by decide +kernel) (by decide) (fun p e R s m args below meth c hs res => t_X4_isNothing_0)
end M_X4_isNothing
section M_X4_has
variable {p : Program} {l : Launch} {e : Env} {R : Room} {s : State} {m : MethodId} {args : Array Value} {below : List Frame} {meth : Method} {c : Code} {D : va_G} {cA : Nat → ClassId} {b0 : Nat} {hs : xH} {res : Option xV × xH}
set_option maxRecDepth 20000 in
theorem t_X4_has_0  : xS p l e R s m args below meth c cX4_has 2 (some .boolean) yX4_has.cls yX4_has.name 0 0 D cA b0 hs res (xMQ D cA b0 below args s hs res) (k_X4_has_0 b0) 0 := by
  unfold k_X4_has_0
  refine s_iload_n dX4_has_0 rfl ?_
  refine s_c1lt (tgt := 22) dX4_has_1 (by decide) ?_ ?_
  · refine s_iconst dX4_has_22 (by decide) ?_
    exact s_retZ rfl dX4_has_23
  · refine s_iload_n dX4_has_4 rfl ?_
    refine s_aload_n dX4_has_5 rfl ?_
    refine s_getI (Tb := TX4) rfl inX4 (by decide) w_136 dX4_has_6 ?_
    refine s_c2ge (tgt := 22) dX4_has_9 (by decide) ?_ ?_
    · refine s_iconst dX4_has_22 (by decide) ?_
      exact s_retZ rfl dX4_has_23
    · refine s_iload_n dX4_has_12 rfl ?_
      refine s_bipush dX4_has_13 (by decide) ?_
      refine s_c2ge (tgt := 22) dX4_has_15 (by decide) ?_ ?_
      · refine s_iconst dX4_has_22 (by decide) ?_
        exact s_retZ rfl dX4_has_23
      · refine s_iconst dX4_has_18 (by decide) ?_
        refine s_goto (tgt := 23) dX4_has_19 (by decide) ?_
        exact s_retZ rfl dX4_has_23
theorem m_X4_has (l : Launch) (D : va_G) (cA : Nat → ClassId) (b0 : Nat) : xMet l D cA b0 yX4_has (.code yX4_has cX4_has 2 (some .boolean) :: xTB) 0 0 (f_X4_has b0) :=
  xMet_of (n := 2) (by decide +kernel) (by decide) (fun p e R s m args below meth c hs res => t_X4_has_0)
end M_X4_has
section M_X4_renew
variable {p : Program} {l : Launch} {e : Env} {R : Room} {s : State} {m : MethodId} {args : Array Value} {below : List Frame} {meth : Method} {c : Code} {D : va_G} {cA : Nat → ClassId} {b0 : Nat} {hs : xH} {res : Option xV × xH}
set_option maxRecDepth 20000 in
theorem t_X4_renew_0 (k : Nat → xK) (hk0 : xS p l e R s m args below meth c cX4_renew 3 none yX4_renew.cls yX4_renew.name 0 0 D cA b0 hs res (xMQ D cA b0 below args s hs res) (k 0) 2) : xS p l e R s m args below meth c cX4_renew 3 none yX4_renew.cls yX4_renew.name 0 0 D cA b0 hs res (xMQ D cA b0 below args s hs res) (k_X4_renew_0 b0 k) 0 := by
  unfold k_X4_renew_0
  refine s_iconst dX4_renew_0 (by decide) ?_
  refine s_istore_n dX4_renew_1 rfl (by decide) ?_
  exact hk0
set_option maxRecDepth 20000 in
theorem t_X4_renew_2 (k : Nat → xK) (hk0 : xS p l e R s m args below meth c cX4_renew 3 none yX4_renew.cls yX4_renew.name 0 0 D cA b0 hs res (xMQ D cA b0 below args s hs res) (k 0) 2) : xS p l e R s m args below meth c cX4_renew 3 none yX4_renew.cls yX4_renew.name 0 0 D cA b0 hs res (xMQ D cA b0 below args s hs res) (k_X4_renew_2 b0 k) 2 := by
  unfold k_X4_renew_2
  refine s_iload_n dX4_renew_2 rfl ?_
  refine s_bipush dX4_renew_3 (by decide) ?_
  refine s_c2ge (tgt := 21) dX4_renew_5 (by decide) ?_ ?_
  · refine s_aload_n dX4_renew_21 rfl ?_
    refine s_iload_n dX4_renew_22 rfl ?_
    refine s_putI (Tb := TX4) rfl inX4 (by decide) w_136 tyX4 tyX4_ok nmX4 rfl rfl dX4_renew_23 ?_
    exact s_retV rfl dX4_renew_26
  · refine s_aload_n dX4_renew_8 rfl ?_
    refine s_getR (Tb := TX4) rfl inX4 (by decide) w_133 dX4_renew_9 ?_
    refine s_iload_n dX4_renew_12 rfl ?_
    refine s_iconst dX4_renew_13 (by decide) ?_
    refine s_ias dX4_renew_14 ?_
    refine s_iinc dX4_renew_15 (by decide) (by decide) ?_
    refine s_goto (tgt := 2) dX4_renew_18 (by decide) ?_
    exact hk0
theorem t_X4_renew_r (n : Nat) : xS p l e R s m args below meth c cX4_renew 3 none yX4_renew.cls yX4_renew.name 0 0 D cA b0 hs res (xMQ D cA b0 below args s hs res) (r_X4_renew b0 n 0) 2 := by
  induction n with
  | zero => exact fun ls st h hT => by cases hT
  | succ n ih => exact t_X4_renew_2 (r_X4_renew b0 n) ih
theorem m_X4_renew (l : Launch) (D : va_G) (cA : Nat → ClassId) (b0 : Nat) : xMet l D cA b0 yX4_renew (.code yX4_renew cX4_renew 3 none :: xTB) 0 0 (f_X4_renew b0) :=
  xMet_of (n := 2) (by decide +kernel) (by decide) (fun p e R s m args below meth c hs res => t_X4_renew_0 (r_X4_renew b0 64) (t_X4_renew_r 64))
end M_X4_renew
section M_X4_copyFrom
variable {p : Program} {l : Launch} {e : Env} {R : Room} {s : State} {m : MethodId} {args : Array Value} {below : List Frame} {meth : Method} {c : Code} {D : va_G} {cA : Nat → ClassId} {b0 : Nat} {hs : xH} {res : Option xV × xH}
set_option maxRecDepth 20000 in
theorem t_X4_copyFrom_0 (k : Nat → xK) (hk0 : xS p l e R s m args below meth c cX4_copyFrom 3 none yX4_copyFrom.cls yX4_copyFrom.name 0 0 D cA b0 hs res (xMQ D cA b0 below args s hs res) (k 0) 2) : xS p l e R s m args below meth c cX4_copyFrom 3 none yX4_copyFrom.cls yX4_copyFrom.name 0 0 D cA b0 hs res (xMQ D cA b0 below args s hs res) (k_X4_copyFrom_0 b0 k) 0 := by
  unfold k_X4_copyFrom_0
  refine s_iconst dX4_copyFrom_0 (by decide) ?_
  refine s_istore_n dX4_copyFrom_1 rfl (by decide) ?_
  exact hk0
set_option maxRecDepth 20000 in
theorem t_X4_copyFrom_2 (k : Nat → xK) (hk0 : xS p l e R s m args below meth c cX4_copyFrom 3 none yX4_copyFrom.cls yX4_copyFrom.name 0 0 D cA b0 hs res (xMQ D cA b0 below args s hs res) (k 0) 2) : xS p l e R s m args below meth c cX4_copyFrom 3 none yX4_copyFrom.cls yX4_copyFrom.name 0 0 D cA b0 hs res (xMQ D cA b0 below args s hs res) (k_X4_copyFrom_2 b0 k) 2 := by
  unfold k_X4_copyFrom_2
  refine s_iload_n dX4_copyFrom_2 rfl ?_
  refine s_bipush dX4_copyFrom_3 (by decide) ?_
  refine s_c2ge (tgt := 26) dX4_copyFrom_5 (by decide) ?_ ?_
  · refine s_aload_n dX4_copyFrom_26 rfl ?_
    refine s_aload_n dX4_copyFrom_27 rfl ?_
    refine s_getI (Tb := TX4) rfl inX4 (by decide) w_136 dX4_copyFrom_28 ?_
    refine s_putI (Tb := TX4) rfl inX4 (by decide) w_136 tyX4 tyX4_ok nmX4 rfl rfl dX4_copyFrom_31 ?_
    exact s_retV rfl dX4_copyFrom_34
  · refine s_aload_n dX4_copyFrom_8 rfl ?_
    refine s_getR (Tb := TX4) rfl inX4 (by decide) w_133 dX4_copyFrom_9 ?_
    refine s_iload_n dX4_copyFrom_12 rfl ?_
    refine s_aload_n dX4_copyFrom_13 rfl ?_
    refine s_getR (Tb := TX4) rfl inX4 (by decide) w_133 dX4_copyFrom_14 ?_
    refine s_iload_n dX4_copyFrom_17 rfl ?_
    refine s_ial dX4_copyFrom_18 ?_
    refine s_ias dX4_copyFrom_19 ?_
    refine s_iinc dX4_copyFrom_20 (by decide) (by decide) ?_
    refine s_goto (tgt := 2) dX4_copyFrom_23 (by decide) ?_
    exact hk0
theorem t_X4_copyFrom_r (n : Nat) : xS p l e R s m args below meth c cX4_copyFrom 3 none yX4_copyFrom.cls yX4_copyFrom.name 0 0 D cA b0 hs res (xMQ D cA b0 below args s hs res) (r_X4_copyFrom b0 n 0) 2 := by
  induction n with
  | zero => exact fun ls st h hT => by cases hT
  | succ n ih => exact t_X4_copyFrom_2 (r_X4_copyFrom b0 n) ih
theorem m_X4_copyFrom (l : Launch) (D : va_G) (cA : Nat → ClassId) (b0 : Nat) : xMet l D cA b0 yX4_copyFrom (.code yX4_copyFrom cX4_copyFrom 3 none :: xTB) 0 0 (f_X4_copyFrom b0) :=
  xMet_of (n := 2) (by decide +kernel) (by decide) (fun p e R s m args below meth c hs res => t_X4_copyFrom_0 (r_X4_copyFrom b0 64) (t_X4_copyFrom_r 64))
end M_X4_copyFrom
end
section
section M_X5_init
variable {p : Program} {l : Launch} {e : Env} {R : Room} {s : State} {m : MethodId} {args : Array Value} {below : List Frame} {meth : Method} {c : Code} {D : va_G} {cA : Nat → ClassId} {b0 : Nat} {hs : xH} {res : Option xV × xH}
set_option maxRecDepth 20000 in
theorem t_X5_init_0  : xS p l e R s m args below meth c cX5_init 4 none yX5_init.cls yX5_init.name 3 60 D cA b0 hs res (xMQ D cA b0 below args s hs res) (k_X5_init_0 b0) 0 := by
  unfold k_X5_init_0
  refine s_aload_n dX5_init_0 rfl ?_
  refine s_obj w_87 w_43 w_44 (by decide) dX5_init_1 ?_
  refine s_aload_n dX5_init_4 rfl ?_
  refine s_iload_n dX5_init_5 rfl ?_
  refine s_putIF (Tb := TX5) rfl inX5 (by decide) w_178 tyX5 tyX5_ok nmX5 rfl rfl rfl rfl dX5_init_6 ?_
  refine s_aload_n dX5_init_9 rfl ?_
  refine s_iload_n dX5_init_10 rfl ?_
  refine s_putIF (Tb := TX5) rfl inX5 (by decide) w_180 tyX5 tyX5_ok nmX5 rfl rfl rfl rfl dX5_init_11 ?_
  refine s_aload_n dX5_init_14 rfl ?_
  refine s_iload_n dX5_init_15 rfl ?_
  refine s_putIF (Tb := TX5) rfl inX5 (by decide) w_181 tyX5 tyX5_ok nmX5 rfl rfl rfl rfl dX5_init_16 ?_
  refine s_aload_n dX5_init_19 rfl ?_
  refine s_new (Tb := TX0) rfl inX0 tyX0 tyX0_ok w_88 w_89 w_31 nd_X0 rfl dX5_init_20 ?_
  refine s_dup dX5_init_23 ?_
  refine s_callI (m_X0_init l D cA b0) w_90 w_91 w_31 w_92 rfl ⟨by decide, by decide, by decide +kernel⟩ (by decide) dX5_init_24 ?_
  refine s_putRF (Tb := TX5) rfl inX5 (by decide) w_183 tyX5 tyX5_ok nmX5 rfl rfl rfl (Or.inl ⟨_, rfl⟩) dX5_init_27 ?_
  refine s_aload_n dX5_init_30 rfl ?_
  refine s_new (Tb := TX2) rfl inX2 tyX2 tyX2_ok w_111 w_112 w_32 nd_X2 rfl dX5_init_31 ?_
  refine s_dup dX5_init_34 ?_
  refine s_callI (m_X2_init l D cA b0) w_113 w_114 w_32 w_115 rfl ⟨by decide, by decide, by decide +kernel⟩ (by decide) dX5_init_35 ?_
  refine s_putRF (Tb := TX5) rfl inX5 (by decide) w_185 tyX5 tyX5_ok nmX5 rfl rfl rfl (Or.inl ⟨_, rfl⟩) dX5_init_38 ?_
  refine s_aload_n dX5_init_41 rfl ?_
  refine s_new (Tb := TX4) rfl inX4 tyX4 tyX4_ok w_127 w_128 w_33 nd_X4 rfl dX5_init_42 ?_
  refine s_dup dX5_init_45 ?_
  refine s_callI (m_X4_init l D cA b0) w_129 w_130 w_33 w_131 rfl ⟨by decide, by decide, by decide +kernel⟩ (by decide) dX5_init_46 ?_
  refine s_putRF (Tb := TX5) rfl inX5 (by decide) w_187 tyX5 tyX5_ok nmX5 rfl rfl rfl (Or.inl ⟨_, rfl⟩) dX5_init_49 ?_
  refine s_aload_n dX5_init_52 rfl ?_
  refine s_new (Tb := TX1) rfl inX1 tyX1 tyX1_ok w_143 w_144 w_34 nd_X1 rfl dX5_init_53 ?_
  refine s_dup dX5_init_56 ?_
  refine s_callI (m_X1_init l D cA b0) w_145 w_146 w_34 w_147 rfl ⟨by decide, by decide, by decide +kernel⟩ (by decide) dX5_init_57 ?_
  refine s_putRF (Tb := TX5) rfl inX5 (by decide) w_189 tyX5 tyX5_ok nmX5 rfl rfl rfl (Or.inl ⟨_, rfl⟩) dX5_init_60 ?_
  refine s_aload_n dX5_init_63 rfl ?_
  refine s_new (Tb := TX3) rfl inX3 tyX3 tyX3_ok w_159 w_160 w_35 nd_X3 rfl dX5_init_64 ?_
  refine s_dup dX5_init_67 ?_
  refine s_callI (m_X3_init l D cA b0) w_161 w_162 w_35 w_163 rfl ⟨by decide, by decide, by decide +kernel⟩ (by decide) dX5_init_68 ?_
  refine s_putRF (Tb := TX5) rfl inX5 (by decide) w_191 tyX5 tyX5_ok nmX5 rfl rfl rfl (Or.inl ⟨_, rfl⟩) dX5_init_71 ?_
  refine s_aload_n dX5_init_74 rfl ?_
  refine s_iconst dX5_init_75 (by decide) ?_
  refine s_putI (Tb := TX5) rfl inX5 (by decide) w_192 tyX5 tyX5_ok nmX5 rfl rfl dX5_init_76 ?_
  refine s_aload_n dX5_init_79 rfl ?_
  refine s_iconst dX5_init_80 (by decide) ?_
  refine s_putI (Tb := TX5) rfl inX5 (by decide) w_206 tyX5 tyX5_ok nmX5 rfl rfl dX5_init_81 ?_
  refine s_aload_n dX5_init_84 rfl ?_
  refine s_bipush dX5_init_85 (by decide) ?_
  refine s_putI (Tb := TX5) rfl inX5 (by decide) w_207 tyX5 tyX5_ok nmX5 rfl rfl dX5_init_87 ?_
  exact s_retV rfl dX5_init_90
theorem m_X5_init (l : Launch) (D : va_G) (cA : Nat → ClassId) (b0 : Nat) : xMet l D cA b0 yX5_init (.code yX5_init cX5_init 4 none :: xTB) 3 60 (f_X5_init b0) :=
  xMet_of (n := 4) (by decide +kernel) (by decide) (fun p e R s m args below meth c hs res => t_X5_init_0)
end M_X5_init
section M_X5_isOver
variable {p : Program} {l : Launch} {e : Env} {R : Room} {s : State} {m : MethodId} {args : Array Value} {below : List Frame} {meth : Method} {c : Code} {D : va_G} {cA : Nat → ClassId} {b0 : Nat} {hs : xH} {res : Option xV × xH}
set_option maxRecDepth 20000 in
theorem t_X5_isOver_0  : xS p l e R s m args below meth c cX5_isOver 1 (some .boolean) yX5_isOver.cls yX5_isOver.name 0 0 D cA b0 hs res (xMQ D cA b0 below args s hs res) (k_X5_isOver_0 b0) 0 := by
  unfold k_X5_isOver_0
  refine s_aload_n dX5_isOver_0 rfl ?_
  refine s_getI (Tb := TX5) rfl inX5 (by decide) w_192 dX5_isOver_1 ?_
  refine s_iconst dX5_isOver_4 (by decide) ?_
  refine s_c2eq (tgt := 24) dX5_isOver_5 (by decide) ?_ ?_
  · refine s_iconst dX5_isOver_24 (by decide) ?_
    refine s_goto (tgt := 29) dX5_isOver_25 (by decide) ?_
    exact s_retZ rfl dX5_isOver_29
  · refine s_aload_n dX5_isOver_8 rfl ?_
    refine s_getI (Tb := TX5) rfl inX5 (by decide) w_192 dX5_isOver_9 ?_
    refine s_iconst dX5_isOver_12 (by decide) ?_
    refine s_c2eq (tgt := 24) dX5_isOver_13 (by decide) ?_ ?_
    · refine s_iconst dX5_isOver_24 (by decide) ?_
      refine s_goto (tgt := 29) dX5_isOver_25 (by decide) ?_
      exact s_retZ rfl dX5_isOver_29
    · refine s_aload_n dX5_isOver_16 rfl ?_
      refine s_getI (Tb := TX5) rfl inX5 (by decide) w_192 dX5_isOver_17 ?_
      refine s_iconst dX5_isOver_20 (by decide) ?_
      refine s_c2ne (tgt := 28) dX5_isOver_21 (by decide) ?_ ?_
      · refine s_iconst dX5_isOver_28 (by decide) ?_
        exact s_retZ rfl dX5_isOver_29
      · refine s_iconst dX5_isOver_24 (by decide) ?_
        refine s_goto (tgt := 29) dX5_isOver_25 (by decide) ?_
        exact s_retZ rfl dX5_isOver_29
theorem m_X5_isOver (l : Launch) (D : va_G) (cA : Nat → ClassId) (b0 : Nat) : xMet l D cA b0 yX5_isOver (.code yX5_isOver cX5_isOver 1 (some .boolean) :: xTB) 0 0 (f_X5_isOver b0) :=
  xMet_of (n := 1) (by decide +kernel) (by decide) (fun p e R s m args below meth c hs res => t_X5_isOver_0)
end M_X5_isOver
section M_X5_isReadyIn
variable {p : Program} {l : Launch} {e : Env} {R : Room} {s : State} {m : MethodId} {args : Array Value} {below : List Frame} {meth : Method} {c : Code} {D : va_G} {cA : Nat → ClassId} {b0 : Nat} {hs : xH} {res : Option xV × xH}
set_option maxRecDepth 20000 in
theorem t_X5_isReadyIn_0  : xS p l e R s m args below meth c cX5_isReadyIn 2 (some .boolean) yX5_isReadyIn.cls yX5_isReadyIn.name 0 0 D cA b0 hs res (xMQ D cA b0 below args s hs res) (k_X5_isReadyIn_0 b0) 0 := by
  unfold k_X5_isReadyIn_0
  refine s_aload_n dX5_isReadyIn_0 rfl ?_
  refine s_getI (Tb := TX5) rfl inX5 (by decide) w_192 dX5_isReadyIn_1 ?_
  refine s_c1ne (tgt := 19) dX5_isReadyIn_4 (by decide) ?_ ?_
  · refine s_iconst dX5_isReadyIn_19 (by decide) ?_
    exact s_retZ rfl dX5_isReadyIn_20
  · refine s_aload_n dX5_isReadyIn_7 rfl ?_
    refine s_getI (Tb := TX5) rfl inX5 (by decide) w_202 dX5_isReadyIn_8 ?_
    refine s_iload_n dX5_isReadyIn_11 rfl ?_
    refine s_c2eq (tgt := 19) dX5_isReadyIn_12 (by decide) ?_ ?_
    · refine s_iconst dX5_isReadyIn_19 (by decide) ?_
      exact s_retZ rfl dX5_isReadyIn_20
    · refine s_iconst dX5_isReadyIn_15 (by decide) ?_
      refine s_goto (tgt := 20) dX5_isReadyIn_16 (by decide) ?_
      exact s_retZ rfl dX5_isReadyIn_20
theorem m_X5_isReadyIn (l : Launch) (D : va_G) (cA : Nat → ClassId) (b0 : Nat) : xMet l D cA b0 yX5_isReadyIn (.code yX5_isReadyIn cX5_isReadyIn 2 (some .boolean) :: xTB) 0 0 (f_X5_isReadyIn b0) :=
  xMet_of (n := 2) (by decide +kernel) (by decide) (fun p e R s m args below meth c hs res => t_X5_isReadyIn_0)
end M_X5_isReadyIn
section M_X5_tell
variable {p : Program} {l : Launch} {e : Env} {R : Room} {s : State} {m : MethodId} {args : Array Value} {below : List Frame} {meth : Method} {c : Code} {D : va_G} {cA : Nat → ClassId} {b0 : Nat} {hs : xH} {res : Option xV × xH}
set_option maxRecDepth 20000 in
theorem t_X5_tell_60  : xS p l e R s m args below meth c cX5_tell 2 (some .int) yX5_tell.cls yX5_tell.name 0 0 D cA b0 hs res (xMQ D cA b0 below args s hs res) (k_X5_tell_60 b0) 60 := by
  unfold k_X5_tell_60
  refine s_aload_n dX5_tell_60 rfl ?_
  refine s_getI (Tb := TX5) rfl inX5 (by decide) w_192 dX5_tell_61 ?_
  refine s_goto (tgt := 147) dX5_tell_64 (by decide) ?_
  exact s_retI rfl dX5_tell_147
set_option maxRecDepth 20000 in
theorem t_X5_tell_67  : xS p l e R s m args below meth c cX5_tell 2 (some .int) yX5_tell.cls yX5_tell.name 0 0 D cA b0 hs res (xMQ D cA b0 below args s hs res) (k_X5_tell_67 b0) 67 := by
  unfold k_X5_tell_67
  refine s_aload_n dX5_tell_67 rfl ?_
  refine s_getI (Tb := TX5) rfl inX5 (by decide) w_196 dX5_tell_68 ?_
  refine s_goto (tgt := 147) dX5_tell_71 (by decide) ?_
  exact s_retI rfl dX5_tell_147
set_option maxRecDepth 20000 in
theorem t_X5_tell_74  : xS p l e R s m args below meth c cX5_tell 2 (some .int) yX5_tell.cls yX5_tell.name 0 0 D cA b0 hs res (xMQ D cA b0 below args s hs res) (k_X5_tell_74 b0) 74 := by
  unfold k_X5_tell_74
  refine s_aload_n dX5_tell_74 rfl ?_
  refine s_getI (Tb := TX5) rfl inX5 (by decide) w_198 dX5_tell_75 ?_
  refine s_goto (tgt := 147) dX5_tell_78 (by decide) ?_
  exact s_retI rfl dX5_tell_147
set_option maxRecDepth 20000 in
theorem t_X5_tell_81  : xS p l e R s m args below meth c cX5_tell 2 (some .int) yX5_tell.cls yX5_tell.name 0 0 D cA b0 hs res (xMQ D cA b0 below args s hs res) (k_X5_tell_81 b0) 81 := by
  unfold k_X5_tell_81
  refine s_aload_n dX5_tell_81 rfl ?_
  refine s_getR (Tb := TX5) rfl inX5 (by decide) w_185 dX5_tell_82 ?_
  refine s_getI (Tb := TX2) rfl inX2 (by decide) w_120 dX5_tell_85 ?_
  refine s_goto (tgt := 147) dX5_tell_88 (by decide) ?_
  exact s_retI rfl dX5_tell_147
set_option maxRecDepth 20000 in
theorem t_X5_tell_91  : xS p l e R s m args below meth c cX5_tell 2 (some .int) yX5_tell.cls yX5_tell.name 0 0 D cA b0 hs res (xMQ D cA b0 below args s hs res) (k_X5_tell_91 b0) 91 := by
  unfold k_X5_tell_91
  refine s_aload_n dX5_tell_91 rfl ?_
  refine s_getI (Tb := TX5) rfl inX5 (by decide) w_194 dX5_tell_92 ?_
  refine s_goto (tgt := 147) dX5_tell_95 (by decide) ?_
  exact s_retI rfl dX5_tell_147
set_option maxRecDepth 20000 in
theorem t_X5_tell_98  : xS p l e R s m args below meth c cX5_tell 2 (some .int) yX5_tell.cls yX5_tell.name 0 0 D cA b0 hs res (xMQ D cA b0 below args s hs res) (k_X5_tell_98 b0) 98 := by
  unfold k_X5_tell_98
  refine s_aload_n dX5_tell_98 rfl ?_
  refine s_getI (Tb := TX5) rfl inX5 (by decide) w_205 dX5_tell_99 ?_
  refine s_goto (tgt := 147) dX5_tell_102 (by decide) ?_
  exact s_retI rfl dX5_tell_147
set_option maxRecDepth 20000 in
theorem t_X5_tell_105  : xS p l e R s m args below meth c cX5_tell 2 (some .int) yX5_tell.cls yX5_tell.name 0 0 D cA b0 hs res (xMQ D cA b0 below args s hs res) (k_X5_tell_105 b0) 105 := by
  unfold k_X5_tell_105
  refine s_aload_n dX5_tell_105 rfl ?_
  refine s_getI (Tb := TX5) rfl inX5 (by decide) w_206 dX5_tell_106 ?_
  refine s_goto (tgt := 147) dX5_tell_109 (by decide) ?_
  exact s_retI rfl dX5_tell_147
set_option maxRecDepth 20000 in
theorem t_X5_tell_112  : xS p l e R s m args below meth c cX5_tell 2 (some .int) yX5_tell.cls yX5_tell.name 0 0 D cA b0 hs res (xMQ D cA b0 below args s hs res) (k_X5_tell_112 b0) 112 := by
  unfold k_X5_tell_112
  refine s_aload_n dX5_tell_112 rfl ?_
  refine s_getR (Tb := TX5) rfl inX5 (by decide) w_187 dX5_tell_113 ?_
  refine s_getI (Tb := TX4) rfl inX4 (by decide) w_137 dX5_tell_116 ?_
  refine s_goto (tgt := 147) dX5_tell_119 (by decide) ?_
  exact s_retI rfl dX5_tell_147
set_option maxRecDepth 20000 in
theorem t_X5_tell_122  : xS p l e R s m args below meth c cX5_tell 2 (some .int) yX5_tell.cls yX5_tell.name 0 0 D cA b0 hs res (xMQ D cA b0 below args s hs res) (k_X5_tell_122 b0) 122 := by
  unfold k_X5_tell_122
  refine s_aload_n dX5_tell_122 rfl ?_
  refine s_getR (Tb := TX5) rfl inX5 (by decide) w_189 dX5_tell_123 ?_
  refine s_getI (Tb := TX1) rfl inX1 (by decide) w_153 dX5_tell_126 ?_
  refine s_goto (tgt := 147) dX5_tell_129 (by decide) ?_
  exact s_retI rfl dX5_tell_147
set_option maxRecDepth 20000 in
theorem t_X5_tell_132  : xS p l e R s m args below meth c cX5_tell 2 (some .int) yX5_tell.cls yX5_tell.name 0 0 D cA b0 hs res (xMQ D cA b0 below args s hs res) (k_X5_tell_132 b0) 132 := by
  unfold k_X5_tell_132
  refine s_aload_n dX5_tell_132 rfl ?_
  refine s_getI (Tb := TX5) rfl inX5 (by decide) w_208 dX5_tell_133 ?_
  refine s_goto (tgt := 147) dX5_tell_136 (by decide) ?_
  exact s_retI rfl dX5_tell_147
set_option maxRecDepth 20000 in
theorem t_X5_tell_139  : xS p l e R s m args below meth c cX5_tell 2 (some .int) yX5_tell.cls yX5_tell.name 0 0 D cA b0 hs res (xMQ D cA b0 below args s hs res) (k_X5_tell_139 b0) 139 := by
  unfold k_X5_tell_139
  refine s_aload_n dX5_tell_139 rfl ?_
  refine s_getI (Tb := TX5) rfl inX5 (by decide) w_207 dX5_tell_140 ?_
  refine s_goto (tgt := 147) dX5_tell_143 (by decide) ?_
  exact s_retI rfl dX5_tell_147
set_option maxRecDepth 20000 in
theorem t_X5_tell_146  : xS p l e R s m args below meth c cX5_tell 2 (some .int) yX5_tell.cls yX5_tell.name 0 0 D cA b0 hs res (xMQ D cA b0 below args s hs res) (k_X5_tell_146 b0) 146 := by
  unfold k_X5_tell_146
  refine s_iconst dX5_tell_146 (by decide) ?_
  exact s_retI rfl dX5_tell_147
set_option maxRecDepth 20000 in
theorem t_X5_tell_0  : xS p l e R s m args below meth c cX5_tell 2 (some .int) yX5_tell.cls yX5_tell.name 0 0 D cA b0 hs res (xMQ D cA b0 below args s hs res) (k_X5_tell_0 b0) 0 := by
  unfold k_X5_tell_0
  refine s_iload_n dX5_tell_0 rfl ?_
  refine s_tab (tg := st_X5_tell_1) (dt := 146) dX5_tell_1 (by decide) (by decide) ?_ ?_ (t_X5_tell_146)
  · intro j hj
    match j, hj with
    | 0, _ => exact ⟨59, rfl, by decide⟩
    | 1, _ => exact ⟨66, rfl, by decide⟩
    | 2, _ => exact ⟨73, rfl, by decide⟩
    | 3, _ => exact ⟨80, rfl, by decide⟩
    | 4, _ => exact ⟨90, rfl, by decide⟩
    | 5, _ => exact ⟨97, rfl, by decide⟩
    | 6, _ => exact ⟨104, rfl, by decide⟩
    | 7, _ => exact ⟨111, rfl, by decide⟩
    | 8, _ => exact ⟨121, rfl, by decide⟩
    | 9, _ => exact ⟨131, rfl, by decide⟩
    | 10, _ => exact ⟨138, rfl, by decide⟩
    | q + 11, hj => exact absurd hj (by omega)
  · intro j hj
    match j, hj with
    | 0, _ => exact t_X5_tell_60
    | 1, _ => exact t_X5_tell_67
    | 2, _ => exact t_X5_tell_74
    | 3, _ => exact t_X5_tell_81
    | 4, _ => exact t_X5_tell_91
    | 5, _ => exact t_X5_tell_98
    | 6, _ => exact t_X5_tell_105
    | 7, _ => exact t_X5_tell_112
    | 8, _ => exact t_X5_tell_122
    | 9, _ => exact t_X5_tell_132
    | 10, _ => exact t_X5_tell_139
    | q + 11, hj => exact absurd hj (by omega)
theorem m_X5_tell (l : Launch) (D : va_G) (cA : Nat → ClassId) (b0 : Nat) : xMet l D cA b0 yX5_tell (.code yX5_tell cX5_tell 2 (some .int) :: xTB) 0 0 (f_X5_tell b0) :=
  xMet_of (n := 2) (by decide +kernel) (by decide) (fun p e R s m args below meth c hs res => t_X5_tell_0)
end M_X5_tell
section M_X5_wake
variable {p : Program} {l : Launch} {e : Env} {R : Room} {s : State} {m : MethodId} {args : Array Value} {below : List Frame} {meth : Method} {c : Code} {D : va_G} {cA : Nat → ClassId} {b0 : Nat} {hs : xH} {res : Option xV × xH}
set_option maxRecDepth 20000 in
theorem t_X5_wake_54  : xS p l e R s m args below meth c cX5_wake 1 none yX5_wake.cls yX5_wake.name 0 0 D cA b0 hs res (xMQ D cA b0 below args s hs res) (k_X5_wake_54 b0) 54 := by
  unfold k_X5_wake_54
  refine s_aload_n dX5_wake_54 rfl ?_
  refine s_iconst dX5_wake_55 (by decide) ?_
  refine s_putI (Tb := TX5) rfl inX5 (by decide) w_192 tyX5 tyX5_ok nmX5 rfl rfl dX5_wake_56 ?_
  exact s_retV rfl dX5_wake_59
set_option maxRecDepth 20000 in
theorem t_X5_wake_28  : xS p l e R s m args below meth c cX5_wake 1 none yX5_wake.cls yX5_wake.name 0 0 D cA b0 hs res (xMQ D cA b0 below args s hs res) (k_X5_wake_28 b0) 28 := by
  unfold k_X5_wake_28
  refine s_aload_n dX5_wake_28 rfl ?_
  refine s_getI (Tb := TX5) rfl inX5 (by decide) w_192 dX5_wake_29 ?_
  refine s_iconst dX5_wake_32 (by decide) ?_
  refine s_c2eq (tgt := 54) dX5_wake_33 (by decide) ?_ ?_
  · exact t_X5_wake_54
  · refine s_aload_n dX5_wake_36 rfl ?_
    refine s_getI (Tb := TX5) rfl inX5 (by decide) w_192 dX5_wake_37 ?_
    refine s_iconst dX5_wake_40 (by decide) ?_
    refine s_c2ne (tgt := 59) dX5_wake_41 (by decide) ?_ ?_
    · exact s_retV rfl dX5_wake_59
    · refine s_aload_n dX5_wake_44 rfl ?_
      refine s_getR (Tb := TX5) rfl inX5 (by decide) w_185 dX5_wake_45 ?_
      refine s_getI (Tb := TX2) rfl inX2 (by decide) w_120 dX5_wake_48 ?_
      refine s_c1le (tgt := 59) dX5_wake_51 (by decide) ?_ ?_
      · exact s_retV rfl dX5_wake_59
      · exact t_X5_wake_54
set_option maxRecDepth 20000 in
theorem t_X5_wake_0  : xS p l e R s m args below meth c cX5_wake 1 none yX5_wake.cls yX5_wake.name 0 0 D cA b0 hs res (xMQ D cA b0 below args s hs res) (k_X5_wake_0 b0) 0 := by
  unfold k_X5_wake_0
  refine s_aload_n dX5_wake_0 rfl ?_
  refine s_getI (Tb := TX5) rfl inX5 (by decide) w_192 dX5_wake_1 ?_
  refine s_iconst dX5_wake_4 (by decide) ?_
  refine s_c2ne (tgt := 28) dX5_wake_5 (by decide) ?_ ?_
  · exact t_X5_wake_28
  · refine s_aload_n dX5_wake_8 rfl ?_
    refine s_getI (Tb := TX5) rfl inX5 (by decide) w_200 dX5_wake_9 ?_
    refine s_c1le (tgt := 28) dX5_wake_12 (by decide) ?_ ?_
    · exact t_X5_wake_28
    · refine s_aload_n dX5_wake_15 rfl ?_
      refine s_dup dX5_wake_16 ?_
      refine s_getI (Tb := TX5) rfl inX5 (by decide) w_200 dX5_wake_17 ?_
      refine s_iconst dX5_wake_20 (by decide) ?_
      refine s_isub dX5_wake_21 ?_
      refine s_putI (Tb := TX5) rfl inX5 (by decide) w_200 tyX5 tyX5_ok nmX5 rfl rfl dX5_wake_22 ?_
      refine s_goto (tgt := 59) dX5_wake_25 (by decide) ?_
      exact s_retV rfl dX5_wake_59
theorem m_X5_wake (l : Launch) (D : va_G) (cA : Nat → ClassId) (b0 : Nat) : xMet l D cA b0 yX5_wake (.code yX5_wake cX5_wake 1 none :: xTB) 0 0 (f_X5_wake b0) :=
  xMet_of (n := 1) (by decide +kernel) (by decide) (fun p e R s m args below meth c hs res => t_X5_wake_0)
end M_X5_wake
section M_X5_backsAllowed
variable {p : Program} {l : Launch} {e : Env} {R : Room} {s : State} {m : MethodId} {args : Array Value} {below : List Frame} {meth : Method} {c : Code} {D : va_G} {cA : Nat → ClassId} {b0 : Nat} {hs : xH} {res : Option xV × xH}
set_option maxRecDepth 20000 in
theorem t_X5_backsAllowed_0  : xS p l e R s m args below meth c cX5_backsAllowed 1 (some .int) yX5_backsAllowed.cls yX5_backsAllowed.name 0 0 D cA b0 hs res (xMQ D cA b0 below args s hs res) (k_X5_backsAllowed_0 b0) 0 := by
  unfold k_X5_backsAllowed_0
  refine s_aload_n dX5_backsAllowed_0 rfl ?_
  refine s_getI (Tb := TX5) rfl inX5 (by decide) w_180 dX5_backsAllowed_1 ?_
  refine s_iconst dX5_backsAllowed_4 (by decide) ?_
  refine s_c2ne (tgt := 12) dX5_backsAllowed_5 (by decide) ?_ ?_
  · refine s_aload_n dX5_backsAllowed_12 rfl ?_
    refine s_getI (Tb := TX5) rfl inX5 (by decide) w_180 dX5_backsAllowed_13 ?_
    refine s_iconst dX5_backsAllowed_16 (by decide) ?_
    refine s_c2ne (tgt := 24) dX5_backsAllowed_17 (by decide) ?_ ?_
    · refine s_iconst dX5_backsAllowed_24 (by decide) ?_
      exact s_retI rfl dX5_backsAllowed_25
    · refine s_iconst dX5_backsAllowed_20 (by decide) ?_
      refine s_goto (tgt := 25) dX5_backsAllowed_21 (by decide) ?_
      exact s_retI rfl dX5_backsAllowed_25
  · refine s_iconst dX5_backsAllowed_8 (by decide) ?_
    refine s_goto (tgt := 25) dX5_backsAllowed_9 (by decide) ?_
    exact s_retI rfl dX5_backsAllowed_25
theorem m_X5_backsAllowed (l : Launch) (D : va_G) (cA : Nat → ClassId) (b0 : Nat) : xMet l D cA b0 yX5_backsAllowed (.code yX5_backsAllowed cX5_backsAllowed 1 (some .int) :: xTB) 0 0 (f_X5_backsAllowed b0) :=
  xMet_of (n := 1) (by decide +kernel) (by decide) (fun p e R s m args below meth c hs res => t_X5_backsAllowed_0)
end M_X5_backsAllowed
section M_X5_goBack
variable {p : Program} {l : Launch} {e : Env} {R : Room} {s : State} {m : MethodId} {args : Array Value} {below : List Frame} {meth : Method} {c : Code} {D : va_G} {cA : Nat → ClassId} {b0 : Nat} {hs : xH} {res : Option xV × xH}
set_option maxRecDepth 20000 in
theorem t_X5_goBack_0  : xS p l e R s m args below meth c cX5_goBack 1 none yX5_goBack.cls yX5_goBack.name 1 22 D cA b0 hs res (xMQ D cA b0 below args s hs res) (k_X5_goBack_0 b0) 0 := by
  unfold k_X5_goBack_0
  refine s_aload_n dX5_goBack_0 rfl ?_
  refine s_aload_n dX5_goBack_1 rfl ?_
  refine s_getR (Tb := TX5) rfl inX5 (by decide) w_191 dX5_goBack_2 ?_
  refine s_getI (Tb := TX3) rfl inX3 (by decide) w_169 dX5_goBack_5 ?_
  refine s_putI (Tb := TX5) rfl inX5 (by decide) w_196 tyX5 tyX5_ok nmX5 rfl rfl dX5_goBack_8 ?_
  refine s_aload_n dX5_goBack_11 rfl ?_
  refine s_getR (Tb := TX5) rfl inX5 (by decide) w_187 dX5_goBack_12 ?_
  refine s_aload_n dX5_goBack_15 rfl ?_
  refine s_getR (Tb := TX5) rfl inX5 (by decide) w_191 dX5_goBack_16 ?_
  refine s_getR (Tb := TX3) rfl inX3 (by decide) w_168 dX5_goBack_19 ?_
  refine s_callV (Tb := TX4) (m_X4_copyFrom l D cA b0) rfl w_367 w_368 w_369 w_33 w_370 ⟨rfl, by decide, by decide, by decide +kernel⟩ (by decide) dX5_goBack_22 ?_
  refine s_aload_n dX5_goBack_25 rfl ?_
  refine s_aload_n dX5_goBack_26 rfl ?_
  refine s_getR (Tb := TX5) rfl inX5 (by decide) w_191 dX5_goBack_27 ?_
  refine s_getI (Tb := TX3) rfl inX3 (by decide) w_170 dX5_goBack_30 ?_
  refine s_putI (Tb := TX5) rfl inX5 (by decide) w_198 tyX5 tyX5_ok nmX5 rfl rfl dX5_goBack_33 ?_
  exact s_retV rfl dX5_goBack_36
theorem m_X5_goBack (l : Launch) (D : va_G) (cA : Nat → ClassId) (b0 : Nat) : xMet l D cA b0 yX5_goBack (.code yX5_goBack cX5_goBack 1 none :: xTB) 1 22 (f_X5_goBack b0) :=
  xMet_of (n := 1) (by decide +kernel) (by decide) (fun p e R s m args below meth c hs res => t_X5_goBack_0)
end M_X5_goBack
section M_X5_fail
variable {p : Program} {l : Launch} {e : Env} {R : Room} {s : State} {m : MethodId} {args : Array Value} {below : List Frame} {meth : Method} {c : Code} {D : va_G} {cA : Nat → ClassId} {b0 : Nat} {hs : xH} {res : Option xV × xH}
set_option maxRecDepth 20000 in
theorem t_X5_fail_0  : xS p l e R s m args below meth c cX5_fail 2 none yX5_fail.cls yX5_fail.name 2 42 D cA b0 hs res (xMQ D cA b0 below args s hs res) (k_X5_fail_0 b0) 0 := by
  unfold k_X5_fail_0
  refine s_aload_n dX5_fail_0 rfl ?_
  refine s_dup dX5_fail_1 ?_
  refine s_getI (Tb := TX5) rfl inX5 (by decide) w_205 dX5_fail_2 ?_
  refine s_iconst dX5_fail_5 (by decide) ?_
  refine s_iadd dX5_fail_6 ?_
  refine s_putI (Tb := TX5) rfl inX5 (by decide) w_205 tyX5 tyX5_ok nmX5 rfl rfl dX5_fail_7 ?_
  refine s_aload_n dX5_fail_10 rfl ?_
  refine s_iload_n dX5_fail_11 rfl ?_
  refine s_putI (Tb := TX5) rfl inX5 (by decide) w_206 tyX5 tyX5_ok nmX5 rfl rfl dX5_fail_12 ?_
  refine s_aload_n dX5_fail_15 rfl ?_
  refine s_aload_n dX5_fail_16 rfl ?_
  refine s_getI (Tb := TX5) rfl inX5 (by decide) w_198 dX5_fail_17 ?_
  refine s_putI (Tb := TX5) rfl inX5 (by decide) w_207 tyX5 tyX5_ok nmX5 rfl rfl dX5_fail_20 ?_
  refine s_aload_n dX5_fail_23 rfl ?_
  refine s_getI (Tb := TX5) rfl inX5 (by decide) w_180 dX5_fail_24 ?_
  refine s_iconst dX5_fail_27 (by decide) ?_
  refine s_c2ge (tgt := 39) dX5_fail_28 (by decide) ?_ ?_
  · refine s_aload_n dX5_fail_39 rfl ?_
    refine s_getI (Tb := TX5) rfl inX5 (by decide) w_208 dX5_fail_40 ?_
    refine s_aload_n dX5_fail_43 rfl ?_
    refine s_callV (Tb := TX5) (m_X5_backsAllowed l D cA b0) rfl w_404 w_405 w_406 w_30 w_407 ⟨rfl, by decide, by decide, by decide +kernel⟩ (by decide) dX5_fail_44 ?_
    refine s_c2ge (tgt := 67) dX5_fail_47 (by decide) ?_ ?_
    · refine s_aload_n dX5_fail_67 rfl ?_
      refine s_dup dX5_fail_68 ?_
      refine s_getI (Tb := TX5) rfl inX5 (by decide) w_198 dX5_fail_69 ?_
      refine s_iconst dX5_fail_72 (by decide) ?_
      refine s_iadd dX5_fail_73 ?_
      refine s_putI (Tb := TX5) rfl inX5 (by decide) w_198 tyX5 tyX5_ok nmX5 rfl rfl dX5_fail_74 ?_
      exact s_retV rfl dX5_fail_77
    · refine s_aload_n dX5_fail_50 rfl ?_
      refine s_dup dX5_fail_51 ?_
      refine s_getI (Tb := TX5) rfl inX5 (by decide) w_208 dX5_fail_52 ?_
      refine s_iconst dX5_fail_55 (by decide) ?_
      refine s_iadd dX5_fail_56 ?_
      refine s_putI (Tb := TX5) rfl inX5 (by decide) w_208 tyX5 tyX5_ok nmX5 rfl rfl dX5_fail_57 ?_
      refine s_aload_n dX5_fail_60 rfl ?_
      refine s_callV (Tb := TX5) (m_X5_goBack l D cA b0) rfl w_408 w_409 w_410 w_30 w_411 ⟨rfl, by decide, by decide, by decide +kernel⟩ (by decide) dX5_fail_61 ?_
      refine s_goto (tgt := 77) dX5_fail_64 (by decide) ?_
      exact s_retV rfl dX5_fail_77
  · refine s_aload_n dX5_fail_31 rfl ?_
    refine s_iconst dX5_fail_32 (by decide) ?_
    refine s_putI (Tb := TX5) rfl inX5 (by decide) w_192 tyX5 tyX5_ok nmX5 rfl rfl dX5_fail_33 ?_
    refine s_goto (tgt := 77) dX5_fail_36 (by decide) ?_
    exact s_retV rfl dX5_fail_77
theorem m_X5_fail (l : Launch) (D : va_G) (cA : Nat → ClassId) (b0 : Nat) : xMet l D cA b0 yX5_fail (.code yX5_fail cX5_fail 2 none :: xTB) 2 42 (f_X5_fail b0) :=
  xMet_of (n := 2) (by decide +kernel) (by decide) (fun p e R s m args below meth c hs res => t_X5_fail_0)
end M_X5_fail
section M_X5_setMark
variable {p : Program} {l : Launch} {e : Env} {R : Room} {s : State} {m : MethodId} {args : Array Value} {below : List Frame} {meth : Method} {c : Code} {D : va_G} {cA : Nat → ClassId} {b0 : Nat} {hs : xH} {res : Option xV × xH}
set_option maxRecDepth 20000 in
theorem t_X5_setMark_0  : xS p l e R s m args below meth c cX5_setMark 1 (some .int) yX5_setMark.cls yX5_setMark.name 1 22 D cA b0 hs res (xMQ D cA b0 below args s hs res) (k_X5_setMark_0 b0) 0 := by
  unfold k_X5_setMark_0
  refine s_aload_n dX5_setMark_0 rfl ?_
  refine s_getR (Tb := TX5) rfl inX5 (by decide) w_191 dX5_setMark_1 ?_
  refine s_aload_n dX5_setMark_4 rfl ?_
  refine s_getI (Tb := TX5) rfl inX5 (by decide) w_196 dX5_setMark_5 ?_
  refine s_putI (Tb := TX3) rfl inX3 (by decide) w_169 tyX3 tyX3_ok nmX3 rfl rfl dX5_setMark_8 ?_
  refine s_aload_n dX5_setMark_11 rfl ?_
  refine s_getR (Tb := TX5) rfl inX5 (by decide) w_191 dX5_setMark_12 ?_
  refine s_getR (Tb := TX3) rfl inX3 (by decide) w_168 dX5_setMark_15 ?_
  refine s_aload_n dX5_setMark_18 rfl ?_
  refine s_getR (Tb := TX5) rfl inX5 (by decide) w_187 dX5_setMark_19 ?_
  refine s_callV (Tb := TX4) (m_X4_copyFrom l D cA b0) rfl w_367 w_368 w_369 w_33 w_370 ⟨rfl, by decide, by decide, by decide +kernel⟩ (by decide) dX5_setMark_22 ?_
  refine s_aload_n dX5_setMark_25 rfl ?_
  refine s_getR (Tb := TX5) rfl inX5 (by decide) w_191 dX5_setMark_26 ?_
  refine s_aload_n dX5_setMark_29 rfl ?_
  refine s_getI (Tb := TX5) rfl inX5 (by decide) w_198 dX5_setMark_30 ?_
  refine s_iconst dX5_setMark_33 (by decide) ?_
  refine s_iadd dX5_setMark_34 ?_
  refine s_putI (Tb := TX3) rfl inX3 (by decide) w_170 tyX3 tyX3_ok nmX3 rfl rfl dX5_setMark_35 ?_
  refine s_iconst dX5_setMark_38 (by decide) ?_
  exact s_retI rfl dX5_setMark_39
theorem m_X5_setMark (l : Launch) (D : va_G) (cA : Nat → ClassId) (b0 : Nat) : xMet l D cA b0 yX5_setMark (.code yX5_setMark cX5_setMark 1 (some .int) :: xTB) 1 22 (f_X5_setMark b0) :=
  xMet_of (n := 1) (by decide +kernel) (by decide) (fun p e R s m args below meth c hs res => t_X5_setMark_0)
end M_X5_setMark
section M_X5_add
variable {p : Program} {l : Launch} {e : Env} {R : Room} {s : State} {m : MethodId} {args : Array Value} {below : List Frame} {meth : Method} {c : Code} {D : va_G} {cA : Nat → ClassId} {b0 : Nat} {hs : xH} {res : Option xV × xH}
set_option maxRecDepth 20000 in
theorem t_X5_add_28  : xS p l e R s m args below meth c cX5_add 2 (some .int) yX5_add.cls yX5_add.name 0 0 D cA b0 hs res (xMQ D cA b0 below args s hs res) (k_X5_add_28 b0) 28 := by
  unfold k_X5_add_28
  refine s_iadd dX5_add_28 ?_
  refine s_putI (Tb := TX5) rfl inX5 (by decide) w_196 tyX5 tyX5_ok nmX5 rfl rfl dX5_add_29 ?_
  refine s_iconst dX5_add_32 (by decide) ?_
  exact s_retI rfl dX5_add_33
set_option maxRecDepth 20000 in
theorem t_X5_add_21  : xS p l e R s m args below meth c cX5_add 2 (some .int) yX5_add.cls yX5_add.name 0 0 D cA b0 hs res (xMQ D cA b0 below args s hs res) (k_X5_add_21 b0) 21 := by
  unfold k_X5_add_21
  refine s_iconst dX5_add_21 (by decide) ?_
  refine s_iload_n dX5_add_22 rfl ?_
  refine s_imul dX5_add_23 ?_
  refine s_goto (tgt := 28) dX5_add_24 (by decide) ?_
  exact t_X5_add_28
set_option maxRecDepth 20000 in
theorem t_X5_add_0  : xS p l e R s m args below meth c cX5_add 2 (some .int) yX5_add.cls yX5_add.name 0 0 D cA b0 hs res (xMQ D cA b0 below args s hs res) (k_X5_add_0 b0) 0 := by
  unfold k_X5_add_0
  refine s_aload_n dX5_add_0 rfl ?_
  refine s_dup dX5_add_1 ?_
  refine s_getI (Tb := TX5) rfl inX5 (by decide) w_196 dX5_add_2 ?_
  refine s_aload_n dX5_add_5 rfl ?_
  refine s_getI (Tb := TX5) rfl inX5 (by decide) w_180 dX5_add_6 ?_
  refine s_iconst dX5_add_9 (by decide) ?_
  refine s_c2eq (tgt := 21) dX5_add_10 (by decide) ?_ ?_
  · exact t_X5_add_21
  · refine s_aload_n dX5_add_13 rfl ?_
    refine s_getI (Tb := TX5) rfl inX5 (by decide) w_180 dX5_add_14 ?_
    refine s_iconst dX5_add_17 (by decide) ?_
    refine s_c2ne (tgt := 27) dX5_add_18 (by decide) ?_ ?_
    · refine s_iload_n dX5_add_27 rfl ?_
      exact t_X5_add_28
    · exact t_X5_add_21
theorem m_X5_add (l : Launch) (D : va_G) (cA : Nat → ClassId) (b0 : Nat) : xMet l D cA b0 yX5_add (.code yX5_add cX5_add 2 (some .int) :: xTB) 0 0 (f_X5_add b0) :=
  xMet_of (n := 2) (by decide +kernel) (by decide) (fun p e R s m args below meth c hs res => t_X5_add_0)
end M_X5_add
section M_X5_divide
variable {p : Program} {l : Launch} {e : Env} {R : Room} {s : State} {m : MethodId} {args : Array Value} {below : List Frame} {meth : Method} {c : Code} {D : va_G} {cA : Nat → ClassId} {b0 : Nat} {hs : xH} {res : Option xV × xH}
set_option maxRecDepth 20000 in
theorem t_X5_divide_0  : xS p l e R s m args below meth c cX5_divide 2 (some .int) yX5_divide.cls yX5_divide.name 0 0 D cA b0 hs res (xMQ D cA b0 below args s hs res) (k_X5_divide_0 b0) 0 := by
  unfold k_X5_divide_0
  refine s_iload_n dX5_divide_0 rfl ?_
  refine s_c1ne (tgt := 7) dX5_divide_1 (by decide) ?_ ?_
  · refine s_aload_n dX5_divide_7 rfl ?_
    refine s_dup dX5_divide_8 ?_
    refine s_getI (Tb := TX5) rfl inX5 (by decide) w_196 dX5_divide_9 ?_
    refine s_iload_n dX5_divide_12 rfl ?_
    refine s_idiv dX5_divide_13 ?_
    refine s_putI (Tb := TX5) rfl inX5 (by decide) w_196 tyX5 tyX5_ok nmX5 rfl rfl dX5_divide_14 ?_
    refine s_iconst dX5_divide_17 (by decide) ?_
    exact s_retI rfl dX5_divide_18
  · refine s_bipush dX5_divide_4 (by decide) ?_
    exact s_retI rfl dX5_divide_6
theorem m_X5_divide (l : Launch) (D : va_G) (cA : Nat → ClassId) (b0 : Nat) : xMet l D cA b0 yX5_divide (.code yX5_divide cX5_divide 2 (some .int) :: xTB) 0 0 (f_X5_divide b0) :=
  xMet_of (n := 2) (by decide +kernel) (by decide) (fun p e R s m args below meth c hs res => t_X5_divide_0)
end M_X5_divide
section M_X5_makeRow
variable {p : Program} {l : Launch} {e : Env} {R : Room} {s : State} {m : MethodId} {args : Array Value} {below : List Frame} {meth : Method} {c : Code} {D : va_G} {cA : Nat → ClassId} {b0 : Nat} {hs : xH} {res : Option xV × xH}
set_option maxRecDepth 20000 in
theorem t_X5_makeRow_0  : xS p l e R s m args below meth c cX5_makeRow 2 (some .int) yX5_makeRow.cls yX5_makeRow.name 1 22 D cA b0 hs res (xMQ D cA b0 below args s hs res) (k_X5_makeRow_0 b0) 0 := by
  unfold k_X5_makeRow_0
  refine s_iload_n dX5_makeRow_0 rfl ?_
  refine s_c1ge (tgt := 6) dX5_makeRow_1 (by decide) ?_ ?_
  · refine s_aload_n dX5_makeRow_6 rfl ?_
    refine s_getR (Tb := TX5) rfl inX5 (by decide) w_187 dX5_makeRow_7 ?_
    refine s_iload_n dX5_makeRow_10 rfl ?_
    refine s_callV (Tb := TX4) (m_X4_renew l D cA b0) rfl w_315 w_316 w_317 w_33 w_318 ⟨rfl, by decide, by decide, by decide +kernel⟩ (by decide) dX5_makeRow_11 ?_
    refine s_iconst dX5_makeRow_14 (by decide) ?_
    exact s_retI rfl dX5_makeRow_15
  · refine s_iconst dX5_makeRow_4 (by decide) ?_
    exact s_retI rfl dX5_makeRow_5
theorem m_X5_makeRow (l : Launch) (D : va_G) (cA : Nat → ClassId) (b0 : Nat) : xMet l D cA b0 yX5_makeRow (.code yX5_makeRow cX5_makeRow 2 (some .int) :: xTB) 1 22 (f_X5_makeRow b0) :=
  xMet_of (n := 2) (by decide +kernel) (by decide) (fun p e R s m args below meth c hs res => t_X5_makeRow_0)
end M_X5_makeRow
section M_X5_put
variable {p : Program} {l : Launch} {e : Env} {R : Room} {s : State} {m : MethodId} {args : Array Value} {below : List Frame} {meth : Method} {c : Code} {D : va_G} {cA : Nat → ClassId} {b0 : Nat} {hs : xH} {res : Option xV × xH}
set_option maxRecDepth 20000 in
theorem t_X5_put_0  : xS p l e R s m args below meth c cX5_put 2 (some .int) yX5_put.cls yX5_put.name 1 21 D cA b0 hs res (xMQ D cA b0 below args s hs res) (k_X5_put_0 b0) 0 := by
  unfold k_X5_put_0
  refine s_aload_n dX5_put_0 rfl ?_
  refine s_getR (Tb := TX5) rfl inX5 (by decide) w_187 dX5_put_1 ?_
  refine s_iload_n dX5_put_4 rfl ?_
  refine s_callV (Tb := TX4) (m_X4_has l D cA b0) rfl w_323 w_324 w_325 w_33 w_326 ⟨rfl, by decide, by decide, by decide +kernel⟩ (by decide) dX5_put_5 ?_
  refine s_c1eq (tgt := 26) dX5_put_8 (by decide) ?_ ?_
  · refine s_aload_n dX5_put_26 rfl ?_
    refine s_getR (Tb := TX5) rfl inX5 (by decide) w_187 dX5_put_27 ?_
    refine s_callV (Tb := TX4) (m_X4_isNothing l D cA b0) rfl w_327 w_328 w_329 w_33 w_330 ⟨rfl, by decide, by decide, by decide +kernel⟩ (by decide) dX5_put_30 ?_
    refine s_c1eq (tgt := 40) dX5_put_33 (by decide) ?_ ?_
    · refine s_iconst dX5_put_40 (by decide) ?_
      exact s_retI rfl dX5_put_41
    · refine s_iconst dX5_put_36 (by decide) ?_
      refine s_goto (tgt := 41) dX5_put_37 (by decide) ?_
      exact s_retI rfl dX5_put_41
  · refine s_aload_n dX5_put_11 rfl ?_
    refine s_getR (Tb := TX5) rfl inX5 (by decide) w_187 dX5_put_12 ?_
    refine s_getR (Tb := TX4) rfl inX4 (by decide) w_135 dX5_put_15 ?_
    refine s_iload_n dX5_put_18 rfl ?_
    refine s_aload_n dX5_put_19 rfl ?_
    refine s_getI (Tb := TX5) rfl inX5 (by decide) w_196 dX5_put_20 ?_
    refine s_ias dX5_put_23 ?_
    refine s_iconst dX5_put_24 (by decide) ?_
    exact s_retI rfl dX5_put_25
theorem m_X5_put (l : Launch) (D : va_G) (cA : Nat → ClassId) (b0 : Nat) : xMet l D cA b0 yX5_put (.code yX5_put cX5_put 2 (some .int) :: xTB) 1 21 (f_X5_put b0) :=
  xMet_of (n := 2) (by decide +kernel) (by decide) (fun p e R s m args below meth c hs res => t_X5_put_0)
end M_X5_put
section M_X5_get
variable {p : Program} {l : Launch} {e : Env} {R : Room} {s : State} {m : MethodId} {args : Array Value} {below : List Frame} {meth : Method} {c : Code} {D : va_G} {cA : Nat → ClassId} {b0 : Nat} {hs : xH} {res : Option xV × xH}
set_option maxRecDepth 20000 in
theorem t_X5_get_0  : xS p l e R s m args below meth c cX5_get 2 (some .int) yX5_get.cls yX5_get.name 1 21 D cA b0 hs res (xMQ D cA b0 below args s hs res) (k_X5_get_0 b0) 0 := by
  unfold k_X5_get_0
  refine s_aload_n dX5_get_0 rfl ?_
  refine s_getR (Tb := TX5) rfl inX5 (by decide) w_187 dX5_get_1 ?_
  refine s_iload_n dX5_get_4 rfl ?_
  refine s_callV (Tb := TX4) (m_X4_has l D cA b0) rfl w_323 w_324 w_325 w_33 w_326 ⟨rfl, by decide, by decide, by decide +kernel⟩ (by decide) dX5_get_5 ?_
  refine s_c1eq (tgt := 31) dX5_get_8 (by decide) ?_ ?_
  · refine s_aload_n dX5_get_31 rfl ?_
    refine s_getR (Tb := TX5) rfl inX5 (by decide) w_187 dX5_get_32 ?_
    refine s_callV (Tb := TX4) (m_X4_isNothing l D cA b0) rfl w_327 w_328 w_329 w_33 w_330 ⟨rfl, by decide, by decide, by decide +kernel⟩ (by decide) dX5_get_35 ?_
    refine s_c1eq (tgt := 45) dX5_get_38 (by decide) ?_ ?_
    · refine s_iconst dX5_get_45 (by decide) ?_
      exact s_retI rfl dX5_get_46
    · refine s_iconst dX5_get_41 (by decide) ?_
      refine s_goto (tgt := 46) dX5_get_42 (by decide) ?_
      exact s_retI rfl dX5_get_46
  · refine s_aload_n dX5_get_11 rfl ?_
    refine s_dup dX5_get_12 ?_
    refine s_getI (Tb := TX5) rfl inX5 (by decide) w_196 dX5_get_13 ?_
    refine s_aload_n dX5_get_16 rfl ?_
    refine s_getR (Tb := TX5) rfl inX5 (by decide) w_187 dX5_get_17 ?_
    refine s_getR (Tb := TX4) rfl inX4 (by decide) w_135 dX5_get_20 ?_
    refine s_iload_n dX5_get_23 rfl ?_
    refine s_ial dX5_get_24 ?_
    refine s_iadd dX5_get_25 ?_
    refine s_putI (Tb := TX5) rfl inX5 (by decide) w_196 tyX5 tyX5_ok nmX5 rfl rfl dX5_get_26 ?_
    refine s_iconst dX5_get_29 (by decide) ?_
    exact s_retI rfl dX5_get_30
theorem m_X5_get (l : Launch) (D : va_G) (cA : Nat → ClassId) (b0 : Nat) : xMet l D cA b0 yX5_get (.code yX5_get cX5_get 2 (some .int) :: xTB) 1 21 (f_X5_get b0) :=
  xMet_of (n := 2) (by decide +kernel) (by decide) (fun p e R s m args below meth c hs res => t_X5_get_0)
end M_X5_get
section M_X5_takeLetter
variable {p : Program} {l : Launch} {e : Env} {R : Room} {s : State} {m : MethodId} {args : Array Value} {below : List Frame} {meth : Method} {c : Code} {D : va_G} {cA : Nat → ClassId} {b0 : Nat} {hs : xH} {res : Option xV × xH}
set_option maxRecDepth 20000 in
theorem t_X5_takeLetter_0  : xS p l e R s m args below meth c cX5_takeLetter 2 (some .int) yX5_takeLetter.cls yX5_takeLetter.name 1 22 D cA b0 hs res (xMQ D cA b0 below args s hs res) (k_X5_takeLetter_0 b0) 0 := by
  unfold k_X5_takeLetter_0
  refine s_aload_n dX5_takeLetter_0 rfl ?_
  refine s_getR (Tb := TX5) rfl inX5 (by decide) w_185 dX5_takeLetter_1 ?_
  refine s_getI (Tb := TX2) rfl inX2 (by decide) w_120 dX5_takeLetter_4 ?_
  refine s_c1le (tgt := 28) dX5_takeLetter_7 (by decide) ?_ ?_
  · refine s_iload_n dX5_takeLetter_28 rfl ?_
    refine s_c1eq (tgt := 35) dX5_takeLetter_29 (by decide) ?_ ?_
    · refine s_aload_n dX5_takeLetter_35 rfl ?_
      refine s_iconst dX5_takeLetter_36 (by decide) ?_
      refine s_putI (Tb := TX5) rfl inX5 (by decide) w_192 tyX5 tyX5_ok nmX5 rfl rfl dX5_takeLetter_37 ?_
      refine s_iconst dX5_takeLetter_40 (by decide) ?_
      exact s_retI rfl dX5_takeLetter_41
    · refine s_bipush dX5_takeLetter_32 (by decide) ?_
      exact s_retI rfl dX5_takeLetter_34
  · refine s_aload_n dX5_takeLetter_10 rfl ?_
    refine s_dup dX5_takeLetter_11 ?_
    refine s_getI (Tb := TX5) rfl inX5 (by decide) w_196 dX5_takeLetter_12 ?_
    refine s_aload_n dX5_takeLetter_15 rfl ?_
    refine s_getR (Tb := TX5) rfl inX5 (by decide) w_185 dX5_takeLetter_16 ?_
    refine s_callV (Tb := TX2) (m_X2_removeEldest l D cA b0) rfl w_339 w_340 w_341 w_32 w_342 ⟨rfl, by decide, by decide, by decide +kernel⟩ (by decide) dX5_takeLetter_19 ?_
    refine s_iadd dX5_takeLetter_22 ?_
    refine s_putI (Tb := TX5) rfl inX5 (by decide) w_196 tyX5 tyX5_ok nmX5 rfl rfl dX5_takeLetter_23 ?_
    refine s_iconst dX5_takeLetter_26 (by decide) ?_
    exact s_retI rfl dX5_takeLetter_27
theorem m_X5_takeLetter (l : Launch) (D : va_G) (cA : Nat → ClassId) (b0 : Nat) : xMet l D cA b0 yX5_takeLetter (.code yX5_takeLetter cX5_takeLetter 2 (some .int) :: xTB) 1 22 (f_X5_takeLetter b0) :=
  xMet_of (n := 2) (by decide +kernel) (by decide) (fun p e R s m args below meth c hs res => t_X5_takeLetter_0)
end M_X5_takeLetter
section M_X5_waitFor
variable {p : Program} {l : Launch} {e : Env} {R : Room} {s : State} {m : MethodId} {args : Array Value} {below : List Frame} {meth : Method} {c : Code} {D : va_G} {cA : Nat → ClassId} {b0 : Nat} {hs : xH} {res : Option xV × xH}
set_option maxRecDepth 20000 in
theorem t_X5_waitFor_0  : xS p l e R s m args below meth c cX5_waitFor 2 (some .int) yX5_waitFor.cls yX5_waitFor.name 0 0 D cA b0 hs res (xMQ D cA b0 below args s hs res) (k_X5_waitFor_0 b0) 0 := by
  unfold k_X5_waitFor_0
  refine s_iload_n dX5_waitFor_0 rfl ?_
  refine s_c1le (tgt := 9) dX5_waitFor_1 (by decide) ?_ ?_
  · refine s_iconst dX5_waitFor_9 (by decide) ?_
    exact s_retI rfl dX5_waitFor_10
  · refine s_aload_n dX5_waitFor_4 rfl ?_
    refine s_iload_n dX5_waitFor_5 rfl ?_
    refine s_putI (Tb := TX5) rfl inX5 (by decide) w_200 tyX5 tyX5_ok nmX5 rfl rfl dX5_waitFor_6 ?_
    refine s_iconst dX5_waitFor_9 (by decide) ?_
    exact s_retI rfl dX5_waitFor_10
theorem m_X5_waitFor (l : Launch) (D : va_G) (cA : Nat → ClassId) (b0 : Nat) : xMet l D cA b0 yX5_waitFor (.code yX5_waitFor cX5_waitFor 2 (some .int) :: xTB) 0 0 (f_X5_waitFor b0) :=
  xMet_of (n := 2) (by decide +kernel) (by decide) (fun p e R s m args below meth c hs res => t_X5_waitFor_0)
end M_X5_waitFor
section M_X5_makeBox
variable {p : Program} {l : Launch} {e : Env} {R : Room} {s : State} {m : MethodId} {args : Array Value} {below : List Frame} {meth : Method} {c : Code} {D : va_G} {cA : Nat → ClassId} {b0 : Nat} {hs : xH} {res : Option xV × xH}
set_option maxRecDepth 20000 in
theorem t_X5_makeBox_0  : xS p l e R s m args below meth c cX5_makeBox 2 (some .int) yX5_makeBox.cls yX5_makeBox.name 1 22 D cA b0 hs res (xMQ D cA b0 below args s hs res) (k_X5_makeBox_0 b0) 0 := by
  unfold k_X5_makeBox_0
  refine s_aload_n dX5_makeBox_0 rfl ?_
  refine s_getR (Tb := TX5) rfl inX5 (by decide) w_189 dX5_makeBox_1 ?_
  refine s_iload_n dX5_makeBox_4 rfl ?_
  refine s_callV (Tb := TX1) (m_X1_renew l D cA b0) rfl w_375 w_376 w_377 w_34 w_378 ⟨rfl, by decide, by decide, by decide +kernel⟩ (by decide) dX5_makeBox_5 ?_
  refine s_iconst dX5_makeBox_8 (by decide) ?_
  exact s_retI rfl dX5_makeBox_9
theorem m_X5_makeBox (l : Launch) (D : va_G) (cA : Nat → ClassId) (b0 : Nat) : xMet l D cA b0 yX5_makeBox (.code yX5_makeBox cX5_makeBox 2 (some .int) :: xTB) 1 22 (f_X5_makeBox b0) :=
  xMet_of (n := 2) (by decide +kernel) (by decide) (fun p e R s m args below meth c hs res => t_X5_makeBox_0)
end M_X5_makeBox
section M_X5_copyToBox
variable {p : Program} {l : Launch} {e : Env} {R : Room} {s : State} {m : MethodId} {args : Array Value} {below : List Frame} {meth : Method} {c : Code} {D : va_G} {cA : Nat → ClassId} {b0 : Nat} {hs : xH} {res : Option xV × xH}
set_option maxRecDepth 20000 in
theorem t_X5_copyToBox_0 (k : Nat → xK) (hk0 : xS p l e R s m args below meth c cX5_copyToBox 3 (some .int) yX5_copyToBox.cls yX5_copyToBox.name 1 20 D cA b0 hs res (xMQ D cA b0 below args s hs res) (k 0) 58) : xS p l e R s m args below meth c cX5_copyToBox 3 (some .int) yX5_copyToBox.cls yX5_copyToBox.name 1 20 D cA b0 hs res (xMQ D cA b0 below args s hs res) (k_X5_copyToBox_0 b0 k) 0 := by
  unfold k_X5_copyToBox_0
  refine s_aload_n dX5_copyToBox_0 rfl ?_
  refine s_getR (Tb := TX5) rfl inX5 (by decide) w_187 dX5_copyToBox_1 ?_
  refine s_callV (Tb := TX4) (m_X4_isNothing l D cA b0) rfl w_327 w_328 w_329 w_33 w_330 ⟨rfl, by decide, by decide, by decide +kernel⟩ (by decide) dX5_copyToBox_4 ?_
  refine s_c1ne (tgt := 20) dX5_copyToBox_7 (by decide) ?_ ?_
  · refine s_iconst dX5_copyToBox_20 (by decide) ?_
    exact s_retI rfl dX5_copyToBox_21
  · refine s_aload_n dX5_copyToBox_10 rfl ?_
    refine s_getR (Tb := TX5) rfl inX5 (by decide) w_189 dX5_copyToBox_11 ?_
    refine s_callV (Tb := TX1) (m_X1_isNothing l D cA b0) rfl w_396 w_397 w_398 w_34 w_399 ⟨rfl, by decide, by decide, by decide +kernel⟩ (by decide) dX5_copyToBox_14 ?_
    refine s_c1eq (tgt := 22) dX5_copyToBox_17 (by decide) ?_ ?_
    · refine s_aload_n dX5_copyToBox_22 rfl ?_
      refine s_getR (Tb := TX5) rfl inX5 (by decide) w_189 dX5_copyToBox_23 ?_
      refine s_getI (Tb := TX1) rfl inX1 (by decide) w_153 dX5_copyToBox_26 ?_
      refine s_c1eq (tgt := 34) dX5_copyToBox_29 (by decide) ?_ ?_
      · refine s_iload_n dX5_copyToBox_34 rfl ?_
        refine s_c1lt (tgt := 54) dX5_copyToBox_35 (by decide) ?_ ?_
        · refine s_iconst dX5_copyToBox_54 (by decide) ?_
          exact s_retI rfl dX5_copyToBox_55
        · refine s_iload_n dX5_copyToBox_38 rfl ?_
          refine s_aload_n dX5_copyToBox_39 rfl ?_
          refine s_getR (Tb := TX5) rfl inX5 (by decide) w_187 dX5_copyToBox_40 ?_
          refine s_getI (Tb := TX4) rfl inX4 (by decide) w_137 dX5_copyToBox_43 ?_
          refine s_c2gt (tgt := 54) dX5_copyToBox_46 (by decide) ?_ ?_
          · refine s_iconst dX5_copyToBox_54 (by decide) ?_
            exact s_retI rfl dX5_copyToBox_55
          · refine s_iload_n dX5_copyToBox_49 rfl ?_
            refine s_iconst dX5_copyToBox_50 (by decide) ?_
            refine s_c2le (tgt := 56) dX5_copyToBox_51 (by decide) ?_ ?_
            · refine s_iconst dX5_copyToBox_56 (by decide) ?_
              refine s_istore_n dX5_copyToBox_57 rfl (by decide) ?_
              exact hk0
            · refine s_iconst dX5_copyToBox_54 (by decide) ?_
              exact s_retI rfl dX5_copyToBox_55
      · refine s_iconst dX5_copyToBox_32 (by decide) ?_
        exact s_retI rfl dX5_copyToBox_33
    · refine s_iconst dX5_copyToBox_20 (by decide) ?_
      exact s_retI rfl dX5_copyToBox_21
set_option maxRecDepth 20000 in
theorem t_X5_copyToBox_58 (k : Nat → xK) (hk0 : xS p l e R s m args below meth c cX5_copyToBox 3 (some .int) yX5_copyToBox.cls yX5_copyToBox.name 1 20 D cA b0 hs res (xMQ D cA b0 below args s hs res) (k 0) 58) : xS p l e R s m args below meth c cX5_copyToBox 3 (some .int) yX5_copyToBox.cls yX5_copyToBox.name 1 20 D cA b0 hs res (xMQ D cA b0 below args s hs res) (k_X5_copyToBox_58 b0 k) 58 := by
  unfold k_X5_copyToBox_58
  refine s_iload_n dX5_copyToBox_58 rfl ?_
  refine s_iload_n dX5_copyToBox_59 rfl ?_
  refine s_c2ge (tgt := 87) dX5_copyToBox_60 (by decide) ?_ ?_
  · refine s_iconst dX5_copyToBox_87 (by decide) ?_
    exact s_retI rfl dX5_copyToBox_88
  · refine s_aload_n dX5_copyToBox_63 rfl ?_
    refine s_getR (Tb := TX5) rfl inX5 (by decide) w_189 dX5_copyToBox_64 ?_
    refine s_getR (Tb := TX1) rfl inX1 (by decide) w_151 dX5_copyToBox_67 ?_
    refine s_iload_n dX5_copyToBox_70 rfl ?_
    refine s_aload_n dX5_copyToBox_71 rfl ?_
    refine s_getR (Tb := TX5) rfl inX5 (by decide) w_187 dX5_copyToBox_72 ?_
    refine s_getR (Tb := TX4) rfl inX4 (by decide) w_135 dX5_copyToBox_75 ?_
    refine s_iload_n dX5_copyToBox_78 rfl ?_
    refine s_ial dX5_copyToBox_79 ?_
    refine s_ias dX5_copyToBox_80 ?_
    refine s_iinc dX5_copyToBox_81 (by decide) (by decide) ?_
    refine s_goto (tgt := 58) dX5_copyToBox_84 (by decide) ?_
    exact hk0
theorem t_X5_copyToBox_r (n : Nat) : xS p l e R s m args below meth c cX5_copyToBox 3 (some .int) yX5_copyToBox.cls yX5_copyToBox.name 1 20 D cA b0 hs res (xMQ D cA b0 below args s hs res) (r_X5_copyToBox b0 n 0) 58 := by
  induction n with
  | zero => exact fun ls st h hT => by cases hT
  | succ n ih => exact t_X5_copyToBox_58 (r_X5_copyToBox b0 n) ih
theorem m_X5_copyToBox (l : Launch) (D : va_G) (cA : Nat → ClassId) (b0 : Nat) : xMet l D cA b0 yX5_copyToBox (.code yX5_copyToBox cX5_copyToBox 3 (some .int) :: xTB) 1 20 (f_X5_copyToBox b0) :=
  xMet_of (n := 2) (by decide +kernel) (by decide) (fun p e R s m args below meth c hs res => t_X5_copyToBox_0 (r_X5_copyToBox b0 64) (t_X5_copyToBox_r 64))
end M_X5_copyToBox
end
section
section M_X6_init
variable {p : Program} {l : Launch} {e : Env} {R : Room} {s : State} {m : MethodId} {args : Array Value} {below : List Frame} {meth : Method} {c : Code} {D : va_G} {cA : Nat → ClassId} {b0 : Nat} {hs : xH} {res : Option xV × xH}
set_option maxRecDepth 20000 in
theorem t_X6_init_0  : xS p l e R s m args below meth c cX6_init 1 none yX6_init.cls yX6_init.name 1 20 D cA b0 hs res (xMQ D cA b0 below args s hs res) (k_X6_init_0 b0) 0 := by
  unfold k_X6_init_0
  refine s_aload_n dX6_init_0 rfl ?_
  refine s_obj w_42 w_43 w_44 (by decide) dX6_init_1 ?_
  refine s_aload_n dX6_init_4 rfl ?_
  refine s_bipush dX6_init_5 (by decide) ?_
  refine s_newq w_45 dX6_init_7 ?_
  refine s_putRF (Tb := TX6) rfl inX6 (by decide) w_47 tyX6 tyX6_ok nmX6 rfl rfl rfl (Or.inr ⟨_, rfl⟩) dX6_init_10 ?_
  refine s_aload_n dX6_init_13 rfl ?_
  refine s_bipush dX6_init_14 (by decide) ?_
  refine s_newi w_78 dX6_init_16 ?_
  refine s_putRF (Tb := TX6) rfl inX6 (by decide) w_48 tyX6 tyX6_ok nmX6 rfl rfl rfl (Or.inr ⟨_, rfl⟩) dX6_init_18 ?_
  refine s_aload_n dX6_init_21 rfl ?_
  refine s_iconst dX6_init_22 (by decide) ?_
  refine s_putI (Tb := TX6) rfl inX6 (by decide) w_51 tyX6 tyX6_ok nmX6 rfl rfl dX6_init_23 ?_
  exact s_retV rfl dX6_init_26
theorem m_X6_init (l : Launch) (D : va_G) (cA : Nat → ClassId) (b0 : Nat) : xMet l D cA b0 yX6_init (.code yX6_init cX6_init 1 none :: xTB) 1 20 (f_X6_init b0) :=
  xMet_of (n := 1) (by decide +kernel) (by decide) (fun p e R s m args below meth c hs res => t_X6_init_0)
end M_X6_init
section M_X6_task
variable {p : Program} {l : Launch} {e : Env} {R : Room} {s : State} {m : MethodId} {args : Array Value} {below : List Frame} {meth : Method} {c : Code} {D : va_G} {cA : Nat → ClassId} {b0 : Nat} {hs : xH} {res : Option xV × xH}
set_option maxRecDepth 20000 in
theorem t_X6_task_0  : xS p l e R s m args below meth c cX6_task 4 (some .int) yX6_task.cls yX6_task.name 4 83 D cA b0 hs res (xMQ D cA b0 below args s hs res) (k_X6_task_0 b0) 0 := by
  unfold k_X6_task_0
  refine s_iload_n dX6_task_0 rfl ?_
  refine s_c1lt (tgt := 19) dX6_task_1 (by decide) ?_ ?_
  · refine s_iconst dX6_task_19 (by decide) ?_
    exact s_retI rfl dX6_task_20
  · refine s_iload_n dX6_task_4 rfl ?_
    refine s_iconst dX6_task_5 (by decide) ?_
    refine s_c2gt (tgt := 19) dX6_task_6 (by decide) ?_ ?_
    · refine s_iconst dX6_task_19 (by decide) ?_
      exact s_retI rfl dX6_task_20
    · refine s_iload_n dX6_task_9 rfl ?_
      refine s_c1lt (tgt := 19) dX6_task_10 (by decide) ?_ ?_
      · refine s_iconst dX6_task_19 (by decide) ?_
        exact s_retI rfl dX6_task_20
      · refine s_iload_n dX6_task_13 rfl ?_
        refine s_bipush dX6_task_14 (by decide) ?_
        refine s_c2le (tgt := 21) dX6_task_16 (by decide) ?_ ?_
        · refine s_aload_n dX6_task_21 rfl ?_
          refine s_getI (Tb := TX6) rfl inX6 (by decide) w_49 dX6_task_22 ?_
          refine s_aload_n dX6_task_25 rfl ?_
          refine s_getR (Tb := TX6) rfl inX6 (by decide) w_47 dX6_task_26 ?_
          refine s_len dX6_task_29 ?_
          refine s_c2lt (tgt := 36) dX6_task_30 (by decide) ?_ ?_
          · refine s_aload_n dX6_task_36 rfl ?_
            refine s_getI (Tb := TX6) rfl inX6 (by decide) w_49 dX6_task_37 ?_
            refine s_istore_n dX6_task_40 rfl (by decide) ?_
            refine s_aload_n dX6_task_41 rfl ?_
            refine s_getR (Tb := TX6) rfl inX6 (by decide) w_47 dX6_task_42 ?_
            refine s_iload_n dX6_task_45 rfl ?_
            refine s_new (Tb := TX5) rfl inX5 tyX5 tyX5_ok w_45 w_83 w_30 nd_X5 rfl dX6_task_46 ?_
            refine s_dup dX6_task_49 ?_
            refine s_iload_n dX6_task_50 rfl ?_
            refine s_iload_n dX6_task_51 rfl ?_
            refine s_iload_n dX6_task_52 rfl ?_
            refine s_callI (m_X5_init l D cA b0) w_84 w_85 w_30 w_86 rfl ⟨by decide, by decide, by decide +kernel⟩ (by decide) dX6_task_53 ?_
            refine s_qas (ci := 5) rfl dX6_task_56 ?_
            refine s_aload_n dX6_task_57 rfl ?_
            refine s_dup dX6_task_58 ?_
            refine s_getI (Tb := TX6) rfl inX6 (by decide) w_49 dX6_task_59 ?_
            refine s_iconst dX6_task_62 (by decide) ?_
            refine s_iadd dX6_task_63 ?_
            refine s_putI (Tb := TX6) rfl inX6 (by decide) w_49 tyX6 tyX6_ok nmX6 rfl rfl dX6_task_64 ?_
            refine s_iload_n dX6_task_67 rfl ?_
            exact s_retI rfl dX6_task_68
          · refine s_bipush dX6_task_33 (by decide) ?_
            exact s_retI rfl dX6_task_35
        · refine s_iconst dX6_task_19 (by decide) ?_
          exact s_retI rfl dX6_task_20
theorem m_X6_task (l : Launch) (D : va_G) (cA : Nat → ClassId) (b0 : Nat) : xMet l D cA b0 yX6_task (.code yX6_task cX6_task 4 (some .int) :: xTB) 4 83 (f_X6_task b0) :=
  xMet_of (n := 3) (by decide +kernel) (by decide) (fun p e R s m args below meth c hs res => t_X6_task_0)
end M_X6_task
section M_X6_find
variable {p : Program} {l : Launch} {e : Env} {R : Room} {s : State} {m : MethodId} {args : Array Value} {below : List Frame} {meth : Method} {c : Code} {D : va_G} {cA : Nat → ClassId} {b0 : Nat} {hs : xH} {res : Option xV × xH}
set_option maxRecDepth 20000 in
theorem t_X6_find_0  : xS p l e R s m args below meth c cX6_find 2 (some (.object "TaskTurns$Task")) yX6_find.cls yX6_find.name 0 0 D cA b0 hs res (xMQ D cA b0 below args s hs res) (k_X6_find_0 b0) 0 := by
  unfold k_X6_find_0
  refine s_iload_n dX6_find_0 rfl ?_
  refine s_c1lt (tgt := 22) dX6_find_1 (by decide) ?_ ?_
  · refine s_null dX6_find_22 ?_
    exact s_retR rfl (Or.inl ⟨_, rfl⟩) dX6_find_23
  · refine s_iload_n dX6_find_4 rfl ?_
    refine s_aload_n dX6_find_5 rfl ?_
    refine s_getR (Tb := TX6) rfl inX6 (by decide) w_47 dX6_find_6 ?_
    refine s_len dX6_find_9 ?_
    refine s_c2ge (tgt := 22) dX6_find_10 (by decide) ?_ ?_
    · refine s_null dX6_find_22 ?_
      exact s_retR rfl (Or.inl ⟨_, rfl⟩) dX6_find_23
    · refine s_aload_n dX6_find_13 rfl ?_
      refine s_getR (Tb := TX6) rfl inX6 (by decide) w_47 dX6_find_14 ?_
      refine s_iload_n dX6_find_17 rfl ?_
      refine s_qal dX6_find_18 ?_
      refine s_goto (tgt := 23) dX6_find_19 (by decide) ?_
      exact s_retR rfl (Or.inl ⟨_, rfl⟩) dX6_find_23
theorem m_X6_find (l : Launch) (D : va_G) (cA : Nat → ClassId) (b0 : Nat) : xMet l D cA b0 yX6_find (.code yX6_find cX6_find 2 (some (.object "TaskTurns$Task")) :: xTB) 0 0 (f_X6_find b0) :=
  xMet_of (n := 2) (by decide +kernel) (by decide) (fun p e R s m args below meth c hs res => t_X6_find_0)
end M_X6_find
section M_X6_act
variable {p : Program} {l : Launch} {e : Env} {R : Room} {s : State} {m : MethodId} {args : Array Value} {below : List Frame} {meth : Method} {c : Code} {D : va_G} {cA : Nat → ClassId} {b0 : Nat} {hs : xH} {res : Option xV × xH}
set_option maxRecDepth 20000 in
theorem t_X6_act_35  : xS p l e R s m args below meth c cX6_act 6 (some .int) yX6_act.cls yX6_act.name 1 24 D cA b0 hs res (xMQ D cA b0 below args s hs res) (k_X6_act_35 b0) 35 := by
  unfold k_X6_act_35
  refine s_aload dX6_act_35 ?_
  refine s_getI (Tb := TX5) rfl inX5 (by decide) w_193 dX6_act_37 ?_
  refine s_c1ne (tgt := 51) dX6_act_40 (by decide) ?_ ?_
  · refine s_bipush dX6_act_51 (by decide) ?_
    exact s_retI rfl dX6_act_53
  · refine s_aload dX6_act_43 ?_
    refine s_getI (Tb := TX5) rfl inX5 (by decide) w_204 dX6_act_45 ?_
    refine s_c1eq (tgt := 54) dX6_act_48 (by decide) ?_ ?_
    · refine s_aload dX6_act_54 ?_
      refine s_getR (Tb := TX5) rfl inX5 (by decide) w_184 dX6_act_56 ?_
      refine s_iload_n dX6_act_59 rfl ?_
      refine s_iload_n dX6_act_60 rfl ?_
      refine s_iload dX6_act_61 ?_
      refine s_callV (Tb := TX0) (m_X0_append l D cA b0) rfl w_256 w_257 w_258 w_31 w_259 ⟨rfl, by decide, by decide, by decide +kernel⟩ (by decide) dX6_act_63 ?_
      exact s_retI rfl dX6_act_66
    · refine s_bipush dX6_act_51 (by decide) ?_
      exact s_retI rfl dX6_act_53
set_option maxRecDepth 20000 in
theorem t_X6_act_0  : xS p l e R s m args below meth c cX6_act 6 (some .int) yX6_act.cls yX6_act.name 1 24 D cA b0 hs res (xMQ D cA b0 below args s hs res) (k_X6_act_0 b0) 0 := by
  unfold k_X6_act_0
  refine s_aload_n dX6_act_0 rfl ?_
  refine s_iload_n dX6_act_1 rfl ?_
  refine s_callV (Tb := TX6) (m_X6_find l D cA b0) rfl w_252 w_254 w_0 w_28 w_255 ⟨rfl, by decide, by decide, by decide +kernel⟩ (by decide) dX6_act_2 ?_
  refine s_astore dX6_act_5 (by decide) ?_
  refine s_aload dX6_act_7 ?_
  refine s_cnull (tgt := 33) dX6_act_9 (by decide) ?_ ?_
  · refine s_iconst dX6_act_33 (by decide) ?_
    exact s_retI rfl dX6_act_34
  · refine s_iload_n dX6_act_12 rfl ?_
    refine s_c1lt (tgt := 33) dX6_act_13 (by decide) ?_ ?_
    · refine s_iconst dX6_act_33 (by decide) ?_
      exact s_retI rfl dX6_act_34
    · refine s_iload_n dX6_act_16 rfl ?_
      refine s_bipush dX6_act_17 (by decide) ?_
      refine s_c2gt (tgt := 33) dX6_act_19 (by decide) ?_ ?_
      · refine s_iconst dX6_act_33 (by decide) ?_
        exact s_retI rfl dX6_act_34
      · refine s_iload_n dX6_act_22 rfl ?_
        refine s_iconst dX6_act_23 (by decide) ?_
        refine s_c2ne (tgt := 35) dX6_act_24 (by decide) ?_ ?_
        · exact t_X6_act_35
        · refine s_iload_n dX6_act_27 rfl ?_
          refine s_bipush dX6_act_28 (by decide) ?_
          refine s_c2le (tgt := 35) dX6_act_30 (by decide) ?_ ?_
          · exact t_X6_act_35
          · refine s_iconst dX6_act_33 (by decide) ?_
            exact s_retI rfl dX6_act_34
theorem m_X6_act (l : Launch) (D : va_G) (cA : Nat → ClassId) (b0 : Nat) : xMet l D cA b0 yX6_act (.code yX6_act cX6_act 6 (some .int) :: xTB) 1 24 (f_X6_act b0) :=
  xMet_of (n := 5) (by decide +kernel) (by decide) (fun p e R s m args below meth c hs res => t_X6_act_0)
end M_X6_act
section M_X6_workers
variable {p : Program} {l : Launch} {e : Env} {R : Room} {s : State} {m : MethodId} {args : Array Value} {below : List Frame} {meth : Method} {c : Code} {D : va_G} {cA : Nat → ClassId} {b0 : Nat} {hs : xH} {res : Option xV × xH}
set_option maxRecDepth 20000 in
theorem t_X6_workers_0  : xS p l e R s m args below meth c cX6_workers 3 (some .int) yX6_workers.cls yX6_workers.name 0 0 D cA b0 hs res (xMQ D cA b0 below args s hs res) (k_X6_workers_0 b0) 0 := by
  unfold k_X6_workers_0
  refine s_iload_n dX6_workers_0 rfl ?_
  refine s_iconst dX6_workers_1 (by decide) ?_
  refine s_c2lt (tgt := 10) dX6_workers_2 (by decide) ?_ ?_
  · refine s_iconst dX6_workers_10 (by decide) ?_
    exact s_retI rfl dX6_workers_11
  · refine s_iload_n dX6_workers_5 rfl ?_
    refine s_iconst dX6_workers_6 (by decide) ?_
    refine s_c2le (tgt := 12) dX6_workers_7 (by decide) ?_ ?_
    · refine s_aload_n dX6_workers_12 rfl ?_
      refine s_getI (Tb := TX6) rfl inX6 (by decide) w_51 dX6_workers_13 ?_
      refine s_istore_n dX6_workers_16 rfl (by decide) ?_
      refine s_aload_n dX6_workers_17 rfl ?_
      refine s_iload_n dX6_workers_18 rfl ?_
      refine s_putI (Tb := TX6) rfl inX6 (by decide) w_51 tyX6 tyX6_ok nmX6 rfl rfl dX6_workers_19 ?_
      refine s_iload_n dX6_workers_22 rfl ?_
      exact s_retI rfl dX6_workers_23
    · refine s_iconst dX6_workers_10 (by decide) ?_
      exact s_retI rfl dX6_workers_11
theorem m_X6_workers (l : Launch) (D : va_G) (cA : Nat → ClassId) (b0 : Nat) : xMet l D cA b0 yX6_workers (.code yX6_workers cX6_workers 3 (some .int) :: xTB) 0 0 (f_X6_workers b0) :=
  xMet_of (n := 2) (by decide +kernel) (by decide) (fun p e R s m args below meth c hs res => t_X6_workers_0)
end M_X6_workers
section M_X6_wakeTasks
variable {p : Program} {l : Launch} {e : Env} {R : Room} {s : State} {m : MethodId} {args : Array Value} {below : List Frame} {meth : Method} {c : Code} {D : va_G} {cA : Nat → ClassId} {b0 : Nat} {hs : xH} {res : Option xV × xH}
set_option maxRecDepth 20000 in
theorem t_X6_wakeTasks_0 (k : Nat → xK) (hk0 : xS p l e R s m args below meth c cX6_wakeTasks 3 none yX6_wakeTasks.cls yX6_wakeTasks.name 1 20 D cA b0 hs res (xMQ D cA b0 below args s hs res) (k 0) 2) : xS p l e R s m args below meth c cX6_wakeTasks 3 none yX6_wakeTasks.cls yX6_wakeTasks.name 1 20 D cA b0 hs res (xMQ D cA b0 below args s hs res) (k_X6_wakeTasks_0 b0 k) 0 := by
  unfold k_X6_wakeTasks_0
  refine s_iconst dX6_wakeTasks_0 (by decide) ?_
  refine s_istore_n dX6_wakeTasks_1 rfl (by decide) ?_
  exact hk0
set_option maxRecDepth 20000 in
theorem t_X6_wakeTasks_2 (k : Nat → xK) (hk0 : xS p l e R s m args below meth c cX6_wakeTasks 3 none yX6_wakeTasks.cls yX6_wakeTasks.name 1 20 D cA b0 hs res (xMQ D cA b0 below args s hs res) (k 0) 2) : xS p l e R s m args below meth c cX6_wakeTasks 3 none yX6_wakeTasks.cls yX6_wakeTasks.name 1 20 D cA b0 hs res (xMQ D cA b0 below args s hs res) (k_X6_wakeTasks_2 b0 k) 2 := by
  unfold k_X6_wakeTasks_2
  refine s_iload_n dX6_wakeTasks_2 rfl ?_
  refine s_aload_n dX6_wakeTasks_3 rfl ?_
  refine s_getR (Tb := TX6) rfl inX6 (by decide) w_47 dX6_wakeTasks_4 ?_
  refine s_len dX6_wakeTasks_7 ?_
  refine s_c2ge (tgt := 32) dX6_wakeTasks_8 (by decide) ?_ ?_
  · exact s_retV rfl dX6_wakeTasks_32
  · refine s_aload_n dX6_wakeTasks_11 rfl ?_
    refine s_getR (Tb := TX6) rfl inX6 (by decide) w_47 dX6_wakeTasks_12 ?_
    refine s_iload_n dX6_wakeTasks_15 rfl ?_
    refine s_qal dX6_wakeTasks_16 ?_
    refine s_astore_n dX6_wakeTasks_17 rfl (by decide) ?_
    refine s_aload_n dX6_wakeTasks_18 rfl ?_
    refine s_cnull (tgt := 26) dX6_wakeTasks_19 (by decide) ?_ ?_
    · refine s_iinc dX6_wakeTasks_26 (by decide) (by decide) ?_
      refine s_goto (tgt := 2) dX6_wakeTasks_29 (by decide) ?_
      exact hk0
    · refine s_aload_n dX6_wakeTasks_22 rfl ?_
      refine s_callV (Tb := TX5) (m_X5_wake l D cA b0) rfl w_276 w_277 w_278 w_30 w_279 ⟨rfl, by decide, by decide, by decide +kernel⟩ (by decide) dX6_wakeTasks_23 ?_
      refine s_iinc dX6_wakeTasks_26 (by decide) (by decide) ?_
      refine s_goto (tgt := 2) dX6_wakeTasks_29 (by decide) ?_
      exact hk0
theorem t_X6_wakeTasks_r (n : Nat) : xS p l e R s m args below meth c cX6_wakeTasks 3 none yX6_wakeTasks.cls yX6_wakeTasks.name 1 20 D cA b0 hs res (xMQ D cA b0 below args s hs res) (r_X6_wakeTasks b0 n 0) 2 := by
  induction n with
  | zero => exact fun ls st h hT => by cases hT
  | succ n ih => exact t_X6_wakeTasks_2 (r_X6_wakeTasks b0 n) ih
theorem m_X6_wakeTasks (l : Launch) (D : va_G) (cA : Nat → ClassId) (b0 : Nat) : xMet l D cA b0 yX6_wakeTasks (.code yX6_wakeTasks cX6_wakeTasks 3 none :: xTB) 1 20 (f_X6_wakeTasks b0) :=
  xMet_of (n := 1) (by decide +kernel) (by decide) (fun p e R s m args below meth c hs res => t_X6_wakeTasks_0 (r_X6_wakeTasks b0 64) (t_X6_wakeTasks_r 64))
end M_X6_wakeTasks
section M_X6_findNextToWork
variable {p : Program} {l : Launch} {e : Env} {R : Room} {s : State} {m : MethodId} {args : Array Value} {below : List Frame} {meth : Method} {c : Code} {D : va_G} {cA : Nat → ClassId} {b0 : Nat} {hs : xH} {res : Option xV × xH}
set_option maxRecDepth 20000 in
theorem t_X6_findNextToWork_0 (k : Nat → xK) (hk0 : xS p l e R s m args below meth c cX6_findNextToWork 4 (some (.object "TaskTurns$Task")) yX6_findNextToWork.cls yX6_findNextToWork.name 1 21 D cA b0 hs res (xMQ D cA b0 below args s hs res) (k 0) 4) : xS p l e R s m args below meth c cX6_findNextToWork 4 (some (.object "TaskTurns$Task")) yX6_findNextToWork.cls yX6_findNextToWork.name 1 21 D cA b0 hs res (xMQ D cA b0 below args s hs res) (k_X6_findNextToWork_0 b0 k) 0 := by
  unfold k_X6_findNextToWork_0
  refine s_null dX6_findNextToWork_0 ?_
  refine s_astore_n dX6_findNextToWork_1 rfl (by decide) ?_
  refine s_iconst dX6_findNextToWork_2 (by decide) ?_
  refine s_istore_n dX6_findNextToWork_3 rfl (by decide) ?_
  exact hk0
set_option maxRecDepth 20000 in
theorem t_X6_findNextToWork_60 (k : Nat → xK) (hk0 : xS p l e R s m args below meth c cX6_findNextToWork 4 (some (.object "TaskTurns$Task")) yX6_findNextToWork.cls yX6_findNextToWork.name 1 21 D cA b0 hs res (xMQ D cA b0 below args s hs res) (k 0) 4) : xS p l e R s m args below meth c cX6_findNextToWork 4 (some (.object "TaskTurns$Task")) yX6_findNextToWork.cls yX6_findNextToWork.name 1 21 D cA b0 hs res (xMQ D cA b0 below args s hs res) (k_X6_findNextToWork_60 b0 k) 60 := by
  unfold k_X6_findNextToWork_60
  refine s_aload_n dX6_findNextToWork_60 rfl ?_
  refine s_astore_n dX6_findNextToWork_61 rfl (by decide) ?_
  refine s_iinc dX6_findNextToWork_62 (by decide) (by decide) ?_
  refine s_goto (tgt := 4) dX6_findNextToWork_65 (by decide) ?_
  exact hk0
set_option maxRecDepth 20000 in
theorem t_X6_findNextToWork_4 (k : Nat → xK) (hk0 : xS p l e R s m args below meth c cX6_findNextToWork 4 (some (.object "TaskTurns$Task")) yX6_findNextToWork.cls yX6_findNextToWork.name 1 21 D cA b0 hs res (xMQ D cA b0 below args s hs res) (k 0) 4) : xS p l e R s m args below meth c cX6_findNextToWork 4 (some (.object "TaskTurns$Task")) yX6_findNextToWork.cls yX6_findNextToWork.name 1 21 D cA b0 hs res (xMQ D cA b0 below args s hs res) (k_X6_findNextToWork_4 b0 k) 4 := by
  unfold k_X6_findNextToWork_4
  refine s_iload_n dX6_findNextToWork_4 rfl ?_
  refine s_aload_n dX6_findNextToWork_5 rfl ?_
  refine s_getR (Tb := TX6) rfl inX6 (by decide) w_47 dX6_findNextToWork_6 ?_
  refine s_len dX6_findNextToWork_9 ?_
  refine s_c2ge (tgt := 68) dX6_findNextToWork_10 (by decide) ?_ ?_
  · refine s_aload_n dX6_findNextToWork_68 rfl ?_
    exact s_retR rfl (Or.inl ⟨_, rfl⟩) dX6_findNextToWork_69
  · refine s_aload_n dX6_findNextToWork_13 rfl ?_
    refine s_getR (Tb := TX6) rfl inX6 (by decide) w_47 dX6_findNextToWork_14 ?_
    refine s_iload_n dX6_findNextToWork_17 rfl ?_
    refine s_qal dX6_findNextToWork_18 ?_
    refine s_astore_n dX6_findNextToWork_19 rfl (by decide) ?_
    refine s_aload_n dX6_findNextToWork_20 rfl ?_
    refine s_cnull (tgt := 62) dX6_findNextToWork_21 (by decide) ?_ ?_
    · refine s_iinc dX6_findNextToWork_62 (by decide) (by decide) ?_
      refine s_goto (tgt := 4) dX6_findNextToWork_65 (by decide) ?_
      exact hk0
    · refine s_aload_n dX6_findNextToWork_24 rfl ?_
      refine s_aload_n dX6_findNextToWork_25 rfl ?_
      refine s_getI (Tb := TX6) rfl inX6 (by decide) w_52 dX6_findNextToWork_26 ?_
      refine s_callV (Tb := TX5) (m_X5_isReadyIn l D cA b0) rfl w_284 w_285 w_286 w_30 w_287 ⟨rfl, by decide, by decide, by decide +kernel⟩ (by decide) dX6_findNextToWork_29 ?_
      refine s_c1eq (tgt := 62) dX6_findNextToWork_32 (by decide) ?_ ?_
      · refine s_iinc dX6_findNextToWork_62 (by decide) (by decide) ?_
        refine s_goto (tgt := 4) dX6_findNextToWork_65 (by decide) ?_
        exact hk0
      · refine s_aload_n dX6_findNextToWork_35 rfl ?_
        refine s_cnull (tgt := 60) dX6_findNextToWork_36 (by decide) ?_ ?_
        · exact t_X6_findNextToWork_60 k hk0
        · refine s_aload_n dX6_findNextToWork_39 rfl ?_
          refine s_getI (Tb := TX5) rfl inX5 (by decide) w_182 dX6_findNextToWork_40 ?_
          refine s_aload_n dX6_findNextToWork_43 rfl ?_
          refine s_getI (Tb := TX5) rfl inX5 (by decide) w_195 dX6_findNextToWork_44 ?_
          refine s_iadd dX6_findNextToWork_47 ?_
          refine s_aload_n dX6_findNextToWork_48 rfl ?_
          refine s_getI (Tb := TX5) rfl inX5 (by decide) w_182 dX6_findNextToWork_49 ?_
          refine s_aload_n dX6_findNextToWork_52 rfl ?_
          refine s_getI (Tb := TX5) rfl inX5 (by decide) w_195 dX6_findNextToWork_53 ?_
          refine s_iadd dX6_findNextToWork_56 ?_
          refine s_c2le (tgt := 62) dX6_findNextToWork_57 (by decide) ?_ ?_
          · refine s_iinc dX6_findNextToWork_62 (by decide) (by decide) ?_
            refine s_goto (tgt := 4) dX6_findNextToWork_65 (by decide) ?_
            exact hk0
          · exact t_X6_findNextToWork_60 k hk0
theorem t_X6_findNextToWork_r (n : Nat) : xS p l e R s m args below meth c cX6_findNextToWork 4 (some (.object "TaskTurns$Task")) yX6_findNextToWork.cls yX6_findNextToWork.name 1 21 D cA b0 hs res (xMQ D cA b0 below args s hs res) (r_X6_findNextToWork b0 n 0) 4 := by
  induction n with
  | zero => exact fun ls st h hT => by cases hT
  | succ n ih => exact t_X6_findNextToWork_4 (r_X6_findNextToWork b0 n) ih
theorem m_X6_findNextToWork (l : Launch) (D : va_G) (cA : Nat → ClassId) (b0 : Nat) : xMet l D cA b0 yX6_findNextToWork (.code yX6_findNextToWork cX6_findNextToWork 4 (some (.object "TaskTurns$Task")) :: xTB) 1 21 (f_X6_findNextToWork b0) :=
  xMet_of (n := 1) (by decide +kernel) (by decide) (fun p e R s m args below meth c hs res => t_X6_findNextToWork_0 (r_X6_findNextToWork b0 64) (t_X6_findNextToWork_r 64))
end M_X6_findNextToWork
section M_X6_send
variable {p : Program} {l : Launch} {e : Env} {R : Room} {s : State} {m : MethodId} {args : Array Value} {below : List Frame} {meth : Method} {c : Code} {D : va_G} {cA : Nat → ClassId} {b0 : Nat} {hs : xH} {res : Option xV × xH}
set_option maxRecDepth 20000 in
theorem t_X6_send_0  : xS p l e R s m args below meth c cX6_send 4 (some .int) yX6_send.cls yX6_send.name 1 21 D cA b0 hs res (xMQ D cA b0 below args s hs res) (k_X6_send_0 b0) 0 := by
  unfold k_X6_send_0
  refine s_aload_n dX6_send_0 rfl ?_
  refine s_iload_n dX6_send_1 rfl ?_
  refine s_callV (Tb := TX6) (m_X6_find l D cA b0) rfl w_252 w_254 w_0 w_28 w_255 ⟨rfl, by decide, by decide, by decide +kernel⟩ (by decide) dX6_send_2 ?_
  refine s_astore_n dX6_send_5 rfl (by decide) ?_
  refine s_aload_n dX6_send_6 rfl ?_
  refine s_cnonnull (tgt := 12) dX6_send_7 (by decide) ?_ ?_
  · refine s_aload_n dX6_send_12 rfl ?_
    refine s_callV (Tb := TX5) (m_X5_isOver l D cA b0) rfl w_347 w_348 w_349 w_30 w_350 ⟨rfl, by decide, by decide, by decide +kernel⟩ (by decide) dX6_send_13 ?_
    refine s_c1eq (tgt := 31) dX6_send_16 (by decide) ?_ ?_
    · refine s_aload_n dX6_send_31 rfl ?_
      refine s_getR (Tb := TX5) rfl inX5 (by decide) w_186 dX6_send_32 ?_
      refine s_callV (Tb := TX2) (m_X2_isFull l D cA b0) rfl w_351 w_352 w_353 w_32 w_354 ⟨rfl, by decide, by decide, by decide +kernel⟩ (by decide) dX6_send_35 ?_
      refine s_c1eq (tgt := 44) dX6_send_38 (by decide) ?_ ?_
      · refine s_aload_n dX6_send_44 rfl ?_
        refine s_getR (Tb := TX5) rfl inX5 (by decide) w_186 dX6_send_45 ?_
        refine s_iload_n dX6_send_48 rfl ?_
        refine s_callV (Tb := TX2) (m_X2_append l D cA b0) rfl w_355 w_356 w_357 w_32 w_358 ⟨rfl, by decide, by decide, by decide +kernel⟩ (by decide) dX6_send_49 ?_
        refine s_iconst dX6_send_52 (by decide) ?_
        exact s_retI rfl dX6_send_53
      · refine s_bipush dX6_send_41 (by decide) ?_
        exact s_retI rfl dX6_send_43
    · refine s_aload_n dX6_send_19 rfl ?_
      refine s_dup dX6_send_20 ?_
      refine s_getI (Tb := TX6) rfl inX6 (by decide) w_54 dX6_send_21 ?_
      refine s_iconst dX6_send_24 (by decide) ?_
      refine s_iadd dX6_send_25 ?_
      refine s_putI (Tb := TX6) rfl inX6 (by decide) w_54 tyX6 tyX6_ok nmX6 rfl rfl dX6_send_26 ?_
      refine s_iconst dX6_send_29 (by decide) ?_
      exact s_retI rfl dX6_send_30
  · refine s_iconst dX6_send_10 (by decide) ?_
    exact s_retI rfl dX6_send_11
theorem m_X6_send (l : Launch) (D : va_G) (cA : Nat → ClassId) (b0 : Nat) : xMet l D cA b0 yX6_send (.code yX6_send cX6_send 4 (some .int) :: xTB) 1 21 (f_X6_send b0) :=
  xMet_of (n := 3) (by decide +kernel) (by decide) (fun p e R s m args below meth c hs res => t_X6_send_0)
end M_X6_send
section M_X6_ask
variable {p : Program} {l : Launch} {e : Env} {R : Room} {s : State} {m : MethodId} {args : Array Value} {below : List Frame} {meth : Method} {c : Code} {D : va_G} {cA : Nat → ClassId} {b0 : Nat} {hs : xH} {res : Option xV × xH}
set_option maxRecDepth 20000 in
theorem t_X6_ask_0  : xS p l e R s m args below meth c cX6_ask 5 (some .int) yX6_ask.cls yX6_ask.name 1 22 D cA b0 hs res (xMQ D cA b0 below args s hs res) (k_X6_ask_0 b0) 0 := by
  unfold k_X6_ask_0
  refine s_aload_n dX6_ask_0 rfl ?_
  refine s_getR (Tb := TX5) rfl inX5 (by decide) w_190 dX6_ask_1 ?_
  refine s_iconst dX6_ask_4 (by decide) ?_
  refine s_iload_n dX6_ask_5 rfl ?_
  refine s_callV (Tb := TX1) (m_X1_lookAt l D cA b0) rfl w_391 w_384 w_385 w_34 w_386 ⟨rfl, by decide, by decide, by decide +kernel⟩ (by decide) dX6_ask_6 ?_
  refine s_istore_n dX6_ask_9 rfl (by decide) ?_
  refine s_iload_n dX6_ask_10 rfl ?_
  refine s_c1eq (tgt := 16) dX6_ask_11 (by decide) ?_ ?_
  · refine s_aload_n dX6_ask_16 rfl ?_
    refine s_aload_n dX6_ask_17 rfl ?_
    refine s_getR (Tb := TX5) rfl inX5 (by decide) w_190 dX6_ask_18 ?_
    refine s_getR (Tb := TX1) rfl inX1 (by decide) w_150 dX6_ask_21 ?_
    refine s_iload_n dX6_ask_24 rfl ?_
    refine s_ial dX6_ask_25 ?_
    refine s_callV (Tb := TX6) (m_X6_find l D cA b0) rfl w_252 w_254 w_0 w_28 w_255 ⟨rfl, by decide, by decide, by decide +kernel⟩ (by decide) dX6_ask_26 ?_
    refine s_astore dX6_ask_29 (by decide) ?_
    refine s_aload dX6_ask_31 ?_
    refine s_cnonnull (tgt := 38) dX6_ask_33 (by decide) ?_ ?_
    · refine s_aload_n dX6_ask_38 rfl ?_
      refine s_dup dX6_ask_39 ?_
      refine s_getI (Tb := TX5) rfl inX5 (by decide) w_197 dX6_ask_40 ?_
      refine s_aload dX6_ask_43 ?_
      refine s_getI (Tb := TX5) rfl inX5 (by decide) w_197 dX6_ask_45 ?_
      refine s_iadd dX6_ask_48 ?_
      refine s_putI (Tb := TX5) rfl inX5 (by decide) w_197 tyX5 tyX5_ok nmX5 rfl rfl dX6_ask_49 ?_
      refine s_iconst dX6_ask_52 (by decide) ?_
      exact s_retI rfl dX6_ask_53
    · refine s_iconst dX6_ask_36 (by decide) ?_
      exact s_retI rfl dX6_ask_37
  · refine s_iload_n dX6_ask_14 rfl ?_
    exact s_retI rfl dX6_ask_15
theorem m_X6_ask (l : Launch) (D : va_G) (cA : Nat → ClassId) (b0 : Nat) : xMet l D cA b0 yX6_ask (.code yX6_ask cX6_ask 5 (some .int) :: xTB) 1 22 (f_X6_ask b0) :=
  xMet_of (n := 3) (by decide +kernel) (by decide) (fun p e R s m args below meth c hs res => t_X6_ask_0)
end M_X6_ask
section M_X6_doAct
variable {p : Program} {l : Launch} {e : Env} {R : Room} {s : State} {m : MethodId} {args : Array Value} {below : List Frame} {meth : Method} {c : Code} {D : va_G} {cA : Nat → ClassId} {b0 : Nat} {hs : xH} {res : Option xV × xH}
set_option maxRecDepth 20000 in
theorem t_X6_doAct_301  : xS p l e R s m args below meth c cX6_doAct 6 (some .int) yX6_doAct.cls yX6_doAct.name 2 46 D cA b0 hs res (xMQ D cA b0 below args s hs res) (k_X6_doAct_301 b0) 301 := by
  unfold k_X6_doAct_301
  refine s_istore dX6_doAct_301 (by decide) ?_
  refine s_iload dX6_doAct_303 ?_
  refine s_c1ne (tgt := 326) dX6_doAct_305 (by decide) ?_ ?_
  · refine s_iload dX6_doAct_326 ?_
    exact s_retI rfl dX6_doAct_328
  · refine s_aload_n dX6_doAct_308 rfl ?_
    refine s_getI (Tb := TX5) rfl inX5 (by decide) w_193 dX6_doAct_309 ?_
    refine s_iconst dX6_doAct_312 (by decide) ?_
    refine s_c2eq (tgt := 326) dX6_doAct_313 (by decide) ?_ ?_
    · refine s_iload dX6_doAct_326 ?_
      exact s_retI rfl dX6_doAct_328
    · refine s_aload_n dX6_doAct_316 rfl ?_
      refine s_dup dX6_doAct_317 ?_
      refine s_getI (Tb := TX5) rfl inX5 (by decide) w_199 dX6_doAct_318 ?_
      refine s_iconst dX6_doAct_321 (by decide) ?_
      refine s_iadd dX6_doAct_322 ?_
      refine s_putI (Tb := TX5) rfl inX5 (by decide) w_199 tyX5 tyX5_ok nmX5 rfl rfl dX6_doAct_323 ?_
      refine s_iload dX6_doAct_326 ?_
      exact s_retI rfl dX6_doAct_328
set_option maxRecDepth 20000 in
theorem t_X6_doAct_132  : xS p l e R s m args below meth c cX6_doAct 6 (some .int) yX6_doAct.cls yX6_doAct.name 2 46 D cA b0 hs res (xMQ D cA b0 below args s hs res) (k_X6_doAct_132 b0) 132 := by
  unfold k_X6_doAct_132
  refine s_aload_n dX6_doAct_132 rfl ?_
  refine s_iload_n dX6_doAct_133 rfl ?_
  refine s_callV (Tb := TX5) (m_X5_add l D cA b0) rfl w_303 w_304 w_305 w_30 w_306 ⟨rfl, by decide, by decide, by decide +kernel⟩ (by decide) dX6_doAct_134 ?_
  refine s_goto (tgt := 301) dX6_doAct_137 (by decide) ?_
  exact t_X6_doAct_301
set_option maxRecDepth 20000 in
theorem t_X6_doAct_140  : xS p l e R s m args below meth c cX6_doAct 6 (some .int) yX6_doAct.cls yX6_doAct.name 2 46 D cA b0 hs res (xMQ D cA b0 below args s hs res) (k_X6_doAct_140 b0) 140 := by
  unfold k_X6_doAct_140
  refine s_aload_n dX6_doAct_140 rfl ?_
  refine s_iload_n dX6_doAct_141 rfl ?_
  refine s_callV (Tb := TX5) (m_X5_divide l D cA b0) rfl w_307 w_308 w_309 w_30 w_310 ⟨rfl, by decide, by decide, by decide +kernel⟩ (by decide) dX6_doAct_142 ?_
  refine s_goto (tgt := 301) dX6_doAct_145 (by decide) ?_
  exact t_X6_doAct_301
set_option maxRecDepth 20000 in
theorem t_X6_doAct_148  : xS p l e R s m args below meth c cX6_doAct 6 (some .int) yX6_doAct.cls yX6_doAct.name 2 46 D cA b0 hs res (xMQ D cA b0 below args s hs res) (k_X6_doAct_148 b0) 148 := by
  unfold k_X6_doAct_148
  refine s_aload_n dX6_doAct_148 rfl ?_
  refine s_iload_n dX6_doAct_149 rfl ?_
  refine s_callV (Tb := TX5) (m_X5_makeRow l D cA b0) rfl w_311 w_312 w_313 w_30 w_314 ⟨rfl, by decide, by decide, by decide +kernel⟩ (by decide) dX6_doAct_150 ?_
  refine s_goto (tgt := 301) dX6_doAct_153 (by decide) ?_
  exact t_X6_doAct_301
set_option maxRecDepth 20000 in
theorem t_X6_doAct_156  : xS p l e R s m args below meth c cX6_doAct 6 (some .int) yX6_doAct.cls yX6_doAct.name 2 46 D cA b0 hs res (xMQ D cA b0 below args s hs res) (k_X6_doAct_156 b0) 156 := by
  unfold k_X6_doAct_156
  refine s_aload_n dX6_doAct_156 rfl ?_
  refine s_iload_n dX6_doAct_157 rfl ?_
  refine s_callV (Tb := TX5) (m_X5_put l D cA b0) rfl w_319 w_320 w_321 w_30 w_322 ⟨rfl, by decide, by decide, by decide +kernel⟩ (by decide) dX6_doAct_158 ?_
  refine s_goto (tgt := 301) dX6_doAct_161 (by decide) ?_
  exact t_X6_doAct_301
set_option maxRecDepth 20000 in
theorem t_X6_doAct_164  : xS p l e R s m args below meth c cX6_doAct 6 (some .int) yX6_doAct.cls yX6_doAct.name 2 46 D cA b0 hs res (xMQ D cA b0 below args s hs res) (k_X6_doAct_164 b0) 164 := by
  unfold k_X6_doAct_164
  refine s_aload_n dX6_doAct_164 rfl ?_
  refine s_iload_n dX6_doAct_165 rfl ?_
  refine s_callV (Tb := TX5) (m_X5_get l D cA b0) rfl w_331 w_332 w_333 w_30 w_334 ⟨rfl, by decide, by decide, by decide +kernel⟩ (by decide) dX6_doAct_166 ?_
  refine s_goto (tgt := 301) dX6_doAct_169 (by decide) ?_
  exact t_X6_doAct_301
set_option maxRecDepth 20000 in
theorem t_X6_doAct_172  : xS p l e R s m args below meth c cX6_doAct 6 (some .int) yX6_doAct.cls yX6_doAct.name 2 46 D cA b0 hs res (xMQ D cA b0 below args s hs res) (k_X6_doAct_172 b0) 172 := by
  unfold k_X6_doAct_172
  refine s_aload_n dX6_doAct_172 rfl ?_
  refine s_iload_n dX6_doAct_173 rfl ?_
  refine s_callV (Tb := TX5) (m_X5_takeLetter l D cA b0) rfl w_335 w_336 w_337 w_30 w_338 ⟨rfl, by decide, by decide, by decide +kernel⟩ (by decide) dX6_doAct_174 ?_
  refine s_goto (tgt := 301) dX6_doAct_177 (by decide) ?_
  exact t_X6_doAct_301
set_option maxRecDepth 20000 in
theorem t_X6_doAct_180  : xS p l e R s m args below meth c cX6_doAct 6 (some .int) yX6_doAct.cls yX6_doAct.name 2 46 D cA b0 hs res (xMQ D cA b0 below args s hs res) (k_X6_doAct_180 b0) 180 := by
  unfold k_X6_doAct_180
  refine s_aload_n dX6_doAct_180 rfl ?_
  refine s_aload_n dX6_doAct_181 rfl ?_
  refine s_getI (Tb := TX5) rfl inX5 (by decide) w_197 dX6_doAct_182 ?_
  refine s_iload dX6_doAct_185 ?_
  refine s_iadd dX6_doAct_187 ?_
  refine s_iload_n dX6_doAct_188 rfl ?_
  refine s_callV (Tb := TX6) (m_X6_send l D cA b0) rfl w_343 w_345 w_7 w_28 w_346 ⟨rfl, by decide, by decide, by decide +kernel⟩ (by decide) dX6_doAct_189 ?_
  refine s_goto (tgt := 301) dX6_doAct_192 (by decide) ?_
  exact t_X6_doAct_301
set_option maxRecDepth 20000 in
theorem t_X6_doAct_195  : xS p l e R s m args below meth c cX6_doAct 6 (some .int) yX6_doAct.cls yX6_doAct.name 2 46 D cA b0 hs res (xMQ D cA b0 below args s hs res) (k_X6_doAct_195 b0) 195 := by
  unfold k_X6_doAct_195
  refine s_aload_n dX6_doAct_195 rfl ?_
  refine s_iload_n dX6_doAct_196 rfl ?_
  refine s_callV (Tb := TX5) (m_X5_waitFor l D cA b0) rfl w_359 w_360 w_361 w_30 w_362 ⟨rfl, by decide, by decide, by decide +kernel⟩ (by decide) dX6_doAct_197 ?_
  refine s_goto (tgt := 301) dX6_doAct_200 (by decide) ?_
  exact t_X6_doAct_301
set_option maxRecDepth 20000 in
theorem t_X6_doAct_203  : xS p l e R s m args below meth c cX6_doAct 6 (some .int) yX6_doAct.cls yX6_doAct.name 2 46 D cA b0 hs res (xMQ D cA b0 below args s hs res) (k_X6_doAct_203 b0) 203 := by
  unfold k_X6_doAct_203
  refine s_aload_n dX6_doAct_203 rfl ?_
  refine s_callV (Tb := TX5) (m_X5_setMark l D cA b0) rfl w_363 w_364 w_365 w_30 w_366 ⟨rfl, by decide, by decide, by decide +kernel⟩ (by decide) dX6_doAct_204 ?_
  refine s_goto (tgt := 301) dX6_doAct_207 (by decide) ?_
  exact t_X6_doAct_301
set_option maxRecDepth 20000 in
theorem t_X6_doAct_210  : xS p l e R s m args below meth c cX6_doAct 6 (some .int) yX6_doAct.cls yX6_doAct.name 2 46 D cA b0 hs res (xMQ D cA b0 below args s hs res) (k_X6_doAct_210 b0) 210 := by
  unfold k_X6_doAct_210
  refine s_bipush dX6_doAct_210 (by decide) ?_
  refine s_goto (tgt := 301) dX6_doAct_212 (by decide) ?_
  exact t_X6_doAct_301
set_option maxRecDepth 20000 in
theorem t_X6_doAct_215  : xS p l e R s m args below meth c cX6_doAct 6 (some .int) yX6_doAct.cls yX6_doAct.name 2 46 D cA b0 hs res (xMQ D cA b0 below args s hs res) (k_X6_doAct_215 b0) 215 := by
  unfold k_X6_doAct_215
  refine s_aload_n dX6_doAct_215 rfl ?_
  refine s_iload_n dX6_doAct_216 rfl ?_
  refine s_callV (Tb := TX5) (m_X5_makeBox l D cA b0) rfl w_371 w_372 w_373 w_30 w_374 ⟨rfl, by decide, by decide, by decide +kernel⟩ (by decide) dX6_doAct_217 ?_
  refine s_goto (tgt := 301) dX6_doAct_220 (by decide) ?_
  exact t_X6_doAct_301
set_option maxRecDepth 20000 in
theorem t_X6_doAct_223  : xS p l e R s m args below meth c cX6_doAct 6 (some .int) yX6_doAct.cls yX6_doAct.name 2 46 D cA b0 hs res (xMQ D cA b0 below args s hs res) (k_X6_doAct_223 b0) 223 := by
  unfold k_X6_doAct_223
  refine s_aload_n dX6_doAct_223 rfl ?_
  refine s_getR (Tb := TX5) rfl inX5 (by decide) w_190 dX6_doAct_224 ?_
  refine s_iconst dX6_doAct_227 (by decide) ?_
  refine s_iload_n dX6_doAct_228 rfl ?_
  refine s_aload_n dX6_doAct_229 rfl ?_
  refine s_getI (Tb := TX5) rfl inX5 (by decide) w_197 dX6_doAct_230 ?_
  refine s_callV (Tb := TX1) (m_X1_put l D cA b0) rfl w_379 w_380 w_381 w_34 w_382 ⟨rfl, by decide, by decide, by decide +kernel⟩ (by decide) dX6_doAct_233 ?_
  refine s_goto (tgt := 301) dX6_doAct_236 (by decide) ?_
  exact t_X6_doAct_301
set_option maxRecDepth 20000 in
theorem t_X6_doAct_239  : xS p l e R s m args below meth c cX6_doAct 6 (some .int) yX6_doAct.cls yX6_doAct.name 2 46 D cA b0 hs res (xMQ D cA b0 below args s hs res) (k_X6_doAct_239 b0) 239 := by
  unfold k_X6_doAct_239
  refine s_aload_n dX6_doAct_239 rfl ?_
  refine s_iload dX6_doAct_240 ?_
  refine s_callV (Tb := TX6) (m_X6_find l D cA b0) rfl w_252 w_254 w_0 w_28 w_255 ⟨rfl, by decide, by decide, by decide +kernel⟩ (by decide) dX6_doAct_242 ?_
  refine s_cnonnull (tgt := 252) dX6_doAct_245 (by decide) ?_ ?_
  · refine s_aload_n dX6_doAct_252 rfl ?_
    refine s_getR (Tb := TX5) rfl inX5 (by decide) w_190 dX6_doAct_253 ?_
    refine s_iconst dX6_doAct_256 (by decide) ?_
    refine s_iload_n dX6_doAct_257 rfl ?_
    refine s_iload dX6_doAct_258 ?_
    refine s_callV (Tb := TX1) (m_X1_put l D cA b0) rfl w_379 w_380 w_381 w_34 w_382 ⟨rfl, by decide, by decide, by decide +kernel⟩ (by decide) dX6_doAct_260 ?_
    refine s_goto (tgt := 301) dX6_doAct_263 (by decide) ?_
    exact t_X6_doAct_301
  · refine s_iconst dX6_doAct_248 (by decide) ?_
    refine s_goto (tgt := 301) dX6_doAct_249 (by decide) ?_
    exact t_X6_doAct_301
set_option maxRecDepth 20000 in
theorem t_X6_doAct_266  : xS p l e R s m args below meth c cX6_doAct 6 (some .int) yX6_doAct.cls yX6_doAct.name 2 46 D cA b0 hs res (xMQ D cA b0 below args s hs res) (k_X6_doAct_266 b0) 266 := by
  unfold k_X6_doAct_266
  refine s_aload_n dX6_doAct_266 rfl ?_
  refine s_aload_n dX6_doAct_267 rfl ?_
  refine s_iload_n dX6_doAct_268 rfl ?_
  refine s_callV (Tb := TX6) (m_X6_ask l D cA b0) rfl w_387 w_389 w_8 w_28 w_390 ⟨rfl, by decide, by decide, by decide +kernel⟩ (by decide) dX6_doAct_269 ?_
  refine s_goto (tgt := 301) dX6_doAct_272 (by decide) ?_
  exact t_X6_doAct_301
set_option maxRecDepth 20000 in
theorem t_X6_doAct_275  : xS p l e R s m args below meth c cX6_doAct 6 (some .int) yX6_doAct.cls yX6_doAct.name 2 46 D cA b0 hs res (xMQ D cA b0 below args s hs res) (k_X6_doAct_275 b0) 275 := by
  unfold k_X6_doAct_275
  refine s_aload_n dX6_doAct_275 rfl ?_
  refine s_getI (Tb := TX5) rfl inX5 (by decide) w_197 dX6_doAct_276 ?_
  refine s_iload_n dX6_doAct_279 rfl ?_
  refine s_c2ge (tgt := 288) dX6_doAct_280 (by decide) ?_ ?_
  · refine s_iconst dX6_doAct_288 (by decide) ?_
    refine s_goto (tgt := 301) dX6_doAct_289 (by decide) ?_
    exact t_X6_doAct_301
  · refine s_bipush dX6_doAct_283 (by decide) ?_
    refine s_goto (tgt := 301) dX6_doAct_285 (by decide) ?_
    exact t_X6_doAct_301
set_option maxRecDepth 20000 in
theorem t_X6_doAct_292  : xS p l e R s m args below meth c cX6_doAct 6 (some .int) yX6_doAct.cls yX6_doAct.name 2 46 D cA b0 hs res (xMQ D cA b0 below args s hs res) (k_X6_doAct_292 b0) 292 := by
  unfold k_X6_doAct_292
  refine s_aload_n dX6_doAct_292 rfl ?_
  refine s_iload_n dX6_doAct_293 rfl ?_
  refine s_callV (Tb := TX5) (m_X5_copyToBox l D cA b0) rfl w_392 w_393 w_394 w_30 w_395 ⟨rfl, by decide, by decide, by decide +kernel⟩ (by decide) dX6_doAct_294 ?_
  refine s_goto (tgt := 301) dX6_doAct_297 (by decide) ?_
  exact t_X6_doAct_301
set_option maxRecDepth 20000 in
theorem t_X6_doAct_300  : xS p l e R s m args below meth c cX6_doAct 6 (some .int) yX6_doAct.cls yX6_doAct.name 2 46 D cA b0 hs res (xMQ D cA b0 below args s hs res) (k_X6_doAct_300 b0) 300 := by
  unfold k_X6_doAct_300
  refine s_iconst dX6_doAct_300 (by decide) ?_
  exact t_X6_doAct_301
set_option maxRecDepth 20000 in
theorem t_X6_doAct_0  : xS p l e R s m args below meth c cX6_doAct 6 (some .int) yX6_doAct.cls yX6_doAct.name 2 46 D cA b0 hs res (xMQ D cA b0 below args s hs res) (k_X6_doAct_0 b0) 0 := by
  unfold k_X6_doAct_0
  refine s_aload_n dX6_doAct_0 rfl ?_
  refine s_getR (Tb := TX5) rfl inX5 (by decide) w_184 dX6_doAct_1 ?_
  refine s_getR (Tb := TX0) rfl inX0 (by decide) w_97 dX6_doAct_4 ?_
  refine s_aload_n dX6_doAct_7 rfl ?_
  refine s_getI (Tb := TX5) rfl inX5 (by decide) w_199 dX6_doAct_8 ?_
  refine s_ial dX6_doAct_11 ?_
  refine s_istore_n dX6_doAct_12 rfl (by decide) ?_
  refine s_aload_n dX6_doAct_13 rfl ?_
  refine s_getR (Tb := TX5) rfl inX5 (by decide) w_184 dX6_doAct_14 ?_
  refine s_getR (Tb := TX0) rfl inX0 (by decide) w_99 dX6_doAct_17 ?_
  refine s_aload_n dX6_doAct_20 rfl ?_
  refine s_getI (Tb := TX5) rfl inX5 (by decide) w_199 dX6_doAct_21 ?_
  refine s_ial dX6_doAct_24 ?_
  refine s_istore dX6_doAct_25 (by decide) ?_
  refine s_aload_n dX6_doAct_27 rfl ?_
  refine s_dup dX6_doAct_28 ?_
  refine s_getI (Tb := TX6) rfl inX6 (by decide) w_53 dX6_doAct_29 ?_
  refine s_iconst dX6_doAct_32 (by decide) ?_
  refine s_iadd dX6_doAct_33 ?_
  refine s_putI (Tb := TX6) rfl inX6 (by decide) w_53 tyX6 tyX6_ok nmX6 rfl rfl dX6_doAct_34 ?_
  refine s_aload_n dX6_doAct_37 rfl ?_
  refine s_iconst dX6_doAct_38 (by decide) ?_
  refine s_putZ (Tb := TX5) rfl inX5 (by decide) w_204 tyX5 tyX5_ok nmX5 rfl rfl dX6_doAct_39 ?_
  refine s_aload_n dX6_doAct_42 rfl ?_
  refine s_getR (Tb := TX5) rfl inX5 (by decide) w_184 dX6_doAct_43 ?_
  refine s_getR (Tb := TX0) rfl inX0 (by decide) w_95 dX6_doAct_46 ?_
  refine s_aload_n dX6_doAct_49 rfl ?_
  refine s_getI (Tb := TX5) rfl inX5 (by decide) w_199 dX6_doAct_50 ?_
  refine s_ial dX6_doAct_53 ?_
  refine s_tab (tg := st_X6_doAct_54) (dt := 300) dX6_doAct_54 (by decide) (by decide) ?_ ?_ (t_X6_doAct_300)
  · intro j hj
    match j, hj with
    | 0, _ => exact ⟨78, rfl, by decide⟩
    | 1, _ => exact ⟨86, rfl, by decide⟩
    | 2, _ => exact ⟨94, rfl, by decide⟩
    | 3, _ => exact ⟨102, rfl, by decide⟩
    | 4, _ => exact ⟨110, rfl, by decide⟩
    | 5, _ => exact ⟨118, rfl, by decide⟩
    | 6, _ => exact ⟨126, rfl, by decide⟩
    | 7, _ => exact ⟨141, rfl, by decide⟩
    | 8, _ => exact ⟨149, rfl, by decide⟩
    | 9, _ => exact ⟨156, rfl, by decide⟩
    | 10, _ => exact ⟨161, rfl, by decide⟩
    | 11, _ => exact ⟨169, rfl, by decide⟩
    | 12, _ => exact ⟨185, rfl, by decide⟩
    | 13, _ => exact ⟨212, rfl, by decide⟩
    | 14, _ => exact ⟨221, rfl, by decide⟩
    | 15, _ => exact ⟨238, rfl, by decide⟩
    | q + 16, hj => exact absurd hj (by omega)
  · intro j hj
    match j, hj with
    | 0, _ => exact t_X6_doAct_132
    | 1, _ => exact t_X6_doAct_140
    | 2, _ => exact t_X6_doAct_148
    | 3, _ => exact t_X6_doAct_156
    | 4, _ => exact t_X6_doAct_164
    | 5, _ => exact t_X6_doAct_172
    | 6, _ => exact t_X6_doAct_180
    | 7, _ => exact t_X6_doAct_195
    | 8, _ => exact t_X6_doAct_203
    | 9, _ => exact t_X6_doAct_210
    | 10, _ => exact t_X6_doAct_215
    | 11, _ => exact t_X6_doAct_223
    | 12, _ => exact t_X6_doAct_239
    | 13, _ => exact t_X6_doAct_266
    | 14, _ => exact t_X6_doAct_275
    | 15, _ => exact t_X6_doAct_292
    | q + 16, hj => exact absurd hj (by omega)
theorem m_X6_doAct (l : Launch) (D : va_G) (cA : Nat → ClassId) (b0 : Nat) : xMet l D cA b0 yX6_doAct (.code yX6_doAct cX6_doAct 6 (some .int) :: xTB) 2 46 (f_X6_doAct b0) :=
  xMet_of (n := 3) (by decide +kernel) (by decide) (fun p e R s m args below meth c hs res => t_X6_doAct_0)
end M_X6_doAct
section M_X6_doGuard
variable {p : Program} {l : Launch} {e : Env} {R : Room} {s : State} {m : MethodId} {args : Array Value} {below : List Frame} {meth : Method} {c : Code} {D : va_G} {cA : Nat → ClassId} {b0 : Nat} {hs : xH} {res : Option xV × xH}
set_option maxRecDepth 20000 in
theorem t_X6_doGuard_0 (k : Nat → xK) (hk0 : xS p l e R s m args below meth c cX6_doGuard 5 (some .int) yX6_doGuard.cls yX6_doGuard.name 3 71 D cA b0 hs res (xMQ D cA b0 below args s hs res) (k 0) 60) : xS p l e R s m args below meth c cX6_doGuard 5 (some .int) yX6_doGuard.cls yX6_doGuard.name 3 71 D cA b0 hs res (xMQ D cA b0 below args s hs res) (k_X6_doGuard_0 b0 k) 0 := by
  unfold k_X6_doGuard_0
  refine s_aload_n dX6_doGuard_0 rfl ?_
  refine s_getR (Tb := TX5) rfl inX5 (by decide) w_184 dX6_doGuard_1 ?_
  refine s_getR (Tb := TX0) rfl inX0 (by decide) w_97 dX6_doGuard_4 ?_
  refine s_aload_n dX6_doGuard_7 rfl ?_
  refine s_getI (Tb := TX5) rfl inX5 (by decide) w_199 dX6_doGuard_8 ?_
  refine s_ial dX6_doGuard_11 ?_
  refine s_aload_n dX6_doGuard_12 rfl ?_
  refine s_getR (Tb := TX5) rfl inX5 (by decide) w_184 dX6_doGuard_13 ?_
  refine s_getI (Tb := TX0) rfl inX0 (by decide) w_101 dX6_doGuard_16 ?_
  refine s_aload_n dX6_doGuard_19 rfl ?_
  refine s_getI (Tb := TX5) rfl inX5 (by decide) w_199 dX6_doGuard_20 ?_
  refine s_isub dX6_doGuard_23 ?_
  refine s_iconst dX6_doGuard_24 (by decide) ?_
  refine s_isub dX6_doGuard_25 ?_
  refine s_min w_296 w_297 w_36 w_298 (by decide) dX6_doGuard_26 ?_
  refine s_istore_n dX6_doGuard_29 rfl (by decide) ?_
  refine s_aload_n dX6_doGuard_30 rfl ?_
  refine s_dup dX6_doGuard_31 ?_
  refine s_getI (Tb := TX6) rfl inX6 (by decide) w_53 dX6_doGuard_32 ?_
  refine s_iconst dX6_doGuard_35 (by decide) ?_
  refine s_iadd dX6_doGuard_36 ?_
  refine s_putI (Tb := TX6) rfl inX6 (by decide) w_53 tyX6 tyX6_ok nmX6 rfl rfl dX6_doGuard_37 ?_
  refine s_aload_n dX6_doGuard_40 rfl ?_
  refine s_iconst dX6_doGuard_41 (by decide) ?_
  refine s_putZ (Tb := TX5) rfl inX5 (by decide) w_204 tyX5 tyX5_ok nmX5 rfl rfl dX6_doGuard_42 ?_
  refine s_aload_n dX6_doGuard_45 rfl ?_
  refine s_dup dX6_doGuard_46 ?_
  refine s_getI (Tb := TX5) rfl inX5 (by decide) w_199 dX6_doGuard_47 ?_
  refine s_iconst dX6_doGuard_50 (by decide) ?_
  refine s_iadd dX6_doGuard_51 ?_
  refine s_putI (Tb := TX5) rfl inX5 (by decide) w_199 tyX5 tyX5_ok nmX5 rfl rfl dX6_doGuard_52 ?_
  refine s_iconst dX6_doGuard_55 (by decide) ?_
  refine s_istore_n dX6_doGuard_56 rfl (by decide) ?_
  refine s_iconst dX6_doGuard_57 (by decide) ?_
  refine s_istore dX6_doGuard_58 (by decide) ?_
  exact hk0
set_option maxRecDepth 20000 in
theorem t_X6_doGuard_83 (k : Nat → xK) (hk0 : xS p l e R s m args below meth c cX6_doGuard 5 (some .int) yX6_doGuard.cls yX6_doGuard.name 3 71 D cA b0 hs res (xMQ D cA b0 below args s hs res) (k 0) 60) : xS p l e R s m args below meth c cX6_doGuard 5 (some .int) yX6_doGuard.cls yX6_doGuard.name 3 71 D cA b0 hs res (xMQ D cA b0 below args s hs res) (k_X6_doGuard_83 b0 k) 83 := by
  unfold k_X6_doGuard_83
  refine s_aload_n dX6_doGuard_83 rfl ?_
  refine s_dup dX6_doGuard_84 ?_
  refine s_getI (Tb := TX6) rfl inX6 (by decide) w_55 dX6_doGuard_85 ?_
  refine s_iconst dX6_doGuard_88 (by decide) ?_
  refine s_iadd dX6_doGuard_89 ?_
  refine s_putI (Tb := TX6) rfl inX6 (by decide) w_55 tyX6 tyX6_ok nmX6 rfl rfl dX6_doGuard_90 ?_
  refine s_iload_n dX6_doGuard_93 rfl ?_
  exact s_retI rfl dX6_doGuard_94
set_option maxRecDepth 20000 in
theorem t_X6_doGuard_60 (k : Nat → xK) (hk0 : xS p l e R s m args below meth c cX6_doGuard 5 (some .int) yX6_doGuard.cls yX6_doGuard.name 3 71 D cA b0 hs res (xMQ D cA b0 below args s hs res) (k 0) 60) : xS p l e R s m args below meth c cX6_doGuard 5 (some .int) yX6_doGuard.cls yX6_doGuard.name 3 71 D cA b0 hs res (xMQ D cA b0 below args s hs res) (k_X6_doGuard_60 b0 k) 60 := by
  unfold k_X6_doGuard_60
  refine s_iload dX6_doGuard_60 ?_
  refine s_iload_n dX6_doGuard_62 rfl ?_
  refine s_c2ge (tgt := 83) dX6_doGuard_63 (by decide) ?_ ?_
  · exact t_X6_doGuard_83 k hk0
  · refine s_iload_n dX6_doGuard_66 rfl ?_
    refine s_c1ne (tgt := 83) dX6_doGuard_67 (by decide) ?_ ?_
    · exact t_X6_doGuard_83 k hk0
    · refine s_aload_n dX6_doGuard_70 rfl ?_
      refine s_aload_n dX6_doGuard_71 rfl ?_
      refine s_iconst dX6_doGuard_72 (by decide) ?_
      refine s_callV (Tb := TX6) (m_X6_doAct l D cA b0) rfl w_299 w_301 w_6 w_28 w_302 ⟨rfl, by decide, by decide, by decide +kernel⟩ (by decide) dX6_doGuard_73 ?_
      refine s_istore_n dX6_doGuard_76 rfl (by decide) ?_
      refine s_iinc dX6_doGuard_77 (by decide) (by decide) ?_
      refine s_goto (tgt := 60) dX6_doGuard_80 (by decide) ?_
      exact hk0
theorem t_X6_doGuard_r (n : Nat) : xS p l e R s m args below meth c cX6_doGuard 5 (some .int) yX6_doGuard.cls yX6_doGuard.name 3 71 D cA b0 hs res (xMQ D cA b0 below args s hs res) (r_X6_doGuard b0 n 0) 60 := by
  induction n with
  | zero => exact fun ls st h hT => by cases hT
  | succ n ih => exact t_X6_doGuard_60 (r_X6_doGuard b0 n) ih
theorem m_X6_doGuard (l : Launch) (D : va_G) (cA : Nat → ClassId) (b0 : Nat) : xMet l D cA b0 yX6_doGuard (.code yX6_doGuard cX6_doGuard 5 (some .int) :: xTB) 3 71 (f_X6_doGuard b0) :=
  xMet_of (n := 2) (by decide +kernel) (by decide) (fun p e R s m args below meth c hs res => t_X6_doGuard_0 (r_X6_doGuard b0 64) (t_X6_doGuard_r 64))
end M_X6_doGuard
section M_X6_becomeDone
variable {p : Program} {l : Launch} {e : Env} {R : Room} {s : State} {m : MethodId} {args : Array Value} {below : List Frame} {meth : Method} {c : Code} {D : va_G} {cA : Nat → ClassId} {b0 : Nat} {hs : xH} {res : Option xV × xH}
set_option maxRecDepth 20000 in
theorem t_X6_becomeDone_0  : xS p l e R s m args below meth c cX6_becomeDone 2 none yX6_becomeDone.cls yX6_becomeDone.name 0 0 D cA b0 hs res (xMQ D cA b0 below args s hs res) (k_X6_becomeDone_0 b0) 0 := by
  unfold k_X6_becomeDone_0
  refine s_aload_n dX6_becomeDone_0 rfl ?_
  refine s_iconst dX6_becomeDone_1 (by decide) ?_
  refine s_putI (Tb := TX5) rfl inX5 (by decide) w_193 tyX5 tyX5_ok nmX5 rfl rfl dX6_becomeDone_2 ?_
  refine s_aload_n dX6_becomeDone_5 rfl ?_
  refine s_getI (Tb := TX6) rfl inX6 (by decide) w_50 dX6_becomeDone_6 ?_
  refine s_aload_n dX6_becomeDone_9 rfl ?_
  refine s_getR (Tb := TX6) rfl inX6 (by decide) w_48 dX6_becomeDone_10 ?_
  refine s_len dX6_becomeDone_13 ?_
  refine s_c2ge (tgt := 40) dX6_becomeDone_14 (by decide) ?_ ?_
  · exact s_retV rfl dX6_becomeDone_40
  · refine s_aload_n dX6_becomeDone_17 rfl ?_
    refine s_getR (Tb := TX6) rfl inX6 (by decide) w_48 dX6_becomeDone_18 ?_
    refine s_aload_n dX6_becomeDone_21 rfl ?_
    refine s_getI (Tb := TX6) rfl inX6 (by decide) w_50 dX6_becomeDone_22 ?_
    refine s_aload_n dX6_becomeDone_25 rfl ?_
    refine s_getI (Tb := TX5) rfl inX5 (by decide) w_179 dX6_becomeDone_26 ?_
    refine s_ias dX6_becomeDone_29 ?_
    refine s_aload_n dX6_becomeDone_30 rfl ?_
    refine s_dup dX6_becomeDone_31 ?_
    refine s_getI (Tb := TX6) rfl inX6 (by decide) w_50 dX6_becomeDone_32 ?_
    refine s_iconst dX6_becomeDone_35 (by decide) ?_
    refine s_iadd dX6_becomeDone_36 ?_
    refine s_putI (Tb := TX6) rfl inX6 (by decide) w_50 tyX6 tyX6_ok nmX6 rfl rfl dX6_becomeDone_37 ?_
    exact s_retV rfl dX6_becomeDone_40
theorem m_X6_becomeDone (l : Launch) (D : va_G) (cA : Nat → ClassId) (b0 : Nat) : xMet l D cA b0 yX6_becomeDone (.code yX6_becomeDone cX6_becomeDone 2 none :: xTB) 0 0 (f_X6_becomeDone b0) :=
  xMet_of (n := 2) (by decide +kernel) (by decide) (fun p e R s m args below meth c hs res => t_X6_becomeDone_0)
end M_X6_becomeDone
section M_X6_giveTurn
variable {p : Program} {l : Launch} {e : Env} {R : Room} {s : State} {m : MethodId} {args : Array Value} {below : List Frame} {meth : Method} {c : Code} {D : va_G} {cA : Nat → ClassId} {b0 : Nat} {hs : xH} {res : Option xV × xH}
set_option maxRecDepth 20000 in
theorem t_X6_giveTurn_98  : xS p l e R s m args below meth c cX6_giveTurn 3 none yX6_giveTurn.cls yX6_giveTurn.name 4 95 D cA b0 hs res (xMQ D cA b0 below args s hs res) (k_X6_giveTurn_98 b0) 98 := by
  unfold k_X6_giveTurn_98
  refine s_aload_n dX6_giveTurn_98 rfl ?_
  refine s_getI (Tb := TX5) rfl inX5 (by decide) w_199 dX6_giveTurn_99 ?_
  refine s_aload_n dX6_giveTurn_102 rfl ?_
  refine s_getR (Tb := TX5) rfl inX5 (by decide) w_184 dX6_giveTurn_103 ?_
  refine s_getI (Tb := TX0) rfl inX0 (by decide) w_101 dX6_giveTurn_106 ?_
  refine s_c2lt (tgt := 117) dX6_giveTurn_109 (by decide) ?_ ?_
  · exact s_retV rfl dX6_giveTurn_117
  · refine s_aload_n dX6_giveTurn_112 rfl ?_
    refine s_aload_n dX6_giveTurn_113 rfl ?_
    refine s_callV (Tb := TX6) (m_X6_becomeDone l D cA b0) rfl w_412 w_414 w_9 w_28 w_415 ⟨rfl, by decide, by decide, by decide +kernel⟩ (by decide) dX6_giveTurn_114 ?_
    exact s_retV rfl dX6_giveTurn_117
set_option maxRecDepth 20000 in
theorem t_X6_giveTurn_63  : xS p l e R s m args below meth c cX6_giveTurn 3 none yX6_giveTurn.cls yX6_giveTurn.name 4 95 D cA b0 hs res (xMQ D cA b0 below args s hs res) (k_X6_giveTurn_63 b0) 63 := by
  unfold k_X6_giveTurn_63
  refine s_istore_n dX6_giveTurn_63 rfl (by decide) ?_
  refine s_iload_n dX6_giveTurn_64 rfl ?_
  refine s_c1eq (tgt := 86) dX6_giveTurn_65 (by decide) ?_ ?_
  · refine s_aload_n dX6_giveTurn_86 rfl ?_
    refine s_getI (Tb := TX5) rfl inX5 (by decide) w_201 dX6_giveTurn_87 ?_
    refine s_c1le (tgt := 98) dX6_giveTurn_90 (by decide) ?_ ?_
    · exact t_X6_giveTurn_98
    · refine s_aload_n dX6_giveTurn_93 rfl ?_
      refine s_iconst dX6_giveTurn_94 (by decide) ?_
      refine s_putI (Tb := TX5) rfl inX5 (by decide) w_193 tyX5 tyX5_ok nmX5 rfl rfl dX6_giveTurn_95 ?_
      exact t_X6_giveTurn_98
  · refine s_aload_n dX6_giveTurn_68 rfl ?_
    refine s_dup dX6_giveTurn_69 ?_
    refine s_getI (Tb := TX6) rfl inX6 (by decide) w_56 dX6_giveTurn_70 ?_
    refine s_iconst dX6_giveTurn_73 (by decide) ?_
    refine s_iadd dX6_giveTurn_74 ?_
    refine s_putI (Tb := TX6) rfl inX6 (by decide) w_56 tyX6 tyX6_ok nmX6 rfl rfl dX6_giveTurn_75 ?_
    refine s_aload_n dX6_giveTurn_78 rfl ?_
    refine s_iload_n dX6_giveTurn_79 rfl ?_
    refine s_callV (Tb := TX5) (m_X5_fail l D cA b0) rfl w_400 w_401 w_402 w_30 w_403 ⟨rfl, by decide, by decide, by decide +kernel⟩ (by decide) dX6_giveTurn_80 ?_
    refine s_goto (tgt := 98) dX6_giveTurn_83 (by decide) ?_
    exact t_X6_giveTurn_98
set_option maxRecDepth 20000 in
theorem t_X6_giveTurn_0  : xS p l e R s m args below meth c cX6_giveTurn 3 none yX6_giveTurn.cls yX6_giveTurn.name 4 95 D cA b0 hs res (xMQ D cA b0 below args s hs res) (k_X6_giveTurn_0 b0) 0 := by
  unfold k_X6_giveTurn_0
  refine s_aload_n dX6_giveTurn_0 rfl ?_
  refine s_aload_n dX6_giveTurn_1 rfl ?_
  refine s_getI (Tb := TX6) rfl inX6 (by decide) w_52 dX6_giveTurn_2 ?_
  refine s_putI (Tb := TX5) rfl inX5 (by decide) w_203 tyX5 tyX5_ok nmX5 rfl rfl dX6_giveTurn_5 ?_
  refine s_aload_n dX6_giveTurn_8 rfl ?_
  refine s_iconst dX6_giveTurn_9 (by decide) ?_
  refine s_putI (Tb := TX5) rfl inX5 (by decide) w_195 tyX5 tyX5_ok nmX5 rfl rfl dX6_giveTurn_10 ?_
  refine s_aload_n dX6_giveTurn_13 rfl ?_
  refine s_iconst dX6_giveTurn_14 (by decide) ?_
  refine s_putI (Tb := TX5) rfl inX5 (by decide) w_201 tyX5 tyX5_ok nmX5 rfl rfl dX6_giveTurn_15 ?_
  refine s_aload_n dX6_giveTurn_18 rfl ?_
  refine s_getI (Tb := TX5) rfl inX5 (by decide) w_199 dX6_giveTurn_19 ?_
  refine s_aload_n dX6_giveTurn_22 rfl ?_
  refine s_getR (Tb := TX5) rfl inX5 (by decide) w_184 dX6_giveTurn_23 ?_
  refine s_getI (Tb := TX0) rfl inX0 (by decide) w_101 dX6_giveTurn_26 ?_
  refine s_c2ge (tgt := 98) dX6_giveTurn_29 (by decide) ?_ ?_
  · exact t_X6_giveTurn_98
  · refine s_aload_n dX6_giveTurn_32 rfl ?_
    refine s_getR (Tb := TX5) rfl inX5 (by decide) w_184 dX6_giveTurn_33 ?_
    refine s_getR (Tb := TX0) rfl inX0 (by decide) w_95 dX6_giveTurn_36 ?_
    refine s_aload_n dX6_giveTurn_39 rfl ?_
    refine s_getI (Tb := TX5) rfl inX5 (by decide) w_199 dX6_giveTurn_40 ?_
    refine s_ial dX6_giveTurn_43 ?_
    refine s_bipush dX6_giveTurn_44 (by decide) ?_
    refine s_c2ne (tgt := 57) dX6_giveTurn_46 (by decide) ?_ ?_
    · refine s_aload_n dX6_giveTurn_57 rfl ?_
      refine s_aload_n dX6_giveTurn_58 rfl ?_
      refine s_iconst dX6_giveTurn_59 (by decide) ?_
      refine s_callV (Tb := TX6) (m_X6_doAct l D cA b0) rfl w_299 w_301 w_6 w_28 w_302 ⟨rfl, by decide, by decide, by decide +kernel⟩ (by decide) dX6_giveTurn_60 ?_
      exact t_X6_giveTurn_63
    · refine s_aload_n dX6_giveTurn_49 rfl ?_
      refine s_aload_n dX6_giveTurn_50 rfl ?_
      refine s_callV (Tb := TX6) (m_X6_doGuard l D cA b0) rfl w_292 w_294 w_5 w_28 w_295 ⟨rfl, by decide, by decide, by decide +kernel⟩ (by decide) dX6_giveTurn_51 ?_
      refine s_goto (tgt := 63) dX6_giveTurn_54 (by decide) ?_
      exact t_X6_giveTurn_63
theorem m_X6_giveTurn (l : Launch) (D : va_G) (cA : Nat → ClassId) (b0 : Nat) : xMet l D cA b0 yX6_giveTurn (.code yX6_giveTurn cX6_giveTurn 3 none :: xTB) 4 95 (f_X6_giveTurn b0) :=
  xMet_of (n := 2) (by decide +kernel) (by decide) (fun p e R s m args below meth c hs res => t_X6_giveTurn_0)
end M_X6_giveTurn
section M_X6_ageTasks
variable {p : Program} {l : Launch} {e : Env} {R : Room} {s : State} {m : MethodId} {args : Array Value} {below : List Frame} {meth : Method} {c : Code} {D : va_G} {cA : Nat → ClassId} {b0 : Nat} {hs : xH} {res : Option xV × xH}
set_option maxRecDepth 20000 in
theorem t_X6_ageTasks_0 (k : Nat → xK) (hk0 : xS p l e R s m args below meth c cX6_ageTasks 3 none yX6_ageTasks.cls yX6_ageTasks.name 1 21 D cA b0 hs res (xMQ D cA b0 below args s hs res) (k 0) 2) : xS p l e R s m args below meth c cX6_ageTasks 3 none yX6_ageTasks.cls yX6_ageTasks.name 1 21 D cA b0 hs res (xMQ D cA b0 below args s hs res) (k_X6_ageTasks_0 b0 k) 0 := by
  unfold k_X6_ageTasks_0
  refine s_iconst dX6_ageTasks_0 (by decide) ?_
  refine s_istore_n dX6_ageTasks_1 rfl (by decide) ?_
  exact hk0
set_option maxRecDepth 20000 in
theorem t_X6_ageTasks_2 (k : Nat → xK) (hk0 : xS p l e R s m args below meth c cX6_ageTasks 3 none yX6_ageTasks.cls yX6_ageTasks.name 1 21 D cA b0 hs res (xMQ D cA b0 below args s hs res) (k 0) 2) : xS p l e R s m args below meth c cX6_ageTasks 3 none yX6_ageTasks.cls yX6_ageTasks.name 1 21 D cA b0 hs res (xMQ D cA b0 below args s hs res) (k_X6_ageTasks_2 b0 k) 2 := by
  unfold k_X6_ageTasks_2
  refine s_iload_n dX6_ageTasks_2 rfl ?_
  refine s_aload_n dX6_ageTasks_3 rfl ?_
  refine s_getR (Tb := TX6) rfl inX6 (by decide) w_47 dX6_ageTasks_4 ?_
  refine s_len dX6_ageTasks_7 ?_
  refine s_c2ge (tgt := 49) dX6_ageTasks_8 (by decide) ?_ ?_
  · exact s_retV rfl dX6_ageTasks_49
  · refine s_aload_n dX6_ageTasks_11 rfl ?_
    refine s_getR (Tb := TX6) rfl inX6 (by decide) w_47 dX6_ageTasks_12 ?_
    refine s_iload_n dX6_ageTasks_15 rfl ?_
    refine s_qal dX6_ageTasks_16 ?_
    refine s_astore_n dX6_ageTasks_17 rfl (by decide) ?_
    refine s_aload_n dX6_ageTasks_18 rfl ?_
    refine s_cnull (tgt := 43) dX6_ageTasks_19 (by decide) ?_ ?_
    · refine s_iinc dX6_ageTasks_43 (by decide) (by decide) ?_
      refine s_goto (tgt := 2) dX6_ageTasks_46 (by decide) ?_
      exact hk0
    · refine s_aload_n dX6_ageTasks_22 rfl ?_
      refine s_aload_n dX6_ageTasks_23 rfl ?_
      refine s_getI (Tb := TX6) rfl inX6 (by decide) w_52 dX6_ageTasks_24 ?_
      refine s_callV (Tb := TX5) (m_X5_isReadyIn l D cA b0) rfl w_284 w_285 w_286 w_30 w_287 ⟨rfl, by decide, by decide, by decide +kernel⟩ (by decide) dX6_ageTasks_27 ?_
      refine s_c1eq (tgt := 43) dX6_ageTasks_30 (by decide) ?_ ?_
      · refine s_iinc dX6_ageTasks_43 (by decide) (by decide) ?_
        refine s_goto (tgt := 2) dX6_ageTasks_46 (by decide) ?_
        exact hk0
      · refine s_aload_n dX6_ageTasks_33 rfl ?_
        refine s_dup dX6_ageTasks_34 ?_
        refine s_getI (Tb := TX5) rfl inX5 (by decide) w_195 dX6_ageTasks_35 ?_
        refine s_iconst dX6_ageTasks_38 (by decide) ?_
        refine s_iadd dX6_ageTasks_39 ?_
        refine s_putI (Tb := TX5) rfl inX5 (by decide) w_195 tyX5 tyX5_ok nmX5 rfl rfl dX6_ageTasks_40 ?_
        refine s_iinc dX6_ageTasks_43 (by decide) (by decide) ?_
        refine s_goto (tgt := 2) dX6_ageTasks_46 (by decide) ?_
        exact hk0
theorem t_X6_ageTasks_r (n : Nat) : xS p l e R s m args below meth c cX6_ageTasks 3 none yX6_ageTasks.cls yX6_ageTasks.name 1 21 D cA b0 hs res (xMQ D cA b0 below args s hs res) (r_X6_ageTasks b0 n 0) 2 := by
  induction n with
  | zero => exact fun ls st h hT => by cases hT
  | succ n ih => exact t_X6_ageTasks_2 (r_X6_ageTasks b0 n) ih
theorem m_X6_ageTasks (l : Launch) (D : va_G) (cA : Nat → ClassId) (b0 : Nat) : xMet l D cA b0 yX6_ageTasks (.code yX6_ageTasks cX6_ageTasks 3 none :: xTB) 1 21 (f_X6_ageTasks b0) :=
  xMet_of (n := 1) (by decide +kernel) (by decide) (fun p e R s m args below meth c hs res => t_X6_ageTasks_0 (r_X6_ageTasks b0 64) (t_X6_ageTasks_r 64))
end M_X6_ageTasks
section M_X6_doTurn
variable {p : Program} {l : Launch} {e : Env} {R : Room} {s : State} {m : MethodId} {args : Array Value} {below : List Frame} {meth : Method} {c : Code} {D : va_G} {cA : Nat → ClassId} {b0 : Nat} {hs : xH} {res : Option xV × xH}
set_option maxRecDepth 20000 in
theorem t_X6_doTurn_0 (k : Nat → xK) (hk0 : xS p l e R s m args below meth c cX6_doTurn 3 none yX6_doTurn.cls yX6_doTurn.name 5 117 D cA b0 hs res (xMQ D cA b0 below args s hs res) (k 0) 16) : xS p l e R s m args below meth c cX6_doTurn 3 none yX6_doTurn.cls yX6_doTurn.name 5 117 D cA b0 hs res (xMQ D cA b0 below args s hs res) (k_X6_doTurn_0 b0 k) 0 := by
  unfold k_X6_doTurn_0
  refine s_aload_n dX6_doTurn_0 rfl ?_
  refine s_dup dX6_doTurn_1 ?_
  refine s_getI (Tb := TX6) rfl inX6 (by decide) w_52 dX6_doTurn_2 ?_
  refine s_iconst dX6_doTurn_5 (by decide) ?_
  refine s_iadd dX6_doTurn_6 ?_
  refine s_putI (Tb := TX6) rfl inX6 (by decide) w_52 tyX6 tyX6_ok nmX6 rfl rfl dX6_doTurn_7 ?_
  refine s_aload_n dX6_doTurn_10 rfl ?_
  refine s_callV (Tb := TX6) (m_X6_wakeTasks l D cA b0) rfl w_272 w_274 w_2 w_28 w_275 ⟨rfl, by decide, by decide, by decide +kernel⟩ (by decide) dX6_doTurn_11 ?_
  refine s_iconst dX6_doTurn_14 (by decide) ?_
  refine s_istore_n dX6_doTurn_15 rfl (by decide) ?_
  exact hk0
set_option maxRecDepth 20000 in
theorem t_X6_doTurn_16 (k : Nat → xK) (hk0 : xS p l e R s m args below meth c cX6_doTurn 3 none yX6_doTurn.cls yX6_doTurn.name 5 117 D cA b0 hs res (xMQ D cA b0 below args s hs res) (k 0) 16) : xS p l e R s m args below meth c cX6_doTurn 3 none yX6_doTurn.cls yX6_doTurn.name 5 117 D cA b0 hs res (xMQ D cA b0 below args s hs res) (k_X6_doTurn_16 b0 k) 16 := by
  unfold k_X6_doTurn_16
  refine s_iload_n dX6_doTurn_16 rfl ?_
  refine s_aload_n dX6_doTurn_17 rfl ?_
  refine s_getI (Tb := TX6) rfl inX6 (by decide) w_51 dX6_doTurn_18 ?_
  refine s_c2ge (tgt := 44) dX6_doTurn_21 (by decide) ?_ ?_
  · refine s_aload_n dX6_doTurn_44 rfl ?_
    refine s_callV (Tb := TX6) (m_X6_ageTasks l D cA b0) rfl w_416 w_418 w_10 w_28 w_419 ⟨rfl, by decide, by decide, by decide +kernel⟩ (by decide) dX6_doTurn_45 ?_
    exact s_retV rfl dX6_doTurn_48
  · refine s_aload_n dX6_doTurn_24 rfl ?_
    refine s_callV (Tb := TX6) (m_X6_findNextToWork l D cA b0) rfl w_280 w_282 w_3 w_28 w_283 ⟨rfl, by decide, by decide, by decide +kernel⟩ (by decide) dX6_doTurn_25 ?_
    refine s_astore_n dX6_doTurn_28 rfl (by decide) ?_
    refine s_aload_n dX6_doTurn_29 rfl ?_
    refine s_cnull (tgt := 38) dX6_doTurn_30 (by decide) ?_ ?_
    · refine s_iinc dX6_doTurn_38 (by decide) (by decide) ?_
      refine s_goto (tgt := 16) dX6_doTurn_41 (by decide) ?_
      exact hk0
    · refine s_aload_n dX6_doTurn_33 rfl ?_
      refine s_aload_n dX6_doTurn_34 rfl ?_
      refine s_callV (Tb := TX6) (m_X6_giveTurn l D cA b0) rfl w_288 w_290 w_4 w_28 w_291 ⟨rfl, by decide, by decide, by decide +kernel⟩ (by decide) dX6_doTurn_35 ?_
      refine s_iinc dX6_doTurn_38 (by decide) (by decide) ?_
      refine s_goto (tgt := 16) dX6_doTurn_41 (by decide) ?_
      exact hk0
theorem t_X6_doTurn_r (n : Nat) : xS p l e R s m args below meth c cX6_doTurn 3 none yX6_doTurn.cls yX6_doTurn.name 5 117 D cA b0 hs res (xMQ D cA b0 below args s hs res) (r_X6_doTurn b0 n 0) 16 := by
  induction n with
  | zero => exact fun ls st h hT => by cases hT
  | succ n ih => exact t_X6_doTurn_16 (r_X6_doTurn b0 n) ih
theorem m_X6_doTurn (l : Launch) (D : va_G) (cA : Nat → ClassId) (b0 : Nat) : xMet l D cA b0 yX6_doTurn (.code yX6_doTurn cX6_doTurn 3 none :: xTB) 5 117 (f_X6_doTurn b0) :=
  xMet_of (n := 1) (by decide +kernel) (by decide) (fun p e R s m args below meth c hs res => t_X6_doTurn_0 (r_X6_doTurn b0 64) (t_X6_doTurn_r 64))
end M_X6_doTurn
section M_X6_turn
variable {p : Program} {l : Launch} {e : Env} {R : Room} {s : State} {m : MethodId} {args : Array Value} {below : List Frame} {meth : Method} {c : Code} {D : va_G} {cA : Nat → ClassId} {b0 : Nat} {hs : xH} {res : Option xV × xH}
set_option maxRecDepth 20000 in
theorem t_X6_turn_0 (k : Nat → xK) (hk0 : xS p l e R s m args below meth c cX6_turn 6 (some .int) yX6_turn.cls yX6_turn.name 6 139 D cA b0 hs res (xMQ D cA b0 below args s hs res) (k 0) 23) : xS p l e R s m args below meth c cX6_turn 6 (some .int) yX6_turn.cls yX6_turn.name 6 139 D cA b0 hs res (xMQ D cA b0 below args s hs res) (k_X6_turn_0 b0 k) 0 := by
  unfold k_X6_turn_0
  refine s_iload_n dX6_turn_0 rfl ?_
  refine s_iconst dX6_turn_1 (by decide) ?_
  refine s_c2lt (tgt := 11) dX6_turn_2 (by decide) ?_ ?_
  · refine s_iconst dX6_turn_11 (by decide) ?_
    exact s_retI rfl dX6_turn_12
  · refine s_iload_n dX6_turn_5 rfl ?_
    refine s_bipush dX6_turn_6 (by decide) ?_
    refine s_c2le (tgt := 13) dX6_turn_8 (by decide) ?_ ?_
    · refine s_aload_n dX6_turn_13 rfl ?_
      refine s_getI (Tb := TX6) rfl inX6 (by decide) w_53 dX6_turn_14 ?_
      refine s_istore_n dX6_turn_17 rfl (by decide) ?_
      refine s_iconst dX6_turn_18 (by decide) ?_
      refine s_istore_n dX6_turn_19 rfl (by decide) ?_
      refine s_iconst dX6_turn_20 (by decide) ?_
      refine s_istore dX6_turn_21 (by decide) ?_
      exact hk0
    · refine s_iconst dX6_turn_11 (by decide) ?_
      exact s_retI rfl dX6_turn_12
set_option maxRecDepth 20000 in
theorem t_X6_turn_64 (k : Nat → xK) (hk0 : xS p l e R s m args below meth c cX6_turn 6 (some .int) yX6_turn.cls yX6_turn.name 6 139 D cA b0 hs res (xMQ D cA b0 below args s hs res) (k 0) 23) : xS p l e R s m args below meth c cX6_turn 6 (some .int) yX6_turn.cls yX6_turn.name 6 139 D cA b0 hs res (xMQ D cA b0 below args s hs res) (k_X6_turn_64 b0 k) 64 := by
  unfold k_X6_turn_64
  refine s_aload_n dX6_turn_64 rfl ?_
  refine s_getI (Tb := TX6) rfl inX6 (by decide) w_53 dX6_turn_65 ?_
  refine s_iload_n dX6_turn_68 rfl ?_
  refine s_isub dX6_turn_69 ?_
  exact s_retI rfl dX6_turn_70
set_option maxRecDepth 20000 in
theorem t_X6_turn_23 (k : Nat → xK) (hk0 : xS p l e R s m args below meth c cX6_turn 6 (some .int) yX6_turn.cls yX6_turn.name 6 139 D cA b0 hs res (xMQ D cA b0 below args s hs res) (k 0) 23) : xS p l e R s m args below meth c cX6_turn 6 (some .int) yX6_turn.cls yX6_turn.name 6 139 D cA b0 hs res (xMQ D cA b0 below args s hs res) (k_X6_turn_23 b0 k) 23 := by
  unfold k_X6_turn_23
  refine s_iload dX6_turn_23 ?_
  refine s_iload_n dX6_turn_25 rfl ?_
  refine s_c2ge (tgt := 64) dX6_turn_26 (by decide) ?_ ?_
  · exact t_X6_turn_64 k hk0
  · refine s_iload_n dX6_turn_29 rfl ?_
    refine s_c1ne (tgt := 64) dX6_turn_30 (by decide) ?_ ?_
    · exact t_X6_turn_64 k hk0
    · refine s_aload_n dX6_turn_33 rfl ?_
      refine s_getI (Tb := TX6) rfl inX6 (by decide) w_53 dX6_turn_34 ?_
      refine s_istore dX6_turn_37 (by decide) ?_
      refine s_aload_n dX6_turn_39 rfl ?_
      refine s_callV (Tb := TX6) (m_X6_doTurn l D cA b0) rfl w_268 w_270 w_1 w_28 w_271 ⟨rfl, by decide, by decide, by decide +kernel⟩ (by decide) dX6_turn_40 ?_
      refine s_aload_n dX6_turn_43 rfl ?_
      refine s_getI (Tb := TX6) rfl inX6 (by decide) w_53 dX6_turn_44 ?_
      refine s_iload dX6_turn_47 ?_
      refine s_c2ne (tgt := 56) dX6_turn_49 (by decide) ?_ ?_
      · refine s_iconst dX6_turn_56 (by decide) ?_
        refine s_istore_n dX6_turn_57 rfl (by decide) ?_
        refine s_iinc dX6_turn_58 (by decide) (by decide) ?_
        refine s_goto (tgt := 23) dX6_turn_61 (by decide) ?_
        exact hk0
      · refine s_iconst dX6_turn_52 (by decide) ?_
        refine s_goto (tgt := 57) dX6_turn_53 (by decide) ?_
        refine s_istore_n dX6_turn_57 rfl (by decide) ?_
        refine s_iinc dX6_turn_58 (by decide) (by decide) ?_
        refine s_goto (tgt := 23) dX6_turn_61 (by decide) ?_
        exact hk0
theorem t_X6_turn_r (n : Nat) : xS p l e R s m args below meth c cX6_turn 6 (some .int) yX6_turn.cls yX6_turn.name 6 139 D cA b0 hs res (xMQ D cA b0 below args s hs res) (r_X6_turn b0 n 0) 23 := by
  induction n with
  | zero => exact fun ls st h hT => by cases hT
  | succ n ih => exact t_X6_turn_23 (r_X6_turn b0 n) ih
theorem m_X6_turn (l : Launch) (D : va_G) (cA : Nat → ClassId) (b0 : Nat) : xMet l D cA b0 yX6_turn (.code yX6_turn cX6_turn 6 (some .int) :: xTB) 6 139 (f_X6_turn b0) :=
  xMet_of (n := 2) (by decide +kernel) (by decide) (fun p e R s m args below meth c hs res => t_X6_turn_0 (r_X6_turn b0 64) (t_X6_turn_r 64))
end M_X6_turn
section M_X6_letter
variable {p : Program} {l : Launch} {e : Env} {R : Room} {s : State} {m : MethodId} {args : Array Value} {below : List Frame} {meth : Method} {c : Code} {D : va_G} {cA : Nat → ClassId} {b0 : Nat} {hs : xH} {res : Option xV × xH}
set_option maxRecDepth 20000 in
theorem t_X6_letter_0  : xS p l e R s m args below meth c cX6_letter 4 (some .int) yX6_letter.cls yX6_letter.name 1 21 D cA b0 hs res (xMQ D cA b0 below args s hs res) (k_X6_letter_0 b0) 0 := by
  unfold k_X6_letter_0
  refine s_aload_n dX6_letter_0 rfl ?_
  refine s_iload_n dX6_letter_1 rfl ?_
  refine s_callV (Tb := TX6) (m_X6_find l D cA b0) rfl w_252 w_254 w_0 w_28 w_255 ⟨rfl, by decide, by decide, by decide +kernel⟩ (by decide) dX6_letter_2 ?_
  refine s_astore_n dX6_letter_5 rfl (by decide) ?_
  refine s_aload_n dX6_letter_6 rfl ?_
  refine s_cnonnull (tgt := 12) dX6_letter_7 (by decide) ?_ ?_
  · refine s_aload_n dX6_letter_12 rfl ?_
    refine s_callV (Tb := TX5) (m_X5_isOver l D cA b0) rfl w_347 w_348 w_349 w_30 w_350 ⟨rfl, by decide, by decide, by decide +kernel⟩ (by decide) dX6_letter_13 ?_
    refine s_c1eq (tgt := 22) dX6_letter_16 (by decide) ?_ ?_
    · refine s_aload_n dX6_letter_22 rfl ?_
      refine s_getR (Tb := TX5) rfl inX5 (by decide) w_186 dX6_letter_23 ?_
      refine s_callV (Tb := TX2) (m_X2_isFull l D cA b0) rfl w_351 w_352 w_353 w_32 w_354 ⟨rfl, by decide, by decide, by decide +kernel⟩ (by decide) dX6_letter_26 ?_
      refine s_c1eq (tgt := 35) dX6_letter_29 (by decide) ?_ ?_
      · refine s_aload_n dX6_letter_35 rfl ?_
        refine s_getR (Tb := TX5) rfl inX5 (by decide) w_186 dX6_letter_36 ?_
        refine s_iload_n dX6_letter_39 rfl ?_
        refine s_callV (Tb := TX2) (m_X2_append l D cA b0) rfl w_355 w_356 w_357 w_32 w_358 ⟨rfl, by decide, by decide, by decide +kernel⟩ (by decide) dX6_letter_40 ?_
        refine s_aload_n dX6_letter_43 rfl ?_
        refine s_getR (Tb := TX5) rfl inX5 (by decide) w_186 dX6_letter_44 ?_
        refine s_getI (Tb := TX2) rfl inX2 (by decide) w_121 dX6_letter_47 ?_
        exact s_retI rfl dX6_letter_50
      · refine s_bipush dX6_letter_32 (by decide) ?_
        exact s_retI rfl dX6_letter_34
    · refine s_bipush dX6_letter_19 (by decide) ?_
      exact s_retI rfl dX6_letter_21
  · refine s_iconst dX6_letter_10 (by decide) ?_
    exact s_retI rfl dX6_letter_11
theorem m_X6_letter (l : Launch) (D : va_G) (cA : Nat → ClassId) (b0 : Nat) : xMet l D cA b0 yX6_letter (.code yX6_letter cX6_letter 4 (some .int) :: xTB) 1 21 (f_X6_letter b0) :=
  xMet_of (n := 3) (by decide +kernel) (by decide) (fun p e R s m args below meth c hs res => t_X6_letter_0)
end M_X6_letter
section M_X6_stop
variable {p : Program} {l : Launch} {e : Env} {R : Room} {s : State} {m : MethodId} {args : Array Value} {below : List Frame} {meth : Method} {c : Code} {D : va_G} {cA : Nat → ClassId} {b0 : Nat} {hs : xH} {res : Option xV × xH}
set_option maxRecDepth 20000 in
theorem t_X6_stop_0  : xS p l e R s m args below meth c cX6_stop 3 (some .int) yX6_stop.cls yX6_stop.name 1 21 D cA b0 hs res (xMQ D cA b0 below args s hs res) (k_X6_stop_0 b0) 0 := by
  unfold k_X6_stop_0
  refine s_aload_n dX6_stop_0 rfl ?_
  refine s_iload_n dX6_stop_1 rfl ?_
  refine s_callV (Tb := TX6) (m_X6_find l D cA b0) rfl w_252 w_254 w_0 w_28 w_255 ⟨rfl, by decide, by decide, by decide +kernel⟩ (by decide) dX6_stop_2 ?_
  refine s_astore_n dX6_stop_5 rfl (by decide) ?_
  refine s_aload_n dX6_stop_6 rfl ?_
  refine s_cnonnull (tgt := 12) dX6_stop_7 (by decide) ?_ ?_
  · refine s_aload_n dX6_stop_12 rfl ?_
    refine s_callV (Tb := TX5) (m_X5_isOver l D cA b0) rfl w_347 w_348 w_349 w_30 w_350 ⟨rfl, by decide, by decide, by decide +kernel⟩ (by decide) dX6_stop_13 ?_
    refine s_c1eq (tgt := 22) dX6_stop_16 (by decide) ?_ ?_
    · refine s_aload_n dX6_stop_22 rfl ?_
      refine s_iconst dX6_stop_23 (by decide) ?_
      refine s_putI (Tb := TX5) rfl inX5 (by decide) w_193 tyX5 tyX5_ok nmX5 rfl rfl dX6_stop_24 ?_
      refine s_iconst dX6_stop_27 (by decide) ?_
      exact s_retI rfl dX6_stop_28
    · refine s_bipush dX6_stop_19 (by decide) ?_
      exact s_retI rfl dX6_stop_21
  · refine s_iconst dX6_stop_10 (by decide) ?_
    exact s_retI rfl dX6_stop_11
theorem m_X6_stop (l : Launch) (D : va_G) (cA : Nat → ClassId) (b0 : Nat) : xMet l D cA b0 yX6_stop (.code yX6_stop cX6_stop 3 (some .int) :: xTB) 1 21 (f_X6_stop b0) :=
  xMet_of (n := 2) (by decide +kernel) (by decide) (fun p e R s m args below meth c hs res => t_X6_stop_0)
end M_X6_stop
section M_X6_again
variable {p : Program} {l : Launch} {e : Env} {R : Room} {s : State} {m : MethodId} {args : Array Value} {below : List Frame} {meth : Method} {c : Code} {D : va_G} {cA : Nat → ClassId} {b0 : Nat} {hs : xH} {res : Option xV × xH}
set_option maxRecDepth 20000 in
theorem t_X6_again_31  : xS p l e R s m args below meth c cX6_again 3 (some .int) yX6_again.cls yX6_again.name 2 42 D cA b0 hs res (xMQ D cA b0 below args s hs res) (k_X6_again_31 b0) 31 := by
  unfold k_X6_again_31
  refine s_aload_n dX6_again_31 rfl ?_
  refine s_iconst dX6_again_32 (by decide) ?_
  refine s_putI (Tb := TX5) rfl inX5 (by decide) w_193 tyX5 tyX5_ok nmX5 rfl rfl dX6_again_33 ?_
  refine s_aload_n dX6_again_36 rfl ?_
  refine s_callV (Tb := TX5) (m_X5_goBack l D cA b0) rfl w_432 w_409 w_410 w_30 w_411 ⟨rfl, by decide, by decide, by decide +kernel⟩ (by decide) dX6_again_37 ?_
  refine s_iconst dX6_again_40 (by decide) ?_
  exact s_retI rfl dX6_again_41
set_option maxRecDepth 20000 in
theorem t_X6_again_0  : xS p l e R s m args below meth c cX6_again 3 (some .int) yX6_again.cls yX6_again.name 2 42 D cA b0 hs res (xMQ D cA b0 below args s hs res) (k_X6_again_0 b0) 0 := by
  unfold k_X6_again_0
  refine s_aload_n dX6_again_0 rfl ?_
  refine s_iload_n dX6_again_1 rfl ?_
  refine s_callV (Tb := TX6) (m_X6_find l D cA b0) rfl w_252 w_254 w_0 w_28 w_255 ⟨rfl, by decide, by decide, by decide +kernel⟩ (by decide) dX6_again_2 ?_
  refine s_astore_n dX6_again_5 rfl (by decide) ?_
  refine s_aload_n dX6_again_6 rfl ?_
  refine s_cnonnull (tgt := 12) dX6_again_7 (by decide) ?_ ?_
  · refine s_aload_n dX6_again_12 rfl ?_
    refine s_getI (Tb := TX5) rfl inX5 (by decide) w_193 dX6_again_13 ?_
    refine s_iconst dX6_again_16 (by decide) ?_
    refine s_c2eq (tgt := 31) dX6_again_17 (by decide) ?_ ?_
    · exact t_X6_again_31
    · refine s_aload_n dX6_again_20 rfl ?_
      refine s_getI (Tb := TX5) rfl inX5 (by decide) w_193 dX6_again_21 ?_
      refine s_iconst dX6_again_24 (by decide) ?_
      refine s_c2eq (tgt := 31) dX6_again_25 (by decide) ?_ ?_
      · exact t_X6_again_31
      · refine s_bipush dX6_again_28 (by decide) ?_
        exact s_retI rfl dX6_again_30
  · refine s_iconst dX6_again_10 (by decide) ?_
    exact s_retI rfl dX6_again_11
theorem m_X6_again (l : Launch) (D : va_G) (cA : Nat → ClassId) (b0 : Nat) : xMet l D cA b0 yX6_again (.code yX6_again cX6_again 3 (some .int) :: xTB) 2 42 (f_X6_again b0) :=
  xMet_of (n := 2) (by decide +kernel) (by decide) (fun p e R s m args below meth c hs res => t_X6_again_0)
end M_X6_again
section M_X6_of
variable {p : Program} {l : Launch} {e : Env} {R : Room} {s : State} {m : MethodId} {args : Array Value} {below : List Frame} {meth : Method} {c : Code} {D : va_G} {cA : Nat → ClassId} {b0 : Nat} {hs : xH} {res : Option xV × xH}
set_option maxRecDepth 20000 in
theorem t_X6_of_0  : xS p l e R s m args below meth c cX6_of 4 (some .int) yX6_of.cls yX6_of.name 1 21 D cA b0 hs res (xMQ D cA b0 below args s hs res) (k_X6_of_0 b0) 0 := by
  unfold k_X6_of_0
  refine s_aload_n dX6_of_0 rfl ?_
  refine s_iload_n dX6_of_1 rfl ?_
  refine s_callV (Tb := TX6) (m_X6_find l D cA b0) rfl w_252 w_254 w_0 w_28 w_255 ⟨rfl, by decide, by decide, by decide +kernel⟩ (by decide) dX6_of_2 ?_
  refine s_astore_n dX6_of_5 rfl (by decide) ?_
  refine s_aload_n dX6_of_6 rfl ?_
  refine s_cnonnull (tgt := 14) dX6_of_7 (by decide) ?_ ?_
  · refine s_aload_n dX6_of_14 rfl ?_
    refine s_iload_n dX6_of_15 rfl ?_
    refine s_callV (Tb := TX5) (m_X5_tell l D cA b0) rfl w_437 w_438 w_439 w_30 w_440 ⟨rfl, by decide, by decide, by decide +kernel⟩ (by decide) dX6_of_16 ?_
    exact s_retI rfl dX6_of_19
  · refine s_iconst dX6_of_10 (by decide) ?_
    refine s_goto (tgt := 19) dX6_of_11 (by decide) ?_
    exact s_retI rfl dX6_of_19
theorem m_X6_of (l : Launch) (D : va_G) (cA : Nat → ClassId) (b0 : Nat) : xMet l D cA b0 yX6_of (.code yX6_of cX6_of 4 (some .int) :: xTB) 1 21 (f_X6_of b0) :=
  xMet_of (n := 3) (by decide +kernel) (by decide) (fun p e R s m args below meth c hs res => t_X6_of_0)
end M_X6_of
section M_X6_at
variable {p : Program} {l : Launch} {e : Env} {R : Room} {s : State} {m : MethodId} {args : Array Value} {below : List Frame} {meth : Method} {c : Code} {D : va_G} {cA : Nat → ClassId} {b0 : Nat} {hs : xH} {res : Option xV × xH}
set_option maxRecDepth 20000 in
theorem t_X6_at_0  : xS p l e R s m args below meth c cX6_at 5 (some .int) yX6_at.cls yX6_at.name 1 21 D cA b0 hs res (xMQ D cA b0 below args s hs res) (k_X6_at_0 b0) 0 := by
  unfold k_X6_at_0
  refine s_aload_n dX6_at_0 rfl ?_
  refine s_iload_n dX6_at_1 rfl ?_
  refine s_callV (Tb := TX6) (m_X6_find l D cA b0) rfl w_252 w_254 w_0 w_28 w_255 ⟨rfl, by decide, by decide, by decide +kernel⟩ (by decide) dX6_at_2 ?_
  refine s_astore dX6_at_5 (by decide) ?_
  refine s_aload dX6_at_7 ?_
  refine s_cnonnull (tgt := 14) dX6_at_9 (by decide) ?_ ?_
  · refine s_iload_n dX6_at_14 rfl ?_
    refine s_c1eq (tgt := 45) dX6_at_15 (by decide) ?_ ?_
    · refine s_aload dX6_at_45 ?_
      refine s_getR (Tb := TX5) rfl inX5 (by decide) w_188 dX6_at_47 ?_
      refine s_iload_n dX6_at_50 rfl ?_
      refine s_callV (Tb := TX4) (m_X4_has l D cA b0) rfl w_449 w_324 w_325 w_33 w_326 ⟨rfl, by decide, by decide, by decide +kernel⟩ (by decide) dX6_at_51 ?_
      refine s_c1eq (tgt := 70) dX6_at_54 (by decide) ?_ ?_
      · refine s_iconst dX6_at_70 (by decide) ?_
        exact s_retI rfl dX6_at_71
      · refine s_aload dX6_at_57 ?_
        refine s_getR (Tb := TX5) rfl inX5 (by decide) w_188 dX6_at_59 ?_
        refine s_getR (Tb := TX4) rfl inX4 (by decide) w_134 dX6_at_62 ?_
        refine s_iload_n dX6_at_65 rfl ?_
        refine s_ial dX6_at_66 ?_
        refine s_goto (tgt := 71) dX6_at_67 (by decide) ?_
        exact s_retI rfl dX6_at_71
    · refine s_aload dX6_at_18 ?_
      refine s_getR (Tb := TX5) rfl inX5 (by decide) w_190 dX6_at_20 ?_
      refine s_iload_n dX6_at_23 rfl ?_
      refine s_callV (Tb := TX1) (m_X1_has l D cA b0) rfl w_445 w_446 w_447 w_34 w_448 ⟨rfl, by decide, by decide, by decide +kernel⟩ (by decide) dX6_at_24 ?_
      refine s_c1eq (tgt := 43) dX6_at_27 (by decide) ?_ ?_
      · refine s_iconst dX6_at_43 (by decide) ?_
        exact s_retI rfl dX6_at_44
      · refine s_aload dX6_at_30 ?_
        refine s_getR (Tb := TX5) rfl inX5 (by decide) w_190 dX6_at_32 ?_
        refine s_getR (Tb := TX1) rfl inX1 (by decide) w_150 dX6_at_35 ?_
        refine s_iload_n dX6_at_38 rfl ?_
        refine s_ial dX6_at_39 ?_
        refine s_goto (tgt := 44) dX6_at_40 (by decide) ?_
        exact s_retI rfl dX6_at_44
  · refine s_iconst dX6_at_12 (by decide) ?_
    exact s_retI rfl dX6_at_13
theorem m_X6_at (l : Launch) (D : va_G) (cA : Nat → ClassId) (b0 : Nat) : xMet l D cA b0 yX6_at (.code yX6_at cX6_at 5 (some .int) :: xTB) 1 21 (f_X6_at b0) :=
  xMet_of (n := 4) (by decide +kernel) (by decide) (fun p e R s m args below meth c hs res => t_X6_at_0)
end M_X6_at
section M_X6_letterAt
variable {p : Program} {l : Launch} {e : Env} {R : Room} {s : State} {m : MethodId} {args : Array Value} {below : List Frame} {meth : Method} {c : Code} {D : va_G} {cA : Nat → ClassId} {b0 : Nat} {hs : xH} {res : Option xV × xH}
set_option maxRecDepth 20000 in
theorem t_X6_letterAt_0  : xS p l e R s m args below meth c cX6_letterAt 4 (some .int) yX6_letterAt.cls yX6_letterAt.name 1 21 D cA b0 hs res (xMQ D cA b0 below args s hs res) (k_X6_letterAt_0 b0) 0 := by
  unfold k_X6_letterAt_0
  refine s_aload_n dX6_letterAt_0 rfl ?_
  refine s_iload_n dX6_letterAt_1 rfl ?_
  refine s_callV (Tb := TX6) (m_X6_find l D cA b0) rfl w_252 w_254 w_0 w_28 w_255 ⟨rfl, by decide, by decide, by decide +kernel⟩ (by decide) dX6_letterAt_2 ?_
  refine s_astore_n dX6_letterAt_5 rfl (by decide) ?_
  refine s_aload_n dX6_letterAt_6 rfl ?_
  refine s_cnull (tgt := 33) dX6_letterAt_7 (by decide) ?_ ?_
  · refine s_iconst dX6_letterAt_33 (by decide) ?_
    exact s_retI rfl dX6_letterAt_34
  · refine s_aload_n dX6_letterAt_10 rfl ?_
    refine s_getR (Tb := TX5) rfl inX5 (by decide) w_186 dX6_letterAt_11 ?_
    refine s_iload_n dX6_letterAt_14 rfl ?_
    refine s_callV (Tb := TX2) (m_X2_has l D cA b0) rfl w_454 w_455 w_456 w_32 w_457 ⟨rfl, by decide, by decide, by decide +kernel⟩ (by decide) dX6_letterAt_15 ?_
    refine s_c1eq (tgt := 33) dX6_letterAt_18 (by decide) ?_ ?_
    · refine s_iconst dX6_letterAt_33 (by decide) ?_
      exact s_retI rfl dX6_letterAt_34
    · refine s_aload_n dX6_letterAt_21 rfl ?_
      refine s_getR (Tb := TX5) rfl inX5 (by decide) w_186 dX6_letterAt_22 ?_
      refine s_getR (Tb := TX2) rfl inX2 (by decide) w_118 dX6_letterAt_25 ?_
      refine s_iload_n dX6_letterAt_28 rfl ?_
      refine s_ial dX6_letterAt_29 ?_
      refine s_goto (tgt := 34) dX6_letterAt_30 (by decide) ?_
      exact s_retI rfl dX6_letterAt_34
theorem m_X6_letterAt (l : Launch) (D : va_G) (cA : Nat → ClassId) (b0 : Nat) : xMet l D cA b0 yX6_letterAt (.code yX6_letterAt cX6_letterAt 4 (some .int) :: xTB) 1 21 (f_X6_letterAt b0) :=
  xMet_of (n := 3) (by decide +kernel) (by decide) (fun p e R s m args below meth c hs res => t_X6_letterAt_0)
end M_X6_letterAt
section M_X6_countGoingOn
variable {p : Program} {l : Launch} {e : Env} {R : Room} {s : State} {m : MethodId} {args : Array Value} {below : List Frame} {meth : Method} {c : Code} {D : va_G} {cA : Nat → ClassId} {b0 : Nat} {hs : xH} {res : Option xV × xH}
set_option maxRecDepth 20000 in
theorem t_X6_countGoingOn_0 (k : Nat → xK) (hk0 : xS p l e R s m args below meth c cX6_countGoingOn 4 (some .int) yX6_countGoingOn.cls yX6_countGoingOn.name 1 20 D cA b0 hs res (xMQ D cA b0 below args s hs res) (k 0) 4) : xS p l e R s m args below meth c cX6_countGoingOn 4 (some .int) yX6_countGoingOn.cls yX6_countGoingOn.name 1 20 D cA b0 hs res (xMQ D cA b0 below args s hs res) (k_X6_countGoingOn_0 b0 k) 0 := by
  unfold k_X6_countGoingOn_0
  refine s_iconst dX6_countGoingOn_0 (by decide) ?_
  refine s_istore_n dX6_countGoingOn_1 rfl (by decide) ?_
  refine s_iconst dX6_countGoingOn_2 (by decide) ?_
  refine s_istore_n dX6_countGoingOn_3 rfl (by decide) ?_
  exact hk0
set_option maxRecDepth 20000 in
theorem t_X6_countGoingOn_4 (k : Nat → xK) (hk0 : xS p l e R s m args below meth c cX6_countGoingOn 4 (some .int) yX6_countGoingOn.cls yX6_countGoingOn.name 1 20 D cA b0 hs res (xMQ D cA b0 below args s hs res) (k 0) 4) : xS p l e R s m args below meth c cX6_countGoingOn 4 (some .int) yX6_countGoingOn.cls yX6_countGoingOn.name 1 20 D cA b0 hs res (xMQ D cA b0 below args s hs res) (k_X6_countGoingOn_4 b0 k) 4 := by
  unfold k_X6_countGoingOn_4
  refine s_iload_n dX6_countGoingOn_4 rfl ?_
  refine s_aload_n dX6_countGoingOn_5 rfl ?_
  refine s_getR (Tb := TX6) rfl inX6 (by decide) w_47 dX6_countGoingOn_6 ?_
  refine s_len dX6_countGoingOn_9 ?_
  refine s_c2ge (tgt := 40) dX6_countGoingOn_10 (by decide) ?_ ?_
  · refine s_iload_n dX6_countGoingOn_40 rfl ?_
    exact s_retI rfl dX6_countGoingOn_41
  · refine s_aload_n dX6_countGoingOn_13 rfl ?_
    refine s_getR (Tb := TX6) rfl inX6 (by decide) w_47 dX6_countGoingOn_14 ?_
    refine s_iload_n dX6_countGoingOn_17 rfl ?_
    refine s_qal dX6_countGoingOn_18 ?_
    refine s_astore_n dX6_countGoingOn_19 rfl (by decide) ?_
    refine s_aload_n dX6_countGoingOn_20 rfl ?_
    refine s_cnull (tgt := 34) dX6_countGoingOn_21 (by decide) ?_ ?_
    · refine s_iinc dX6_countGoingOn_34 (by decide) (by decide) ?_
      refine s_goto (tgt := 4) dX6_countGoingOn_37 (by decide) ?_
      exact hk0
    · refine s_aload_n dX6_countGoingOn_24 rfl ?_
      refine s_callV (Tb := TX5) (m_X5_isOver l D cA b0) rfl w_347 w_348 w_349 w_30 w_350 ⟨rfl, by decide, by decide, by decide +kernel⟩ (by decide) dX6_countGoingOn_25 ?_
      refine s_c1ne (tgt := 34) dX6_countGoingOn_28 (by decide) ?_ ?_
      · refine s_iinc dX6_countGoingOn_34 (by decide) (by decide) ?_
        refine s_goto (tgt := 4) dX6_countGoingOn_37 (by decide) ?_
        exact hk0
      · refine s_iinc dX6_countGoingOn_31 (by decide) (by decide) ?_
        refine s_iinc dX6_countGoingOn_34 (by decide) (by decide) ?_
        refine s_goto (tgt := 4) dX6_countGoingOn_37 (by decide) ?_
        exact hk0
theorem t_X6_countGoingOn_r (n : Nat) : xS p l e R s m args below meth c cX6_countGoingOn 4 (some .int) yX6_countGoingOn.cls yX6_countGoingOn.name 1 20 D cA b0 hs res (xMQ D cA b0 below args s hs res) (r_X6_countGoingOn b0 n 0) 4 := by
  induction n with
  | zero => exact fun ls st h hT => by cases hT
  | succ n ih => exact t_X6_countGoingOn_4 (r_X6_countGoingOn b0 n) ih
theorem m_X6_countGoingOn (l : Launch) (D : va_G) (cA : Nat → ClassId) (b0 : Nat) : xMet l D cA b0 yX6_countGoingOn (.code yX6_countGoingOn cX6_countGoingOn 4 (some .int) :: xTB) 1 20 (f_X6_countGoingOn b0) :=
  xMet_of (n := 1) (by decide +kernel) (by decide) (fun p e R s m args below meth c hs res => t_X6_countGoingOn_0 (r_X6_countGoingOn b0 64) (t_X6_countGoingOn_r 64))
end M_X6_countGoingOn
section M_X6_count
variable {p : Program} {l : Launch} {e : Env} {R : Room} {s : State} {m : MethodId} {args : Array Value} {below : List Frame} {meth : Method} {c : Code} {D : va_G} {cA : Nat → ClassId} {b0 : Nat} {hs : xH} {res : Option xV × xH}
set_option maxRecDepth 20000 in
theorem t_X6_count_44  : xS p l e R s m args below meth c cX6_count 2 (some .int) yX6_count.cls yX6_count.name 2 43 D cA b0 hs res (xMQ D cA b0 below args s hs res) (k_X6_count_44 b0) 44 := by
  unfold k_X6_count_44
  refine s_aload_n dX6_count_44 rfl ?_
  refine s_getI (Tb := TX6) rfl inX6 (by decide) w_49 dX6_count_45 ?_
  refine s_goto (tgt := 94) dX6_count_48 (by decide) ?_
  exact s_retI rfl dX6_count_94
set_option maxRecDepth 20000 in
theorem t_X6_count_51  : xS p l e R s m args below meth c cX6_count 2 (some .int) yX6_count.cls yX6_count.name 2 43 D cA b0 hs res (xMQ D cA b0 below args s hs res) (k_X6_count_51 b0) 51 := by
  unfold k_X6_count_51
  refine s_aload_n dX6_count_51 rfl ?_
  refine s_getI (Tb := TX6) rfl inX6 (by decide) w_52 dX6_count_52 ?_
  refine s_goto (tgt := 94) dX6_count_55 (by decide) ?_
  exact s_retI rfl dX6_count_94
set_option maxRecDepth 20000 in
theorem t_X6_count_58  : xS p l e R s m args below meth c cX6_count 2 (some .int) yX6_count.cls yX6_count.name 2 43 D cA b0 hs res (xMQ D cA b0 below args s hs res) (k_X6_count_58 b0) 58 := by
  unfold k_X6_count_58
  refine s_aload_n dX6_count_58 rfl ?_
  refine s_getI (Tb := TX6) rfl inX6 (by decide) w_53 dX6_count_59 ?_
  refine s_goto (tgt := 94) dX6_count_62 (by decide) ?_
  exact s_retI rfl dX6_count_94
set_option maxRecDepth 20000 in
theorem t_X6_count_65  : xS p l e R s m args below meth c cX6_count 2 (some .int) yX6_count.cls yX6_count.name 2 43 D cA b0 hs res (xMQ D cA b0 below args s hs res) (k_X6_count_65 b0) 65 := by
  unfold k_X6_count_65
  refine s_aload_n dX6_count_65 rfl ?_
  refine s_getI (Tb := TX6) rfl inX6 (by decide) w_54 dX6_count_66 ?_
  refine s_goto (tgt := 94) dX6_count_69 (by decide) ?_
  exact s_retI rfl dX6_count_94
set_option maxRecDepth 20000 in
theorem t_X6_count_72  : xS p l e R s m args below meth c cX6_count 2 (some .int) yX6_count.cls yX6_count.name 2 43 D cA b0 hs res (xMQ D cA b0 below args s hs res) (k_X6_count_72 b0) 72 := by
  unfold k_X6_count_72
  refine s_aload_n dX6_count_72 rfl ?_
  refine s_getI (Tb := TX6) rfl inX6 (by decide) w_55 dX6_count_73 ?_
  refine s_goto (tgt := 94) dX6_count_76 (by decide) ?_
  exact s_retI rfl dX6_count_94
set_option maxRecDepth 20000 in
theorem t_X6_count_79  : xS p l e R s m args below meth c cX6_count 2 (some .int) yX6_count.cls yX6_count.name 2 43 D cA b0 hs res (xMQ D cA b0 below args s hs res) (k_X6_count_79 b0) 79 := by
  unfold k_X6_count_79
  refine s_aload_n dX6_count_79 rfl ?_
  refine s_getI (Tb := TX6) rfl inX6 (by decide) w_56 dX6_count_80 ?_
  refine s_goto (tgt := 94) dX6_count_83 (by decide) ?_
  exact s_retI rfl dX6_count_94
set_option maxRecDepth 20000 in
theorem t_X6_count_86  : xS p l e R s m args below meth c cX6_count 2 (some .int) yX6_count.cls yX6_count.name 2 43 D cA b0 hs res (xMQ D cA b0 below args s hs res) (k_X6_count_86 b0) 86 := by
  unfold k_X6_count_86
  refine s_aload_n dX6_count_86 rfl ?_
  refine s_callV (Tb := TX6) (m_X6_countGoingOn l D cA b0) rfl w_462 w_464 w_11 w_28 w_465 ⟨rfl, by decide, by decide, by decide +kernel⟩ (by decide) dX6_count_87 ?_
  refine s_goto (tgt := 94) dX6_count_90 (by decide) ?_
  exact s_retI rfl dX6_count_94
set_option maxRecDepth 20000 in
theorem t_X6_count_93  : xS p l e R s m args below meth c cX6_count 2 (some .int) yX6_count.cls yX6_count.name 2 43 D cA b0 hs res (xMQ D cA b0 below args s hs res) (k_X6_count_93 b0) 93 := by
  unfold k_X6_count_93
  refine s_iconst dX6_count_93 (by decide) ?_
  exact s_retI rfl dX6_count_94
set_option maxRecDepth 20000 in
theorem t_X6_count_0  : xS p l e R s m args below meth c cX6_count 2 (some .int) yX6_count.cls yX6_count.name 2 43 D cA b0 hs res (xMQ D cA b0 below args s hs res) (k_X6_count_0 b0) 0 := by
  unfold k_X6_count_0
  refine s_iload_n dX6_count_0 rfl ?_
  refine s_tab (tg := st_X6_count_1) (dt := 93) dX6_count_1 (by decide) (by decide) ?_ ?_ (t_X6_count_93)
  · intro j hj
    match j, hj with
    | 0, _ => exact ⟨43, rfl, by decide⟩
    | 1, _ => exact ⟨50, rfl, by decide⟩
    | 2, _ => exact ⟨57, rfl, by decide⟩
    | 3, _ => exact ⟨64, rfl, by decide⟩
    | 4, _ => exact ⟨71, rfl, by decide⟩
    | 5, _ => exact ⟨78, rfl, by decide⟩
    | 6, _ => exact ⟨85, rfl, by decide⟩
    | q + 7, hj => exact absurd hj (by omega)
  · intro j hj
    match j, hj with
    | 0, _ => exact t_X6_count_44
    | 1, _ => exact t_X6_count_51
    | 2, _ => exact t_X6_count_58
    | 3, _ => exact t_X6_count_65
    | 4, _ => exact t_X6_count_72
    | 5, _ => exact t_X6_count_79
    | 6, _ => exact t_X6_count_86
    | q + 7, hj => exact absurd hj (by omega)
theorem m_X6_count (l : Launch) (D : va_G) (cA : Nat → ClassId) (b0 : Nat) : xMet l D cA b0 yX6_count (.code yX6_count cX6_count 2 (some .int) :: xTB) 2 43 (f_X6_count b0) :=
  xMet_of (n := 2) (by decide +kernel) (by decide) (fun p e R s m args below meth c hs res => t_X6_count_0)
end M_X6_count
section M_X6_done
variable {p : Program} {l : Launch} {e : Env} {R : Room} {s : State} {m : MethodId} {args : Array Value} {below : List Frame} {meth : Method} {c : Code} {D : va_G} {cA : Nat → ClassId} {b0 : Nat} {hs : xH} {res : Option xV × xH}
set_option maxRecDepth 20000 in
theorem t_X6_done_0  : xS p l e R s m args below meth c cX6_done 2 (some .int) yX6_done.cls yX6_done.name 0 0 D cA b0 hs res (xMQ D cA b0 below args s hs res) (k_X6_done_0 b0) 0 := by
  unfold k_X6_done_0
  refine s_iload_n dX6_done_0 rfl ?_
  refine s_c1lt (tgt := 30) dX6_done_1 (by decide) ?_ ?_
  · refine s_bipush dX6_done_30 (by decide) ?_
    exact s_retI rfl dX6_done_32
  · refine s_iload_n dX6_done_4 rfl ?_
    refine s_aload_n dX6_done_5 rfl ?_
    refine s_getI (Tb := TX6) rfl inX6 (by decide) w_50 dX6_done_6 ?_
    refine s_c2ge (tgt := 30) dX6_done_9 (by decide) ?_ ?_
    · refine s_bipush dX6_done_30 (by decide) ?_
      exact s_retI rfl dX6_done_32
    · refine s_iload_n dX6_done_12 rfl ?_
      refine s_aload_n dX6_done_13 rfl ?_
      refine s_getR (Tb := TX6) rfl inX6 (by decide) w_48 dX6_done_14 ?_
      refine s_len dX6_done_17 ?_
      refine s_c2ge (tgt := 30) dX6_done_18 (by decide) ?_ ?_
      · refine s_bipush dX6_done_30 (by decide) ?_
        exact s_retI rfl dX6_done_32
      · refine s_aload_n dX6_done_21 rfl ?_
        refine s_getR (Tb := TX6) rfl inX6 (by decide) w_48 dX6_done_22 ?_
        refine s_iload_n dX6_done_25 rfl ?_
        refine s_ial dX6_done_26 ?_
        refine s_goto (tgt := 32) dX6_done_27 (by decide) ?_
        exact s_retI rfl dX6_done_32
theorem m_X6_done (l : Launch) (D : va_G) (cA : Nat → ClassId) (b0 : Nat) : xMet l D cA b0 yX6_done (.code yX6_done cX6_done 2 (some .int) :: xTB) 0 0 (f_X6_done b0) :=
  xMet_of (n := 2) (by decide +kernel) (by decide) (fun p e R s m args below meth c hs res => t_X6_done_0)
end M_X6_done
end
section
section M_X7_init
variable {p : Program} {l : Launch} {e : Env} {R : Room} {s : State} {m : MethodId} {args : Array Value} {below : List Frame} {meth : Method} {c : Code} {D : va_G} {cA : Nat → ClassId} {b0 : Nat} {hs : xH} {res : Option xV × xH}
set_option maxRecDepth 20000 in
theorem t_X7_init_0  : xS p l e R s m args below meth c cX7_init 1 none yX7_init.cls yX7_init.name 1 20 D cA b0 hs res (xMQ D cA b0 below args s hs res) (k_X7_init_0 b0) 0 := by
  unfold k_X7_init_0
  refine s_aload_n dX7_init_0 rfl ?_
  refine s_obj w_475 w_43 w_44 (by decide) dX7_init_1 ?_
  refine s_aload_n dX7_init_4 rfl ?_
  refine s_bipush dX7_init_5 (by decide) ?_
  refine s_newi w_78 dX7_init_7 ?_
  refine s_putRF (Tb := TX7) rfl inX7 (by decide) w_477 tyX7 tyX7_ok nmX7 rfl rfl rfl (Or.inr ⟨_, rfl⟩) dX7_init_9 ?_
  refine s_aload_n dX7_init_12 rfl ?_
  refine s_bipush dX7_init_13 (by decide) ?_
  refine s_newi w_78 dX7_init_15 ?_
  refine s_putRF (Tb := TX7) rfl inX7 (by decide) w_478 tyX7 tyX7_ok nmX7 rfl rfl rfl (Or.inr ⟨_, rfl⟩) dX7_init_17 ?_
  refine s_aload_n dX7_init_20 rfl ?_
  refine s_bipush dX7_init_21 (by decide) ?_
  refine s_newi w_78 dX7_init_23 ?_
  refine s_putRF (Tb := TX7) rfl inX7 (by decide) w_479 tyX7 tyX7_ok nmX7 rfl rfl rfl (Or.inr ⟨_, rfl⟩) dX7_init_25 ?_
  refine s_aload_n dX7_init_28 rfl ?_
  refine s_bipush dX7_init_29 (by decide) ?_
  refine s_newi w_78 dX7_init_31 ?_
  refine s_putRF (Tb := TX7) rfl inX7 (by decide) w_480 tyX7 tyX7_ok nmX7 rfl rfl rfl (Or.inr ⟨_, rfl⟩) dX7_init_33 ?_
  refine s_aload_n dX7_init_36 rfl ?_
  refine s_bipush dX7_init_37 (by decide) ?_
  refine s_newi w_78 dX7_init_39 ?_
  refine s_putRF (Tb := TX7) rfl inX7 (by decide) w_481 tyX7 tyX7_ok nmX7 rfl rfl rfl (Or.inr ⟨_, rfl⟩) dX7_init_41 ?_
  refine s_aload_n dX7_init_44 rfl ?_
  refine s_sipush dX7_init_45 (by decide) ?_
  refine s_newi w_78 dX7_init_48 ?_
  refine s_putRF (Tb := TX7) rfl inX7 (by decide) w_482 tyX7 tyX7_ok nmX7 rfl rfl rfl (Or.inr ⟨_, rfl⟩) dX7_init_50 ?_
  refine s_aload_n dX7_init_53 rfl ?_
  refine s_sipush dX7_init_54 (by decide) ?_
  refine s_newi w_78 dX7_init_57 ?_
  refine s_putRF (Tb := TX7) rfl inX7 (by decide) w_483 tyX7 tyX7_ok nmX7 rfl rfl rfl (Or.inr ⟨_, rfl⟩) dX7_init_59 ?_
  refine s_aload_n dX7_init_62 rfl ?_
  refine s_sipush dX7_init_63 (by decide) ?_
  refine s_newi w_78 dX7_init_66 ?_
  refine s_putRF (Tb := TX7) rfl inX7 (by decide) w_484 tyX7 tyX7_ok nmX7 rfl rfl rfl (Or.inr ⟨_, rfl⟩) dX7_init_68 ?_
  refine s_aload_n dX7_init_71 rfl ?_
  refine s_bipush dX7_init_72 (by decide) ?_
  refine s_newi w_78 dX7_init_74 ?_
  refine s_putRF (Tb := TX7) rfl inX7 (by decide) w_485 tyX7 tyX7_ok nmX7 rfl rfl rfl (Or.inr ⟨_, rfl⟩) dX7_init_76 ?_
  refine s_aload_n dX7_init_79 rfl ?_
  refine s_bipush dX7_init_80 (by decide) ?_
  refine s_newi w_78 dX7_init_82 ?_
  refine s_putRF (Tb := TX7) rfl inX7 (by decide) w_486 tyX7 tyX7_ok nmX7 rfl rfl rfl (Or.inr ⟨_, rfl⟩) dX7_init_84 ?_
  refine s_aload_n dX7_init_87 rfl ?_
  refine s_bipush dX7_init_88 (by decide) ?_
  refine s_newi w_78 dX7_init_90 ?_
  refine s_putRF (Tb := TX7) rfl inX7 (by decide) w_487 tyX7 tyX7_ok nmX7 rfl rfl rfl (Or.inr ⟨_, rfl⟩) dX7_init_92 ?_
  refine s_aload_n dX7_init_95 rfl ?_
  refine s_sipush dX7_init_96 (by decide) ?_
  refine s_newi w_78 dX7_init_99 ?_
  refine s_putRF (Tb := TX7) rfl inX7 (by decide) w_488 tyX7 tyX7_ok nmX7 rfl rfl rfl (Or.inr ⟨_, rfl⟩) dX7_init_101 ?_
  refine s_aload_n dX7_init_104 rfl ?_
  refine s_bipush dX7_init_105 (by decide) ?_
  refine s_newi w_78 dX7_init_107 ?_
  refine s_putRF (Tb := TX7) rfl inX7 (by decide) w_489 tyX7 tyX7_ok nmX7 rfl rfl rfl (Or.inr ⟨_, rfl⟩) dX7_init_109 ?_
  refine s_aload_n dX7_init_112 rfl ?_
  refine s_bipush dX7_init_113 (by decide) ?_
  refine s_newi w_78 dX7_init_115 ?_
  refine s_putRF (Tb := TX7) rfl inX7 (by decide) w_490 tyX7 tyX7_ok nmX7 rfl rfl rfl (Or.inr ⟨_, rfl⟩) dX7_init_117 ?_
  refine s_aload_n dX7_init_120 rfl ?_
  refine s_bipush dX7_init_121 (by decide) ?_
  refine s_newi w_78 dX7_init_123 ?_
  refine s_putRF (Tb := TX7) rfl inX7 (by decide) w_491 tyX7 tyX7_ok nmX7 rfl rfl rfl (Or.inr ⟨_, rfl⟩) dX7_init_125 ?_
  refine s_aload_n dX7_init_128 rfl ?_
  refine s_sipush dX7_init_129 (by decide) ?_
  refine s_newi w_78 dX7_init_132 ?_
  refine s_putRF (Tb := TX7) rfl inX7 (by decide) w_492 tyX7 tyX7_ok nmX7 rfl rfl rfl (Or.inr ⟨_, rfl⟩) dX7_init_134 ?_
  refine s_aload_n dX7_init_137 rfl ?_
  refine s_bipush dX7_init_138 (by decide) ?_
  refine s_newi w_78 dX7_init_140 ?_
  refine s_putRF (Tb := TX7) rfl inX7 (by decide) w_493 tyX7 tyX7_ok nmX7 rfl rfl rfl (Or.inr ⟨_, rfl⟩) dX7_init_142 ?_
  refine s_aload_n dX7_init_145 rfl ?_
  refine s_bipush dX7_init_146 (by decide) ?_
  refine s_newi w_78 dX7_init_148 ?_
  refine s_putRF (Tb := TX7) rfl inX7 (by decide) w_494 tyX7 tyX7_ok nmX7 rfl rfl rfl (Or.inr ⟨_, rfl⟩) dX7_init_150 ?_
  refine s_aload_n dX7_init_153 rfl ?_
  refine s_bipush dX7_init_154 (by decide) ?_
  refine s_newi w_78 dX7_init_156 ?_
  refine s_putRF (Tb := TX7) rfl inX7 (by decide) w_495 tyX7 tyX7_ok nmX7 rfl rfl rfl (Or.inr ⟨_, rfl⟩) dX7_init_158 ?_
  refine s_aload_n dX7_init_161 rfl ?_
  refine s_bipush dX7_init_162 (by decide) ?_
  refine s_newi w_78 dX7_init_164 ?_
  refine s_putRF (Tb := TX7) rfl inX7 (by decide) w_496 tyX7 tyX7_ok nmX7 rfl rfl rfl (Or.inr ⟨_, rfl⟩) dX7_init_166 ?_
  refine s_aload_n dX7_init_169 rfl ?_
  refine s_bipush dX7_init_170 (by decide) ?_
  refine s_newj w_591 dX7_init_172 ?_
  refine s_putRF (Tb := TX7) rfl inX7 (by decide) w_497 tyX7 tyX7_ok nmX7 rfl rfl rfl (Or.inr ⟨_, rfl⟩) dX7_init_174 ?_
  refine s_aload_n dX7_init_177 rfl ?_
  refine s_bipush dX7_init_178 (by decide) ?_
  refine s_newi w_78 dX7_init_180 ?_
  refine s_putRF (Tb := TX7) rfl inX7 (by decide) w_498 tyX7 tyX7_ok nmX7 rfl rfl rfl (Or.inr ⟨_, rfl⟩) dX7_init_182 ?_
  refine s_aload_n dX7_init_185 rfl ?_
  refine s_bipush dX7_init_186 (by decide) ?_
  refine s_newi w_78 dX7_init_188 ?_
  refine s_putRF (Tb := TX7) rfl inX7 (by decide) w_499 tyX7 tyX7_ok nmX7 rfl rfl rfl (Or.inr ⟨_, rfl⟩) dX7_init_190 ?_
  refine s_aload_n dX7_init_193 rfl ?_
  refine s_bipush dX7_init_194 (by decide) ?_
  refine s_newi w_78 dX7_init_196 ?_
  refine s_putRF (Tb := TX7) rfl inX7 (by decide) w_500 tyX7 tyX7_ok nmX7 rfl rfl rfl (Or.inr ⟨_, rfl⟩) dX7_init_198 ?_
  refine s_aload_n dX7_init_201 rfl ?_
  refine s_bipush dX7_init_202 (by decide) ?_
  refine s_newi w_78 dX7_init_204 ?_
  refine s_putRF (Tb := TX7) rfl inX7 (by decide) w_501 tyX7 tyX7_ok nmX7 rfl rfl rfl (Or.inr ⟨_, rfl⟩) dX7_init_206 ?_
  refine s_aload_n dX7_init_209 rfl ?_
  refine s_bipush dX7_init_210 (by decide) ?_
  refine s_newz w_592 dX7_init_212 ?_
  refine s_putRF (Tb := TX7) rfl inX7 (by decide) w_502 tyX7 tyX7_ok nmX7 rfl rfl rfl (Or.inr ⟨_, rfl⟩) dX7_init_214 ?_
  refine s_aload_n dX7_init_217 rfl ?_
  refine s_bipush dX7_init_218 (by decide) ?_
  refine s_newz w_592 dX7_init_220 ?_
  refine s_putRF (Tb := TX7) rfl inX7 (by decide) w_503 tyX7 tyX7_ok nmX7 rfl rfl rfl (Or.inr ⟨_, rfl⟩) dX7_init_222 ?_
  refine s_aload_n dX7_init_225 rfl ?_
  refine s_bipush dX7_init_226 (by decide) ?_
  refine s_newi w_78 dX7_init_228 ?_
  refine s_putRF (Tb := TX7) rfl inX7 (by decide) w_504 tyX7 tyX7_ok nmX7 rfl rfl rfl (Or.inr ⟨_, rfl⟩) dX7_init_230 ?_
  refine s_aload_n dX7_init_233 rfl ?_
  refine s_iconst dX7_init_234 (by decide) ?_
  refine s_putI (Tb := TX7) rfl inX7 (by decide) w_506 tyX7 tyX7_ok nmX7 rfl rfl dX7_init_235 ?_
  refine s_aload_n dX7_init_238 rfl ?_
  refine s_iconst dX7_init_239 (by decide) ?_
  refine s_putI (Tb := TX7) rfl inX7 (by decide) w_507 tyX7 tyX7_ok nmX7 rfl rfl dX7_init_240 ?_
  exact s_retV rfl dX7_init_243
theorem m_X7_init (l : Launch) (D : va_G) (cA : Nat → ClassId) (b0 : Nat) : xMet l D cA b0 yX7_init (.code yX7_init cX7_init 1 none :: xTB) 1 20 (f_X7_init b0) :=
  xMet_of (n := 1) (by decide +kernel) (by decide) (fun p e R s m args below meth c hs res => t_X7_init_0)
end M_X7_init
section M_X7_in
variable {p : Program} {l : Launch} {e : Env} {R : Room} {s : State} {m : MethodId} {args : Array Value} {below : List Frame} {meth : Method} {c : Code} {D : va_G} {cA : Nat → ClassId} {b0 : Nat} {hs : xH} {res : Option xV × xH}
set_option maxRecDepth 20000 in
theorem t_X7_in_0  : xS p l e R s m args below meth c cX7_in 3 (some .boolean) yX7_in.cls yX7_in.name 0 0 D cA b0 hs res (xMQ D cA b0 below args s hs res) (k_X7_in_0 b0) 0 := by
  unfold k_X7_in_0
  refine s_iload_n dX7_in_0 rfl ?_
  refine s_iload_n dX7_in_1 rfl ?_
  refine s_c2lt (tgt := 14) dX7_in_2 (by decide) ?_ ?_
  · refine s_iconst dX7_in_14 (by decide) ?_
    exact s_retZ rfl dX7_in_15
  · refine s_iload_n dX7_in_5 rfl ?_
    refine s_iload_n dX7_in_6 rfl ?_
    refine s_c2gt (tgt := 14) dX7_in_7 (by decide) ?_ ?_
    · refine s_iconst dX7_in_14 (by decide) ?_
      exact s_retZ rfl dX7_in_15
    · refine s_iconst dX7_in_10 (by decide) ?_
      refine s_goto (tgt := 15) dX7_in_11 (by decide) ?_
      exact s_retZ rfl dX7_in_15
theorem m_X7_in (l : Launch) (D : va_G) (cA : Nat → ClassId) (b0 : Nat) : xMet l D cA b0 yX7_in (.code yX7_in cX7_in 3 (some .boolean) :: xTB) 0 0 (f_X7_in b0) :=
  xMet_of (n := 3) (by decide +kernel) (by decide) (fun p e R s m args below meth c hs res => t_X7_in_0)
end M_X7_in
section M_X7_isTask
variable {p : Program} {l : Launch} {e : Env} {R : Room} {s : State} {m : MethodId} {args : Array Value} {below : List Frame} {meth : Method} {c : Code} {D : va_G} {cA : Nat → ClassId} {b0 : Nat} {hs : xH} {res : Option xV × xH}
set_option maxRecDepth 20000 in
theorem t_X7_isTask_0  : xS p l e R s m args below meth c cX7_isTask 2 (some .boolean) yX7_isTask.cls yX7_isTask.name 1 22 D cA b0 hs res (xMQ D cA b0 below args s hs res) (k_X7_isTask_0 b0) 0 := by
  unfold k_X7_isTask_0
  refine s_iload_n dX7_isTask_0 rfl ?_
  refine s_iconst dX7_isTask_1 (by decide) ?_
  refine s_aload_n dX7_isTask_2 rfl ?_
  refine s_getI (Tb := TX7) rfl inX7 (by decide) w_476 dX7_isTask_3 ?_
  refine s_iconst dX7_isTask_6 (by decide) ?_
  refine s_isub dX7_isTask_7 ?_
  refine s_callS (m_X7_in l D cA b0) w_597 w_598 w_29 w_599 ⟨rfl, by decide, by decide, by decide +kernel⟩ (by decide) dX7_isTask_8 ?_
  exact s_retZ rfl dX7_isTask_11
theorem m_X7_isTask (l : Launch) (D : va_G) (cA : Nat → ClassId) (b0 : Nat) : xMet l D cA b0 yX7_isTask (.code yX7_isTask cX7_isTask 2 (some .boolean) :: xTB) 1 22 (f_X7_isTask b0) :=
  xMet_of (n := 2) (by decide +kernel) (by decide) (fun p e R s m args below meth c hs res => t_X7_isTask_0)
end M_X7_isTask
section M_X7_isOver
variable {p : Program} {l : Launch} {e : Env} {R : Room} {s : State} {m : MethodId} {args : Array Value} {below : List Frame} {meth : Method} {c : Code} {D : va_G} {cA : Nat → ClassId} {b0 : Nat} {hs : xH} {res : Option xV × xH}
set_option maxRecDepth 20000 in
theorem t_X7_isOver_0  : xS p l e R s m args below meth c cX7_isOver 1 (some .boolean) yX7_isOver.cls yX7_isOver.name 0 0 D cA b0 hs res (xMQ D cA b0 below args s hs res) (k_X7_isOver_0 b0) 0 := by
  unfold k_X7_isOver_0
  refine s_iload_n dX7_isOver_0 rfl ?_
  refine s_iconst dX7_isOver_1 (by decide) ?_
  refine s_c2le (tgt := 9) dX7_isOver_2 (by decide) ?_ ?_
  · refine s_iconst dX7_isOver_9 (by decide) ?_
    exact s_retZ rfl dX7_isOver_10
  · refine s_iconst dX7_isOver_5 (by decide) ?_
    refine s_goto (tgt := 10) dX7_isOver_6 (by decide) ?_
    exact s_retZ rfl dX7_isOver_10
theorem m_X7_isOver (l : Launch) (D : va_G) (cA : Nat → ClassId) (b0 : Nat) : xMet l D cA b0 yX7_isOver (.code yX7_isOver cX7_isOver 1 (some .boolean) :: xTB) 0 0 (f_X7_isOver b0) :=
  xMet_of (n := 1) (by decide +kernel) (by decide) (fun p e R s m args below meth c hs res => t_X7_isOver_0)
end M_X7_isOver
section M_X7_task
variable {p : Program} {l : Launch} {e : Env} {R : Room} {s : State} {m : MethodId} {args : Array Value} {below : List Frame} {meth : Method} {c : Code} {D : va_G} {cA : Nat → ClassId} {b0 : Nat} {hs : xH} {res : Option xV × xH}
set_option maxRecDepth 20000 in
theorem t_X7_task_0  : xS p l e R s m args below meth c cX7_task 4 (some .int) yX7_task.cls yX7_task.name 1 22 D cA b0 hs res (xMQ D cA b0 below args s hs res) (k_X7_task_0 b0) 0 := by
  unfold k_X7_task_0
  refine s_iload_n dX7_task_0 rfl ?_
  refine s_iconst dX7_task_1 (by decide) ?_
  refine s_iconst dX7_task_2 (by decide) ?_
  refine s_callS (m_X7_in l D cA b0) w_597 w_598 w_29 w_599 ⟨rfl, by decide, by decide, by decide +kernel⟩ (by decide) dX7_task_3 ?_
  refine s_c1eq (tgt := 19) dX7_task_6 (by decide) ?_ ?_
  · refine s_iconst dX7_task_19 (by decide) ?_
    exact s_retI rfl dX7_task_20
  · refine s_iload_n dX7_task_9 rfl ?_
    refine s_iconst dX7_task_10 (by decide) ?_
    refine s_bipush dX7_task_11 (by decide) ?_
    refine s_callS (m_X7_in l D cA b0) w_597 w_598 w_29 w_599 ⟨rfl, by decide, by decide, by decide +kernel⟩ (by decide) dX7_task_13 ?_
    refine s_c1ne (tgt := 21) dX7_task_16 (by decide) ?_ ?_
    · refine s_aload_n dX7_task_21 rfl ?_
      refine s_getI (Tb := TX7) rfl inX7 (by decide) w_476 dX7_task_22 ?_
      refine s_bipush dX7_task_25 (by decide) ?_
      refine s_c2ne (tgt := 33) dX7_task_27 (by decide) ?_ ?_
      · refine s_aload_n dX7_task_33 rfl ?_
        refine s_getI (Tb := TX7) rfl inX7 (by decide) w_476 dX7_task_34 ?_
        refine s_istore_n dX7_task_37 rfl (by decide) ?_
        refine s_aload_n dX7_task_38 rfl ?_
        refine s_getR (Tb := TX7) rfl inX7 (by decide) w_477 dX7_task_39 ?_
        refine s_iload_n dX7_task_42 rfl ?_
        refine s_iload_n dX7_task_43 rfl ?_
        refine s_ias dX7_task_44 ?_
        refine s_aload_n dX7_task_45 rfl ?_
        refine s_getR (Tb := TX7) rfl inX7 (by decide) w_478 dX7_task_46 ?_
        refine s_iload_n dX7_task_49 rfl ?_
        refine s_iload_n dX7_task_50 rfl ?_
        refine s_ias dX7_task_51 ?_
        refine s_aload_n dX7_task_52 rfl ?_
        refine s_getR (Tb := TX7) rfl inX7 (by decide) w_487 dX7_task_53 ?_
        refine s_iload_n dX7_task_56 rfl ?_
        refine s_bipush dX7_task_57 (by decide) ?_
        refine s_ias dX7_task_59 ?_
        refine s_aload_n dX7_task_60 rfl ?_
        refine s_getR (Tb := TX7) rfl inX7 (by decide) w_491 dX7_task_61 ?_
        refine s_iload_n dX7_task_64 rfl ?_
        refine s_bipush dX7_task_65 (by decide) ?_
        refine s_ias dX7_task_67 ?_
        refine s_aload_n dX7_task_68 rfl ?_
        refine s_getR (Tb := TX7) rfl inX7 (by decide) w_493 dX7_task_69 ?_
        refine s_iload_n dX7_task_72 rfl ?_
        refine s_bipush dX7_task_73 (by decide) ?_
        refine s_ias dX7_task_75 ?_
        refine s_aload_n dX7_task_76 rfl ?_
        refine s_getR (Tb := TX7) rfl inX7 (by decide) w_500 dX7_task_77 ?_
        refine s_iload_n dX7_task_80 rfl ?_
        refine s_bipush dX7_task_81 (by decide) ?_
        refine s_ias dX7_task_83 ?_
        refine s_aload_n dX7_task_84 rfl ?_
        refine s_dup dX7_task_85 ?_
        refine s_getI (Tb := TX7) rfl inX7 (by decide) w_476 dX7_task_86 ?_
        refine s_iconst dX7_task_89 (by decide) ?_
        refine s_iadd dX7_task_90 ?_
        refine s_putI (Tb := TX7) rfl inX7 (by decide) w_476 tyX7 tyX7_ok nmX7 rfl rfl dX7_task_91 ?_
        refine s_iload_n dX7_task_94 rfl ?_
        exact s_retI rfl dX7_task_95
      · refine s_bipush dX7_task_30 (by decide) ?_
        exact s_retI rfl dX7_task_32
    · refine s_iconst dX7_task_19 (by decide) ?_
      exact s_retI rfl dX7_task_20
theorem m_X7_task (l : Launch) (D : va_G) (cA : Nat → ClassId) (b0 : Nat) : xMet l D cA b0 yX7_task (.code yX7_task cX7_task 4 (some .int) :: xTB) 1 22 (f_X7_task b0) :=
  xMet_of (n := 3) (by decide +kernel) (by decide) (fun p e R s m args below meth c hs res => t_X7_task_0)
end M_X7_task
section M_X7_act
variable {p : Program} {l : Launch} {e : Env} {R : Room} {s : State} {m : MethodId} {args : Array Value} {below : List Frame} {meth : Method} {c : Code} {D : va_G} {cA : Nat → ClassId} {b0 : Nat} {hs : xH} {res : Option xV × xH}
set_option maxRecDepth 20000 in
theorem t_X7_act_31  : xS p l e R s m args below meth c cX7_act 6 (some .int) yX7_act.cls yX7_act.name 2 43 D cA b0 hs res (xMQ D cA b0 below args s hs res) (k_X7_act_31 b0) 31 := by
  unfold k_X7_act_31
  refine s_aload_n dX7_act_31 rfl ?_
  refine s_getR (Tb := TX7) rfl inX7 (by decide) w_480 dX7_act_32 ?_
  refine s_iload_n dX7_act_35 rfl ?_
  refine s_ial dX7_act_36 ?_
  refine s_c1ne (tgt := 49) dX7_act_37 (by decide) ?_ ?_
  · refine s_bipush dX7_act_49 (by decide) ?_
    exact s_retI rfl dX7_act_51
  · refine s_aload_n dX7_act_40 rfl ?_
    refine s_getR (Tb := TX7) rfl inX7 (by decide) w_502 dX7_act_41 ?_
    refine s_iload_n dX7_act_44 rfl ?_
    refine s_zal dX7_act_45 ?_
    refine s_c1eq (tgt := 52) dX7_act_46 (by decide) ?_ ?_
    · refine s_aload_n dX7_act_52 rfl ?_
      refine s_getR (Tb := TX7) rfl inX7 (by decide) w_481 dX7_act_53 ?_
      refine s_iload_n dX7_act_56 rfl ?_
      refine s_ial dX7_act_57 ?_
      refine s_bipush dX7_act_58 (by decide) ?_
      refine s_c2ne (tgt := 66) dX7_act_60 (by decide) ?_ ?_
      · refine s_bipush dX7_act_66 (by decide) ?_
        refine s_iload_n dX7_act_68 rfl ?_
        refine s_imul dX7_act_69 ?_
        refine s_aload_n dX7_act_70 rfl ?_
        refine s_getR (Tb := TX7) rfl inX7 (by decide) w_481 dX7_act_71 ?_
        refine s_iload_n dX7_act_74 rfl ?_
        refine s_ial dX7_act_75 ?_
        refine s_iadd dX7_act_76 ?_
        refine s_istore dX7_act_77 (by decide) ?_
        refine s_aload_n dX7_act_79 rfl ?_
        refine s_getR (Tb := TX7) rfl inX7 (by decide) w_482 dX7_act_80 ?_
        refine s_iload dX7_act_83 ?_
        refine s_iload_n dX7_act_85 rfl ?_
        refine s_ias dX7_act_86 ?_
        refine s_aload_n dX7_act_87 rfl ?_
        refine s_getR (Tb := TX7) rfl inX7 (by decide) w_483 dX7_act_88 ?_
        refine s_iload dX7_act_91 ?_
        refine s_iload_n dX7_act_93 rfl ?_
        refine s_ias dX7_act_94 ?_
        refine s_aload_n dX7_act_95 rfl ?_
        refine s_getR (Tb := TX7) rfl inX7 (by decide) w_484 dX7_act_96 ?_
        refine s_iload dX7_act_99 ?_
        refine s_iload dX7_act_101 ?_
        refine s_ias dX7_act_103 ?_
        refine s_aload_n dX7_act_104 rfl ?_
        refine s_getR (Tb := TX7) rfl inX7 (by decide) w_481 dX7_act_105 ?_
        refine s_iload_n dX7_act_108 rfl ?_
        refine s_dup2 dX7_act_109 ?_
        refine s_ial dX7_act_110 ?_
        refine s_iconst dX7_act_111 (by decide) ?_
        refine s_iadd dX7_act_112 ?_
        refine s_ias dX7_act_113 ?_
        refine s_aload_n dX7_act_114 rfl ?_
        refine s_getR (Tb := TX7) rfl inX7 (by decide) w_481 dX7_act_115 ?_
        refine s_iload_n dX7_act_118 rfl ?_
        refine s_ial dX7_act_119 ?_
        refine s_iconst dX7_act_120 (by decide) ?_
        refine s_isub dX7_act_121 ?_
        exact s_retI rfl dX7_act_122
      · refine s_bipush dX7_act_63 (by decide) ?_
        exact s_retI rfl dX7_act_65
    · refine s_bipush dX7_act_49 (by decide) ?_
      exact s_retI rfl dX7_act_51
set_option maxRecDepth 20000 in
theorem t_X7_act_0  : xS p l e R s m args below meth c cX7_act 6 (some .int) yX7_act.cls yX7_act.name 2 43 D cA b0 hs res (xMQ D cA b0 below args s hs res) (k_X7_act_0 b0) 0 := by
  unfold k_X7_act_0
  refine s_aload_n dX7_act_0 rfl ?_
  refine s_iload_n dX7_act_1 rfl ?_
  refine s_callV (Tb := TX7) (m_X7_isTask l D cA b0) rfl w_604 w_606 w_12 w_29 w_607 ⟨rfl, by decide, by decide, by decide +kernel⟩ (by decide) dX7_act_2 ?_
  refine s_c1eq (tgt := 29) dX7_act_5 (by decide) ?_ ?_
  · refine s_iconst dX7_act_29 (by decide) ?_
    exact s_retI rfl dX7_act_30
  · refine s_iload_n dX7_act_8 rfl ?_
    refine s_iconst dX7_act_9 (by decide) ?_
    refine s_bipush dX7_act_10 (by decide) ?_
    refine s_callS (m_X7_in l D cA b0) w_597 w_598 w_29 w_599 ⟨rfl, by decide, by decide, by decide +kernel⟩ (by decide) dX7_act_12 ?_
    refine s_c1eq (tgt := 29) dX7_act_15 (by decide) ?_ ?_
    · refine s_iconst dX7_act_29 (by decide) ?_
      exact s_retI rfl dX7_act_30
    · refine s_iload_n dX7_act_18 rfl ?_
      refine s_iconst dX7_act_19 (by decide) ?_
      refine s_c2ne (tgt := 31) dX7_act_20 (by decide) ?_ ?_
      · exact t_X7_act_31
      · refine s_iload_n dX7_act_23 rfl ?_
        refine s_bipush dX7_act_24 (by decide) ?_
        refine s_c2le (tgt := 31) dX7_act_26 (by decide) ?_ ?_
        · exact t_X7_act_31
        · refine s_iconst dX7_act_29 (by decide) ?_
          exact s_retI rfl dX7_act_30
theorem m_X7_act (l : Launch) (D : va_G) (cA : Nat → ClassId) (b0 : Nat) : xMet l D cA b0 yX7_act (.code yX7_act cX7_act 6 (some .int) :: xTB) 2 43 (f_X7_act b0) :=
  xMet_of (n := 5) (by decide +kernel) (by decide) (fun p e R s m args below meth c hs res => t_X7_act_0)
end M_X7_act
section M_X7_workers
variable {p : Program} {l : Launch} {e : Env} {R : Room} {s : State} {m : MethodId} {args : Array Value} {below : List Frame} {meth : Method} {c : Code} {D : va_G} {cA : Nat → ClassId} {b0 : Nat} {hs : xH} {res : Option xV × xH}
set_option maxRecDepth 20000 in
theorem t_X7_workers_0  : xS p l e R s m args below meth c cX7_workers 3 (some .int) yX7_workers.cls yX7_workers.name 1 22 D cA b0 hs res (xMQ D cA b0 below args s hs res) (k_X7_workers_0 b0) 0 := by
  unfold k_X7_workers_0
  refine s_iload_n dX7_workers_0 rfl ?_
  refine s_iconst dX7_workers_1 (by decide) ?_
  refine s_iconst dX7_workers_2 (by decide) ?_
  refine s_callS (m_X7_in l D cA b0) w_597 w_598 w_29 w_599 ⟨rfl, by decide, by decide, by decide +kernel⟩ (by decide) dX7_workers_3 ?_
  refine s_c1ne (tgt := 11) dX7_workers_6 (by decide) ?_ ?_
  · refine s_aload_n dX7_workers_11 rfl ?_
    refine s_getI (Tb := TX7) rfl inX7 (by decide) w_506 dX7_workers_12 ?_
    refine s_istore_n dX7_workers_15 rfl (by decide) ?_
    refine s_aload_n dX7_workers_16 rfl ?_
    refine s_iload_n dX7_workers_17 rfl ?_
    refine s_putI (Tb := TX7) rfl inX7 (by decide) w_506 tyX7 tyX7_ok nmX7 rfl rfl dX7_workers_18 ?_
    refine s_iload_n dX7_workers_21 rfl ?_
    exact s_retI rfl dX7_workers_22
  · refine s_iconst dX7_workers_9 (by decide) ?_
    exact s_retI rfl dX7_workers_10
theorem m_X7_workers (l : Launch) (D : va_G) (cA : Nat → ClassId) (b0 : Nat) : xMet l D cA b0 yX7_workers (.code yX7_workers cX7_workers 3 (some .int) :: xTB) 1 22 (f_X7_workers b0) :=
  xMet_of (n := 2) (by decide +kernel) (by decide) (fun p e R s m args below meth c hs res => t_X7_workers_0)
end M_X7_workers
section M_X7_rowAct
variable {p : Program} {l : Launch} {e : Env} {R : Room} {s : State} {m : MethodId} {args : Array Value} {below : List Frame} {meth : Method} {c : Code} {D : va_G} {cA : Nat → ClassId} {b0 : Nat} {hs : xH} {res : Option xV × xH}
set_option maxRecDepth 20000 in
theorem t_X7_rowAct_0 (k : Nat → xK) (hk0 : xS p l e R s m args below meth c cX7_rowAct 5 (some .int) yX7_rowAct.cls yX7_rowAct.name 1 22 D cA b0 hs res (xMQ D cA b0 below args s hs res) (k 0) 21) : xS p l e R s m args below meth c cX7_rowAct 5 (some .int) yX7_rowAct.cls yX7_rowAct.name 1 22 D cA b0 hs res (xMQ D cA b0 below args s hs res) (k_X7_rowAct_0 b0 k) 0 := by
  unfold k_X7_rowAct_0
  refine s_iload_n dX7_rowAct_0 rfl ?_
  refine s_iconst dX7_rowAct_1 (by decide) ?_
  refine s_c2ne (tgt := 48) dX7_rowAct_2 (by decide) ?_ ?_
  · refine s_aload_n dX7_rowAct_48 rfl ?_
    refine s_getR (Tb := TX7) rfl inX7 (by decide) w_487 dX7_rowAct_49 ?_
    refine s_iload_n dX7_rowAct_52 rfl ?_
    refine s_ial dX7_rowAct_53 ?_
    refine s_bipush dX7_rowAct_54 (by decide) ?_
    refine s_c2ne (tgt := 61) dX7_rowAct_56 (by decide) ?_ ?_
    · refine s_iload_n dX7_rowAct_61 rfl ?_
      refine s_iconst dX7_rowAct_62 (by decide) ?_
      refine s_aload_n dX7_rowAct_63 rfl ?_
      refine s_getR (Tb := TX7) rfl inX7 (by decide) w_487 dX7_rowAct_64 ?_
      refine s_iload_n dX7_rowAct_67 rfl ?_
      refine s_ial dX7_rowAct_68 ?_
      refine s_iconst dX7_rowAct_69 (by decide) ?_
      refine s_isub dX7_rowAct_70 ?_
      refine s_callS (m_X7_in l D cA b0) w_597 w_598 w_29 w_599 ⟨rfl, by decide, by decide, by decide +kernel⟩ (by decide) dX7_rowAct_71 ?_
      refine s_c1ne (tgt := 79) dX7_rowAct_74 (by decide) ?_ ?_
      · refine s_iload_n dX7_rowAct_79 rfl ?_
        refine s_iconst dX7_rowAct_80 (by decide) ?_
        refine s_c2ne (tgt := 104) dX7_rowAct_81 (by decide) ?_ ?_
        · refine s_aload_n dX7_rowAct_104 rfl ?_
          refine s_getR (Tb := TX7) rfl inX7 (by decide) w_486 dX7_rowAct_105 ?_
          refine s_iload_n dX7_rowAct_108 rfl ?_
          refine s_dup2 dX7_rowAct_109 ?_
          refine s_ial dX7_rowAct_110 ?_
          refine s_aload_n dX7_rowAct_111 rfl ?_
          refine s_getR (Tb := TX7) rfl inX7 (by decide) w_488 dX7_rowAct_112 ?_
          refine s_bipush dX7_rowAct_115 (by decide) ?_
          refine s_iload_n dX7_rowAct_117 rfl ?_
          refine s_imul dX7_rowAct_118 ?_
          refine s_iload_n dX7_rowAct_119 rfl ?_
          refine s_iadd dX7_rowAct_120 ?_
          refine s_ial dX7_rowAct_121 ?_
          refine s_iadd dX7_rowAct_122 ?_
          refine s_ias dX7_rowAct_123 ?_
          refine s_iconst dX7_rowAct_124 (by decide) ?_
          exact s_retI rfl dX7_rowAct_125
        · refine s_aload_n dX7_rowAct_84 rfl ?_
          refine s_getR (Tb := TX7) rfl inX7 (by decide) w_488 dX7_rowAct_85 ?_
          refine s_bipush dX7_rowAct_88 (by decide) ?_
          refine s_iload_n dX7_rowAct_90 rfl ?_
          refine s_imul dX7_rowAct_91 ?_
          refine s_iload_n dX7_rowAct_92 rfl ?_
          refine s_iadd dX7_rowAct_93 ?_
          refine s_aload_n dX7_rowAct_94 rfl ?_
          refine s_getR (Tb := TX7) rfl inX7 (by decide) w_486 dX7_rowAct_95 ?_
          refine s_iload_n dX7_rowAct_98 rfl ?_
          refine s_ial dX7_rowAct_99 ?_
          refine s_ias dX7_rowAct_100 ?_
          refine s_goto (tgt := 124) dX7_rowAct_101 (by decide) ?_
          refine s_iconst dX7_rowAct_124 (by decide) ?_
          exact s_retI rfl dX7_rowAct_125
      · refine s_iconst dX7_rowAct_77 (by decide) ?_
        exact s_retI rfl dX7_rowAct_78
    · refine s_iconst dX7_rowAct_59 (by decide) ?_
      exact s_retI rfl dX7_rowAct_60
  · refine s_iload_n dX7_rowAct_5 rfl ?_
    refine s_c1ge (tgt := 11) dX7_rowAct_6 (by decide) ?_ ?_
    · refine s_aload_n dX7_rowAct_11 rfl ?_
      refine s_getR (Tb := TX7) rfl inX7 (by decide) w_487 dX7_rowAct_12 ?_
      refine s_iload_n dX7_rowAct_15 rfl ?_
      refine s_iload_n dX7_rowAct_16 rfl ?_
      refine s_ias dX7_rowAct_17 ?_
      refine s_iconst dX7_rowAct_18 (by decide) ?_
      refine s_istore dX7_rowAct_19 (by decide) ?_
      exact hk0
    · refine s_iconst dX7_rowAct_9 (by decide) ?_
      exact s_retI rfl dX7_rowAct_10
set_option maxRecDepth 20000 in
theorem t_X7_rowAct_21 (k : Nat → xK) (hk0 : xS p l e R s m args below meth c cX7_rowAct 5 (some .int) yX7_rowAct.cls yX7_rowAct.name 1 22 D cA b0 hs res (xMQ D cA b0 below args s hs res) (k 0) 21) : xS p l e R s m args below meth c cX7_rowAct 5 (some .int) yX7_rowAct.cls yX7_rowAct.name 1 22 D cA b0 hs res (xMQ D cA b0 below args s hs res) (k_X7_rowAct_21 b0 k) 21 := by
  unfold k_X7_rowAct_21
  refine s_iload dX7_rowAct_21 ?_
  refine s_iload_n dX7_rowAct_23 rfl ?_
  refine s_c2ge (tgt := 46) dX7_rowAct_24 (by decide) ?_ ?_
  · refine s_iconst dX7_rowAct_46 (by decide) ?_
    exact s_retI rfl dX7_rowAct_47
  · refine s_aload_n dX7_rowAct_27 rfl ?_
    refine s_getR (Tb := TX7) rfl inX7 (by decide) w_488 dX7_rowAct_28 ?_
    refine s_bipush dX7_rowAct_31 (by decide) ?_
    refine s_iload_n dX7_rowAct_33 rfl ?_
    refine s_imul dX7_rowAct_34 ?_
    refine s_iload dX7_rowAct_35 ?_
    refine s_iadd dX7_rowAct_37 ?_
    refine s_iconst dX7_rowAct_38 (by decide) ?_
    refine s_ias dX7_rowAct_39 ?_
    refine s_iinc dX7_rowAct_40 (by decide) (by decide) ?_
    refine s_goto (tgt := 21) dX7_rowAct_43 (by decide) ?_
    exact hk0
theorem t_X7_rowAct_r (n : Nat) : xS p l e R s m args below meth c cX7_rowAct 5 (some .int) yX7_rowAct.cls yX7_rowAct.name 1 22 D cA b0 hs res (xMQ D cA b0 below args s hs res) (r_X7_rowAct b0 n 0) 21 := by
  induction n with
  | zero => exact fun ls st h hT => by cases hT
  | succ n ih => exact t_X7_rowAct_21 (r_X7_rowAct b0 n) ih
theorem m_X7_rowAct (l : Launch) (D : va_G) (cA : Nat → ClassId) (b0 : Nat) : xMet l D cA b0 yX7_rowAct (.code yX7_rowAct cX7_rowAct 5 (some .int) :: xTB) 1 22 (f_X7_rowAct b0) :=
  xMet_of (n := 4) (by decide +kernel) (by decide) (fun p e R s m args below meth c hs res => t_X7_rowAct_0 (r_X7_rowAct b0 64) (t_X7_rowAct_r 64))
end M_X7_rowAct
section M_X7_takeAct
variable {p : Program} {l : Launch} {e : Env} {R : Room} {s : State} {m : MethodId} {args : Array Value} {below : List Frame} {meth : Method} {c : Code} {D : va_G} {cA : Nat → ClassId} {b0 : Nat} {hs : xH} {res : Option xV × xH}
set_option maxRecDepth 20000 in
theorem t_X7_takeAct_0 (k : Nat → xK) (hk0 : xS p l e R s m args below meth c cX7_takeAct 3 (some .int) yX7_takeAct.cls yX7_takeAct.name 0 0 D cA b0 hs res (xMQ D cA b0 below args s hs res) (k 0) 58) : xS p l e R s m args below meth c cX7_takeAct 3 (some .int) yX7_takeAct.cls yX7_takeAct.name 0 0 D cA b0 hs res (xMQ D cA b0 below args s hs res) (k_X7_takeAct_0 b0 k) 0 := by
  unfold k_X7_takeAct_0
  refine s_aload_n dX7_takeAct_0 rfl ?_
  refine s_getR (Tb := TX7) rfl inX7 (by decide) w_495 dX7_takeAct_1 ?_
  refine s_iload_n dX7_takeAct_4 rfl ?_
  refine s_ial dX7_takeAct_5 ?_
  refine s_c1ne (tgt := 28) dX7_takeAct_6 (by decide) ?_ ?_
  · refine s_aload_n dX7_takeAct_28 rfl ?_
    refine s_getR (Tb := TX7) rfl inX7 (by decide) w_486 dX7_takeAct_29 ?_
    refine s_iload_n dX7_takeAct_32 rfl ?_
    refine s_dup2 dX7_takeAct_33 ?_
    refine s_ial dX7_takeAct_34 ?_
    refine s_aload_n dX7_takeAct_35 rfl ?_
    refine s_getR (Tb := TX7) rfl inX7 (by decide) w_496 dX7_takeAct_36 ?_
    refine s_bipush dX7_takeAct_39 (by decide) ?_
    refine s_iload_n dX7_takeAct_41 rfl ?_
    refine s_imul dX7_takeAct_42 ?_
    refine s_ial dX7_takeAct_43 ?_
    refine s_iadd dX7_takeAct_44 ?_
    refine s_ias dX7_takeAct_45 ?_
    refine s_aload_n dX7_takeAct_46 rfl ?_
    refine s_getR (Tb := TX7) rfl inX7 (by decide) w_495 dX7_takeAct_47 ?_
    refine s_iload_n dX7_takeAct_50 rfl ?_
    refine s_dup2 dX7_takeAct_51 ?_
    refine s_ial dX7_takeAct_52 ?_
    refine s_iconst dX7_takeAct_53 (by decide) ?_
    refine s_isub dX7_takeAct_54 ?_
    refine s_ias dX7_takeAct_55 ?_
    refine s_iconst dX7_takeAct_56 (by decide) ?_
    refine s_istore_n dX7_takeAct_57 rfl (by decide) ?_
    exact hk0
  · refine s_aload_n dX7_takeAct_9 rfl ?_
    refine s_getI (Tb := TX7) rfl inX7 (by decide) w_513 dX7_takeAct_10 ?_
    refine s_c1eq (tgt := 19) dX7_takeAct_13 (by decide) ?_ ?_
    · refine s_aload_n dX7_takeAct_19 rfl ?_
      refine s_getR (Tb := TX7) rfl inX7 (by decide) w_480 dX7_takeAct_20 ?_
      refine s_iload_n dX7_takeAct_23 rfl ?_
      refine s_iconst dX7_takeAct_24 (by decide) ?_
      refine s_ias dX7_takeAct_25 ?_
      refine s_iconst dX7_takeAct_26 (by decide) ?_
      exact s_retI rfl dX7_takeAct_27
    · refine s_bipush dX7_takeAct_16 (by decide) ?_
      exact s_retI rfl dX7_takeAct_18
set_option maxRecDepth 20000 in
theorem t_X7_takeAct_58 (k : Nat → xK) (hk0 : xS p l e R s m args below meth c cX7_takeAct 3 (some .int) yX7_takeAct.cls yX7_takeAct.name 0 0 D cA b0 hs res (xMQ D cA b0 below args s hs res) (k 0) 58) : xS p l e R s m args below meth c cX7_takeAct 3 (some .int) yX7_takeAct.cls yX7_takeAct.name 0 0 D cA b0 hs res (xMQ D cA b0 below args s hs res) (k_X7_takeAct_58 b0 k) 58 := by
  unfold k_X7_takeAct_58
  refine s_iload_n dX7_takeAct_58 rfl ?_
  refine s_aload_n dX7_takeAct_59 rfl ?_
  refine s_getR (Tb := TX7) rfl inX7 (by decide) w_495 dX7_takeAct_60 ?_
  refine s_iload_n dX7_takeAct_63 rfl ?_
  refine s_ial dX7_takeAct_64 ?_
  refine s_c2ge (tgt := 98) dX7_takeAct_65 (by decide) ?_ ?_
  · refine s_iconst dX7_takeAct_98 (by decide) ?_
    exact s_retI rfl dX7_takeAct_99
  · refine s_aload_n dX7_takeAct_68 rfl ?_
    refine s_getR (Tb := TX7) rfl inX7 (by decide) w_496 dX7_takeAct_69 ?_
    refine s_bipush dX7_takeAct_72 (by decide) ?_
    refine s_iload_n dX7_takeAct_74 rfl ?_
    refine s_imul dX7_takeAct_75 ?_
    refine s_iload_n dX7_takeAct_76 rfl ?_
    refine s_iadd dX7_takeAct_77 ?_
    refine s_aload_n dX7_takeAct_78 rfl ?_
    refine s_getR (Tb := TX7) rfl inX7 (by decide) w_496 dX7_takeAct_79 ?_
    refine s_bipush dX7_takeAct_82 (by decide) ?_
    refine s_iload_n dX7_takeAct_84 rfl ?_
    refine s_imul dX7_takeAct_85 ?_
    refine s_iload_n dX7_takeAct_86 rfl ?_
    refine s_iadd dX7_takeAct_87 ?_
    refine s_iconst dX7_takeAct_88 (by decide) ?_
    refine s_iadd dX7_takeAct_89 ?_
    refine s_ial dX7_takeAct_90 ?_
    refine s_ias dX7_takeAct_91 ?_
    refine s_iinc dX7_takeAct_92 (by decide) (by decide) ?_
    refine s_goto (tgt := 58) dX7_takeAct_95 (by decide) ?_
    exact hk0
theorem t_X7_takeAct_r (n : Nat) : xS p l e R s m args below meth c cX7_takeAct 3 (some .int) yX7_takeAct.cls yX7_takeAct.name 0 0 D cA b0 hs res (xMQ D cA b0 below args s hs res) (r_X7_takeAct b0 n 0) 58 := by
  induction n with
  | zero => exact fun ls st h hT => by cases hT
  | succ n ih => exact t_X7_takeAct_58 (r_X7_takeAct b0 n) ih
theorem m_X7_takeAct (l : Launch) (D : va_G) (cA : Nat → ClassId) (b0 : Nat) : xMet l D cA b0 yX7_takeAct (.code yX7_takeAct cX7_takeAct 3 (some .int) :: xTB) 0 0 (f_X7_takeAct b0) :=
  xMet_of (n := 2) (by decide +kernel) (by decide) (fun p e R s m args below meth c hs res => t_X7_takeAct_0 (r_X7_takeAct b0 64) (t_X7_takeAct_r 64))
end M_X7_takeAct
section M_X7_sendAct
variable {p : Program} {l : Launch} {e : Env} {R : Room} {s : State} {m : MethodId} {args : Array Value} {below : List Frame} {meth : Method} {c : Code} {D : va_G} {cA : Nat → ClassId} {b0 : Nat} {hs : xH} {res : Option xV × xH}
set_option maxRecDepth 20000 in
theorem t_X7_sendAct_0  : xS p l e R s m args below meth c cX7_sendAct 4 (some .int) yX7_sendAct.cls yX7_sendAct.name 2 43 D cA b0 hs res (xMQ D cA b0 below args s hs res) (k_X7_sendAct_0 b0) 0 := by
  unfold k_X7_sendAct_0
  refine s_aload_n dX7_sendAct_0 rfl ?_
  refine s_iload_n dX7_sendAct_1 rfl ?_
  refine s_callV (Tb := TX7) (m_X7_isTask l D cA b0) rfl w_604 w_606 w_12 w_29 w_607 ⟨rfl, by decide, by decide, by decide +kernel⟩ (by decide) dX7_sendAct_2 ?_
  refine s_c1ne (tgt := 10) dX7_sendAct_5 (by decide) ?_ ?_
  · refine s_aload_n dX7_sendAct_10 rfl ?_
    refine s_getR (Tb := TX7) rfl inX7 (by decide) w_480 dX7_sendAct_11 ?_
    refine s_iload_n dX7_sendAct_14 rfl ?_
    refine s_ial dX7_sendAct_15 ?_
    refine s_callS (m_X7_isOver l D cA b0) w_648 w_649 w_29 w_650 ⟨rfl, by decide, by decide, by decide +kernel⟩ (by decide) dX7_sendAct_16 ?_
    refine s_c1eq (tgt := 34) dX7_sendAct_19 (by decide) ?_ ?_
    · refine s_aload_n dX7_sendAct_34 rfl ?_
      refine s_getR (Tb := TX7) rfl inX7 (by decide) w_495 dX7_sendAct_35 ?_
      refine s_iload_n dX7_sendAct_38 rfl ?_
      refine s_ial dX7_sendAct_39 ?_
      refine s_bipush dX7_sendAct_40 (by decide) ?_
      refine s_c2ne (tgt := 48) dX7_sendAct_42 (by decide) ?_ ?_
      · refine s_aload_n dX7_sendAct_48 rfl ?_
        refine s_getR (Tb := TX7) rfl inX7 (by decide) w_496 dX7_sendAct_49 ?_
        refine s_bipush dX7_sendAct_52 (by decide) ?_
        refine s_iload_n dX7_sendAct_54 rfl ?_
        refine s_imul dX7_sendAct_55 ?_
        refine s_aload_n dX7_sendAct_56 rfl ?_
        refine s_getR (Tb := TX7) rfl inX7 (by decide) w_495 dX7_sendAct_57 ?_
        refine s_iload_n dX7_sendAct_60 rfl ?_
        refine s_ial dX7_sendAct_61 ?_
        refine s_iadd dX7_sendAct_62 ?_
        refine s_aload_n dX7_sendAct_63 rfl ?_
        refine s_getR (Tb := TX7) rfl inX7 (by decide) w_486 dX7_sendAct_64 ?_
        refine s_iload_n dX7_sendAct_67 rfl ?_
        refine s_ial dX7_sendAct_68 ?_
        refine s_iload_n dX7_sendAct_69 rfl ?_
        refine s_iadd dX7_sendAct_70 ?_
        refine s_ias dX7_sendAct_71 ?_
        refine s_aload_n dX7_sendAct_72 rfl ?_
        refine s_getR (Tb := TX7) rfl inX7 (by decide) w_495 dX7_sendAct_73 ?_
        refine s_iload_n dX7_sendAct_76 rfl ?_
        refine s_dup2 dX7_sendAct_77 ?_
        refine s_ial dX7_sendAct_78 ?_
        refine s_iconst dX7_sendAct_79 (by decide) ?_
        refine s_iadd dX7_sendAct_80 ?_
        refine s_ias dX7_sendAct_81 ?_
        refine s_iconst dX7_sendAct_82 (by decide) ?_
        exact s_retI rfl dX7_sendAct_83
      · refine s_bipush dX7_sendAct_45 (by decide) ?_
        exact s_retI rfl dX7_sendAct_47
    · refine s_aload_n dX7_sendAct_22 rfl ?_
      refine s_dup dX7_sendAct_23 ?_
      refine s_getI (Tb := TX7) rfl inX7 (by decide) w_509 dX7_sendAct_24 ?_
      refine s_iconst dX7_sendAct_27 (by decide) ?_
      refine s_iadd dX7_sendAct_28 ?_
      refine s_putI (Tb := TX7) rfl inX7 (by decide) w_509 tyX7 tyX7_ok nmX7 rfl rfl dX7_sendAct_29 ?_
      refine s_iconst dX7_sendAct_32 (by decide) ?_
      exact s_retI rfl dX7_sendAct_33
  · refine s_iconst dX7_sendAct_8 (by decide) ?_
    exact s_retI rfl dX7_sendAct_9
theorem m_X7_sendAct (l : Launch) (D : va_G) (cA : Nat → ClassId) (b0 : Nat) : xMet l D cA b0 yX7_sendAct (.code yX7_sendAct cX7_sendAct 4 (some .int) :: xTB) 2 43 (f_X7_sendAct b0) :=
  xMet_of (n := 4) (by decide +kernel) (by decide) (fun p e R s m args below meth c hs res => t_X7_sendAct_0)
end M_X7_sendAct
section M_X7_mark
variable {p : Program} {l : Launch} {e : Env} {R : Room} {s : State} {m : MethodId} {args : Array Value} {below : List Frame} {meth : Method} {c : Code} {D : va_G} {cA : Nat → ClassId} {b0 : Nat} {hs : xH} {res : Option xV × xH}
set_option maxRecDepth 20000 in
theorem t_X7_mark_0 (k : Nat → xK) (hk0 : xS p l e R s m args below meth c cX7_mark 3 none yX7_mark.cls yX7_mark.name 0 0 D cA b0 hs res (xMQ D cA b0 below args s hs res) (k 0) 40) : xS p l e R s m args below meth c cX7_mark 3 none yX7_mark.cls yX7_mark.name 0 0 D cA b0 hs res (xMQ D cA b0 below args s hs res) (k_X7_mark_0 b0 k) 0 := by
  unfold k_X7_mark_0
  refine s_aload_n dX7_mark_0 rfl ?_
  refine s_getR (Tb := TX7) rfl inX7 (by decide) w_489 dX7_mark_1 ?_
  refine s_iload_n dX7_mark_4 rfl ?_
  refine s_aload_n dX7_mark_5 rfl ?_
  refine s_getR (Tb := TX7) rfl inX7 (by decide) w_486 dX7_mark_6 ?_
  refine s_iload_n dX7_mark_9 rfl ?_
  refine s_ial dX7_mark_10 ?_
  refine s_ias dX7_mark_11 ?_
  refine s_aload_n dX7_mark_12 rfl ?_
  refine s_getR (Tb := TX7) rfl inX7 (by decide) w_490 dX7_mark_13 ?_
  refine s_iload_n dX7_mark_16 rfl ?_
  refine s_aload_n dX7_mark_17 rfl ?_
  refine s_getR (Tb := TX7) rfl inX7 (by decide) w_485 dX7_mark_18 ?_
  refine s_iload_n dX7_mark_21 rfl ?_
  refine s_ial dX7_mark_22 ?_
  refine s_iconst dX7_mark_23 (by decide) ?_
  refine s_iadd dX7_mark_24 ?_
  refine s_ias dX7_mark_25 ?_
  refine s_aload_n dX7_mark_26 rfl ?_
  refine s_getR (Tb := TX7) rfl inX7 (by decide) w_491 dX7_mark_27 ?_
  refine s_iload_n dX7_mark_30 rfl ?_
  refine s_aload_n dX7_mark_31 rfl ?_
  refine s_getR (Tb := TX7) rfl inX7 (by decide) w_487 dX7_mark_32 ?_
  refine s_iload_n dX7_mark_35 rfl ?_
  refine s_ial dX7_mark_36 ?_
  refine s_ias dX7_mark_37 ?_
  refine s_iconst dX7_mark_38 (by decide) ?_
  refine s_istore_n dX7_mark_39 rfl (by decide) ?_
  exact hk0
set_option maxRecDepth 20000 in
theorem t_X7_mark_40 (k : Nat → xK) (hk0 : xS p l e R s m args below meth c cX7_mark 3 none yX7_mark.cls yX7_mark.name 0 0 D cA b0 hs res (xMQ D cA b0 below args s hs res) (k 0) 40) : xS p l e R s m args below meth c cX7_mark 3 none yX7_mark.cls yX7_mark.name 0 0 D cA b0 hs res (xMQ D cA b0 below args s hs res) (k_X7_mark_40 b0 k) 40 := by
  unfold k_X7_mark_40
  refine s_iload_n dX7_mark_40 rfl ?_
  refine s_aload_n dX7_mark_41 rfl ?_
  refine s_getR (Tb := TX7) rfl inX7 (by decide) w_487 dX7_mark_42 ?_
  refine s_iload_n dX7_mark_45 rfl ?_
  refine s_ial dX7_mark_46 ?_
  refine s_c2ge (tgt := 78) dX7_mark_47 (by decide) ?_ ?_
  · exact s_retV rfl dX7_mark_78
  · refine s_aload_n dX7_mark_50 rfl ?_
    refine s_getR (Tb := TX7) rfl inX7 (by decide) w_492 dX7_mark_51 ?_
    refine s_bipush dX7_mark_54 (by decide) ?_
    refine s_iload_n dX7_mark_56 rfl ?_
    refine s_imul dX7_mark_57 ?_
    refine s_iload_n dX7_mark_58 rfl ?_
    refine s_iadd dX7_mark_59 ?_
    refine s_aload_n dX7_mark_60 rfl ?_
    refine s_getR (Tb := TX7) rfl inX7 (by decide) w_488 dX7_mark_61 ?_
    refine s_bipush dX7_mark_64 (by decide) ?_
    refine s_iload_n dX7_mark_66 rfl ?_
    refine s_imul dX7_mark_67 ?_
    refine s_iload_n dX7_mark_68 rfl ?_
    refine s_iadd dX7_mark_69 ?_
    refine s_ial dX7_mark_70 ?_
    refine s_ias dX7_mark_71 ?_
    refine s_iinc dX7_mark_72 (by decide) (by decide) ?_
    refine s_goto (tgt := 40) dX7_mark_75 (by decide) ?_
    exact hk0
theorem t_X7_mark_r (n : Nat) : xS p l e R s m args below meth c cX7_mark 3 none yX7_mark.cls yX7_mark.name 0 0 D cA b0 hs res (xMQ D cA b0 below args s hs res) (r_X7_mark b0 n 0) 40 := by
  induction n with
  | zero => exact fun ls st h hT => by cases hT
  | succ n ih => exact t_X7_mark_40 (r_X7_mark b0 n) ih
theorem m_X7_mark (l : Launch) (D : va_G) (cA : Nat → ClassId) (b0 : Nat) : xMet l D cA b0 yX7_mark (.code yX7_mark cX7_mark 3 none :: xTB) 0 0 (f_X7_mark b0) :=
  xMet_of (n := 2) (by decide +kernel) (by decide) (fun p e R s m args below meth c hs res => t_X7_mark_0 (r_X7_mark b0 64) (t_X7_mark_r 64))
end M_X7_mark
section M_X7_back
variable {p : Program} {l : Launch} {e : Env} {R : Room} {s : State} {m : MethodId} {args : Array Value} {below : List Frame} {meth : Method} {c : Code} {D : va_G} {cA : Nat → ClassId} {b0 : Nat} {hs : xH} {res : Option xV × xH}
set_option maxRecDepth 20000 in
theorem t_X7_back_0 (k : Nat → xK) (hk0 : xS p l e R s m args below meth c cX7_back 3 none yX7_back.cls yX7_back.name 0 0 D cA b0 hs res (xMQ D cA b0 below args s hs res) (k 0) 38) : xS p l e R s m args below meth c cX7_back 3 none yX7_back.cls yX7_back.name 0 0 D cA b0 hs res (xMQ D cA b0 below args s hs res) (k_X7_back_0 b0 k) 0 := by
  unfold k_X7_back_0
  refine s_aload_n dX7_back_0 rfl ?_
  refine s_getR (Tb := TX7) rfl inX7 (by decide) w_486 dX7_back_1 ?_
  refine s_iload_n dX7_back_4 rfl ?_
  refine s_aload_n dX7_back_5 rfl ?_
  refine s_getR (Tb := TX7) rfl inX7 (by decide) w_489 dX7_back_6 ?_
  refine s_iload_n dX7_back_9 rfl ?_
  refine s_ial dX7_back_10 ?_
  refine s_ias dX7_back_11 ?_
  refine s_aload_n dX7_back_12 rfl ?_
  refine s_getR (Tb := TX7) rfl inX7 (by decide) w_485 dX7_back_13 ?_
  refine s_iload_n dX7_back_16 rfl ?_
  refine s_aload_n dX7_back_17 rfl ?_
  refine s_getR (Tb := TX7) rfl inX7 (by decide) w_490 dX7_back_18 ?_
  refine s_iload_n dX7_back_21 rfl ?_
  refine s_ial dX7_back_22 ?_
  refine s_ias dX7_back_23 ?_
  refine s_aload_n dX7_back_24 rfl ?_
  refine s_getR (Tb := TX7) rfl inX7 (by decide) w_487 dX7_back_25 ?_
  refine s_iload_n dX7_back_28 rfl ?_
  refine s_aload_n dX7_back_29 rfl ?_
  refine s_getR (Tb := TX7) rfl inX7 (by decide) w_491 dX7_back_30 ?_
  refine s_iload_n dX7_back_33 rfl ?_
  refine s_ial dX7_back_34 ?_
  refine s_ias dX7_back_35 ?_
  refine s_iconst dX7_back_36 (by decide) ?_
  refine s_istore_n dX7_back_37 rfl (by decide) ?_
  exact hk0
set_option maxRecDepth 20000 in
theorem t_X7_back_38 (k : Nat → xK) (hk0 : xS p l e R s m args below meth c cX7_back 3 none yX7_back.cls yX7_back.name 0 0 D cA b0 hs res (xMQ D cA b0 below args s hs res) (k 0) 38) : xS p l e R s m args below meth c cX7_back 3 none yX7_back.cls yX7_back.name 0 0 D cA b0 hs res (xMQ D cA b0 below args s hs res) (k_X7_back_38 b0 k) 38 := by
  unfold k_X7_back_38
  refine s_iload_n dX7_back_38 rfl ?_
  refine s_aload_n dX7_back_39 rfl ?_
  refine s_getR (Tb := TX7) rfl inX7 (by decide) w_487 dX7_back_40 ?_
  refine s_iload_n dX7_back_43 rfl ?_
  refine s_ial dX7_back_44 ?_
  refine s_c2ge (tgt := 76) dX7_back_45 (by decide) ?_ ?_
  · exact s_retV rfl dX7_back_76
  · refine s_aload_n dX7_back_48 rfl ?_
    refine s_getR (Tb := TX7) rfl inX7 (by decide) w_488 dX7_back_49 ?_
    refine s_bipush dX7_back_52 (by decide) ?_
    refine s_iload_n dX7_back_54 rfl ?_
    refine s_imul dX7_back_55 ?_
    refine s_iload_n dX7_back_56 rfl ?_
    refine s_iadd dX7_back_57 ?_
    refine s_aload_n dX7_back_58 rfl ?_
    refine s_getR (Tb := TX7) rfl inX7 (by decide) w_492 dX7_back_59 ?_
    refine s_bipush dX7_back_62 (by decide) ?_
    refine s_iload_n dX7_back_64 rfl ?_
    refine s_imul dX7_back_65 ?_
    refine s_iload_n dX7_back_66 rfl ?_
    refine s_iadd dX7_back_67 ?_
    refine s_ial dX7_back_68 ?_
    refine s_ias dX7_back_69 ?_
    refine s_iinc dX7_back_70 (by decide) (by decide) ?_
    refine s_goto (tgt := 38) dX7_back_73 (by decide) ?_
    exact hk0
theorem t_X7_back_r (n : Nat) : xS p l e R s m args below meth c cX7_back 3 none yX7_back.cls yX7_back.name 0 0 D cA b0 hs res (xMQ D cA b0 below args s hs res) (r_X7_back b0 n 0) 38 := by
  induction n with
  | zero => exact fun ls st h hT => by cases hT
  | succ n ih => exact t_X7_back_38 (r_X7_back b0 n) ih
theorem m_X7_back (l : Launch) (D : va_G) (cA : Nat → ClassId) (b0 : Nat) : xMet l D cA b0 yX7_back (.code yX7_back cX7_back 3 none :: xTB) 0 0 (f_X7_back b0) :=
  xMet_of (n := 2) (by decide +kernel) (by decide) (fun p e R s m args below meth c hs res => t_X7_back_0 (r_X7_back b0 64) (t_X7_back_r 64))
end M_X7_back
section M_X7_boxAct
variable {p : Program} {l : Launch} {e : Env} {R : Room} {s : State} {m : MethodId} {args : Array Value} {below : List Frame} {meth : Method} {c : Code} {D : va_G} {cA : Nat → ClassId} {b0 : Nat} {hs : xH} {res : Option xV × xH}
set_option maxRecDepth 20000 in
theorem t_X7_boxAct_94 (k : Nat → xK) (hk0 : xS p l e R s m args below meth c cX7_boxAct 7 (some .int) yX7_boxAct.cls yX7_boxAct.name 2 43 D cA b0 hs res (xMQ D cA b0 below args s hs res) (k 0) 30) : xS p l e R s m args below meth c cX7_boxAct 7 (some .int) yX7_boxAct.cls yX7_boxAct.name 2 43 D cA b0 hs res (xMQ D cA b0 below args s hs res) (k_X7_boxAct_94 b0 k) 94 := by
  unfold k_X7_boxAct_94
  refine s_istore dX7_boxAct_94 (by decide) ?_
  refine s_aload_n dX7_boxAct_96 rfl ?_
  refine s_getR (Tb := TX7) rfl inX7 (by decide) w_493 dX7_boxAct_97 ?_
  refine s_iload_n dX7_boxAct_100 rfl ?_
  refine s_ial dX7_boxAct_101 ?_
  refine s_iconst dX7_boxAct_102 (by decide) ?_
  refine s_iload dX7_boxAct_103 ?_
  refine s_isub dX7_boxAct_105 ?_
  refine s_c2ne (tgt := 111) dX7_boxAct_106 (by decide) ?_ ?_
  · refine s_aload_n dX7_boxAct_111 rfl ?_
    refine s_getR (Tb := TX7) rfl inX7 (by decide) w_493 dX7_boxAct_112 ?_
    refine s_iload_n dX7_boxAct_115 rfl ?_
    refine s_ial dX7_boxAct_116 ?_
    refine s_bipush dX7_boxAct_117 (by decide) ?_
    refine s_c2ne (tgt := 124) dX7_boxAct_119 (by decide) ?_ ?_
    · refine s_iload_n dX7_boxAct_124 rfl ?_
      refine s_iconst dX7_boxAct_125 (by decide) ?_
      refine s_iconst dX7_boxAct_126 (by decide) ?_
      refine s_callS (m_X7_in l D cA b0) w_597 w_598 w_29 w_599 ⟨rfl, by decide, by decide, by decide +kernel⟩ (by decide) dX7_boxAct_127 ?_
      refine s_c1ne (tgt := 135) dX7_boxAct_130 (by decide) ?_ ?_
      · refine s_iload_n dX7_boxAct_135 rfl ?_
        refine s_bipush dX7_boxAct_136 (by decide) ?_
        refine s_c2ne (tgt := 156) dX7_boxAct_138 (by decide) ?_ ?_
        · refine s_iload_n dX7_boxAct_156 rfl ?_
          refine s_bipush dX7_boxAct_157 (by decide) ?_
          refine s_c2ne (tgt := 181) dX7_boxAct_159 (by decide) ?_ ?_
          · refine s_aload_n dX7_boxAct_181 rfl ?_
            refine s_getR (Tb := TX7) rfl inX7 (by decide) w_494 dX7_boxAct_182 ?_
            refine s_iconst dX7_boxAct_185 (by decide) ?_
            refine s_iload_n dX7_boxAct_186 rfl ?_
            refine s_imul dX7_boxAct_187 ?_
            refine s_iload_n dX7_boxAct_188 rfl ?_
            refine s_iadd dX7_boxAct_189 ?_
            refine s_ial dX7_boxAct_190 ?_
            refine s_istore dX7_boxAct_191 (by decide) ?_
            refine s_iload dX7_boxAct_193 ?_
            refine s_bipush dX7_boxAct_195 (by decide) ?_
            refine s_c2ne (tgt := 202) dX7_boxAct_197 (by decide) ?_ ?_
            · refine s_aload_n dX7_boxAct_202 rfl ?_
              refine s_getR (Tb := TX7) rfl inX7 (by decide) w_486 dX7_boxAct_203 ?_
              refine s_iload_n dX7_boxAct_206 rfl ?_
              refine s_dup2 dX7_boxAct_207 ?_
              refine s_ial dX7_boxAct_208 ?_
              refine s_aload_n dX7_boxAct_209 rfl ?_
              refine s_getR (Tb := TX7) rfl inX7 (by decide) w_486 dX7_boxAct_210 ?_
              refine s_iload dX7_boxAct_213 ?_
              refine s_ial dX7_boxAct_215 ?_
              refine s_iadd dX7_boxAct_216 ?_
              refine s_ias dX7_boxAct_217 ?_
              refine s_iconst dX7_boxAct_218 (by decide) ?_
              exact s_retI rfl dX7_boxAct_219
            · refine s_iconst dX7_boxAct_200 (by decide) ?_
              exact s_retI rfl dX7_boxAct_201
          · refine s_aload_n dX7_boxAct_162 rfl ?_
            refine s_getR (Tb := TX7) rfl inX7 (by decide) w_494 dX7_boxAct_163 ?_
            refine s_iconst dX7_boxAct_166 (by decide) ?_
            refine s_iload_n dX7_boxAct_167 rfl ?_
            refine s_imul dX7_boxAct_168 ?_
            refine s_iload_n dX7_boxAct_169 rfl ?_
            refine s_iadd dX7_boxAct_170 ?_
            refine s_aload_n dX7_boxAct_171 rfl ?_
            refine s_getR (Tb := TX7) rfl inX7 (by decide) w_486 dX7_boxAct_172 ?_
            refine s_iload_n dX7_boxAct_175 rfl ?_
            refine s_ial dX7_boxAct_176 ?_
            refine s_ias dX7_boxAct_177 ?_
            refine s_goto (tgt := 218) dX7_boxAct_178 (by decide) ?_
            refine s_iconst dX7_boxAct_218 (by decide) ?_
            exact s_retI rfl dX7_boxAct_219
        · refine s_aload_n dX7_boxAct_141 rfl ?_
          refine s_getR (Tb := TX7) rfl inX7 (by decide) w_494 dX7_boxAct_142 ?_
          refine s_iconst dX7_boxAct_145 (by decide) ?_
          refine s_iload_n dX7_boxAct_146 rfl ?_
          refine s_imul dX7_boxAct_147 ?_
          refine s_iload_n dX7_boxAct_148 rfl ?_
          refine s_iadd dX7_boxAct_149 ?_
          refine s_iload dX7_boxAct_150 ?_
          refine s_ias dX7_boxAct_152 ?_
          refine s_goto (tgt := 218) dX7_boxAct_153 (by decide) ?_
          refine s_iconst dX7_boxAct_218 (by decide) ?_
          exact s_retI rfl dX7_boxAct_219
      · refine s_iconst dX7_boxAct_133 (by decide) ?_
        exact s_retI rfl dX7_boxAct_134
    · refine s_iconst dX7_boxAct_122 (by decide) ?_
      exact s_retI rfl dX7_boxAct_123
  · refine s_iconst dX7_boxAct_109 (by decide) ?_
    exact s_retI rfl dX7_boxAct_110
set_option maxRecDepth 20000 in
theorem t_X7_boxAct_83 (k : Nat → xK) (hk0 : xS p l e R s m args below meth c cX7_boxAct 7 (some .int) yX7_boxAct.cls yX7_boxAct.name 2 43 D cA b0 hs res (xMQ D cA b0 below args s hs res) (k 0) 30) : xS p l e R s m args below meth c cX7_boxAct 7 (some .int) yX7_boxAct.cls yX7_boxAct.name 2 43 D cA b0 hs res (xMQ D cA b0 below args s hs res) (k_X7_boxAct_83 b0 k) 83 := by
  unfold k_X7_boxAct_83
  refine s_iload_n dX7_boxAct_83 rfl ?_
  refine s_bipush dX7_boxAct_84 (by decide) ?_
  refine s_c2ne (tgt := 93) dX7_boxAct_86 (by decide) ?_ ?_
  · refine s_iconst dX7_boxAct_93 (by decide) ?_
    exact t_X7_boxAct_94 k hk0
  · refine s_iconst dX7_boxAct_89 (by decide) ?_
    refine s_goto (tgt := 94) dX7_boxAct_90 (by decide) ?_
    exact t_X7_boxAct_94 k hk0
set_option maxRecDepth 20000 in
theorem t_X7_boxAct_20 (k : Nat → xK) (hk0 : xS p l e R s m args below meth c cX7_boxAct 7 (some .int) yX7_boxAct.cls yX7_boxAct.name 2 43 D cA b0 hs res (xMQ D cA b0 below args s hs res) (k 0) 30) : xS p l e R s m args below meth c cX7_boxAct 7 (some .int) yX7_boxAct.cls yX7_boxAct.name 2 43 D cA b0 hs res (xMQ D cA b0 below args s hs res) (k_X7_boxAct_20 b0 k) 20 := by
  unfold k_X7_boxAct_20
  refine s_iload_n dX7_boxAct_20 rfl ?_
  refine s_goto (tgt := 26) dX7_boxAct_21 (by decide) ?_
  refine s_ias dX7_boxAct_26 ?_
  refine s_iconst dX7_boxAct_27 (by decide) ?_
  refine s_istore dX7_boxAct_28 (by decide) ?_
  exact hk0
set_option maxRecDepth 20000 in
theorem t_X7_boxAct_0 (k : Nat → xK) (hk0 : xS p l e R s m args below meth c cX7_boxAct 7 (some .int) yX7_boxAct.cls yX7_boxAct.name 2 43 D cA b0 hs res (xMQ D cA b0 below args s hs res) (k 0) 30) : xS p l e R s m args below meth c cX7_boxAct 7 (some .int) yX7_boxAct.cls yX7_boxAct.name 2 43 D cA b0 hs res (xMQ D cA b0 below args s hs res) (k_X7_boxAct_0 b0 k) 0 := by
  unfold k_X7_boxAct_0
  refine s_iload_n dX7_boxAct_0 rfl ?_
  refine s_bipush dX7_boxAct_1 (by decide) ?_
  refine s_c2ne (tgt := 66) dX7_boxAct_3 (by decide) ?_ ?_
  · refine s_iload_n dX7_boxAct_66 rfl ?_
    refine s_bipush dX7_boxAct_67 (by decide) ?_
    refine s_c2ne (tgt := 83) dX7_boxAct_69 (by decide) ?_ ?_
    · exact t_X7_boxAct_83 k hk0
    · refine s_aload_n dX7_boxAct_72 rfl ?_
      refine s_iload dX7_boxAct_73 ?_
      refine s_callV (Tb := TX7) (m_X7_isTask l D cA b0) rfl w_604 w_606 w_12 w_29 w_607 ⟨rfl, by decide, by decide, by decide +kernel⟩ (by decide) dX7_boxAct_75 ?_
      refine s_c1ne (tgt := 83) dX7_boxAct_78 (by decide) ?_ ?_
      · exact t_X7_boxAct_83 k hk0
      · refine s_iconst dX7_boxAct_81 (by decide) ?_
        exact s_retI rfl dX7_boxAct_82
  · refine s_aload_n dX7_boxAct_6 rfl ?_
    refine s_getR (Tb := TX7) rfl inX7 (by decide) w_493 dX7_boxAct_7 ?_
    refine s_iload_n dX7_boxAct_10 rfl ?_
    refine s_iload_n dX7_boxAct_11 rfl ?_
    refine s_c1eq (tgt := 20) dX7_boxAct_12 (by decide) ?_ ?_
    · exact t_X7_boxAct_20 k hk0
    · refine s_iload_n dX7_boxAct_15 rfl ?_
      refine s_iconst dX7_boxAct_16 (by decide) ?_
      refine s_c2ne (tgt := 24) dX7_boxAct_17 (by decide) ?_ ?_
      · refine s_bipush dX7_boxAct_24 (by decide) ?_
        refine s_ias dX7_boxAct_26 ?_
        refine s_iconst dX7_boxAct_27 (by decide) ?_
        refine s_istore dX7_boxAct_28 (by decide) ?_
        exact hk0
      · exact t_X7_boxAct_20 k hk0
set_option maxRecDepth 20000 in
theorem t_X7_boxAct_30 (k : Nat → xK) (hk0 : xS p l e R s m args below meth c cX7_boxAct 7 (some .int) yX7_boxAct.cls yX7_boxAct.name 2 43 D cA b0 hs res (xMQ D cA b0 below args s hs res) (k 0) 30) : xS p l e R s m args below meth c cX7_boxAct 7 (some .int) yX7_boxAct.cls yX7_boxAct.name 2 43 D cA b0 hs res (xMQ D cA b0 below args s hs res) (k_X7_boxAct_30 b0 k) 30 := by
  unfold k_X7_boxAct_30
  refine s_iload dX7_boxAct_30 ?_
  refine s_iconst dX7_boxAct_32 (by decide) ?_
  refine s_c2ge (tgt := 64) dX7_boxAct_33 (by decide) ?_ ?_
  · refine s_iconst dX7_boxAct_64 (by decide) ?_
    exact s_retI rfl dX7_boxAct_65
  · refine s_aload_n dX7_boxAct_36 rfl ?_
    refine s_getR (Tb := TX7) rfl inX7 (by decide) w_494 dX7_boxAct_37 ?_
    refine s_iconst dX7_boxAct_40 (by decide) ?_
    refine s_iload_n dX7_boxAct_41 rfl ?_
    refine s_imul dX7_boxAct_42 ?_
    refine s_iload dX7_boxAct_43 ?_
    refine s_iadd dX7_boxAct_45 ?_
    refine s_iload_n dX7_boxAct_46 rfl ?_
    refine s_iconst dX7_boxAct_47 (by decide) ?_
    refine s_c2ne (tgt := 56) dX7_boxAct_48 (by decide) ?_ ?_
    · refine s_iconst dX7_boxAct_56 (by decide) ?_
      refine s_ias dX7_boxAct_57 ?_
      refine s_iinc dX7_boxAct_58 (by decide) (by decide) ?_
      refine s_goto (tgt := 30) dX7_boxAct_61 (by decide) ?_
      exact hk0
    · refine s_bipush dX7_boxAct_51 (by decide) ?_
      refine s_goto (tgt := 57) dX7_boxAct_53 (by decide) ?_
      refine s_ias dX7_boxAct_57 ?_
      refine s_iinc dX7_boxAct_58 (by decide) (by decide) ?_
      refine s_goto (tgt := 30) dX7_boxAct_61 (by decide) ?_
      exact hk0
theorem t_X7_boxAct_r (n : Nat) : xS p l e R s m args below meth c cX7_boxAct 7 (some .int) yX7_boxAct.cls yX7_boxAct.name 2 43 D cA b0 hs res (xMQ D cA b0 below args s hs res) (r_X7_boxAct b0 n 0) 30 := by
  induction n with
  | zero => exact fun ls st h hT => by cases hT
  | succ n ih => exact t_X7_boxAct_30 (r_X7_boxAct b0 n) ih
theorem m_X7_boxAct (l : Launch) (D : va_G) (cA : Nat → ClassId) (b0 : Nat) : xMet l D cA b0 yX7_boxAct (.code yX7_boxAct cX7_boxAct 7 (some .int) :: xTB) 2 43 (f_X7_boxAct b0) :=
  xMet_of (n := 5) (by decide +kernel) (by decide) (fun p e R s m args below meth c hs res => t_X7_boxAct_0 (r_X7_boxAct b0 64) (t_X7_boxAct_r 64))
end M_X7_boxAct
section M_X7_copyAct
variable {p : Program} {l : Launch} {e : Env} {R : Room} {s : State} {m : MethodId} {args : Array Value} {below : List Frame} {meth : Method} {c : Code} {D : va_G} {cA : Nat → ClassId} {b0 : Nat} {hs : xH} {res : Option xV × xH}
set_option maxRecDepth 20000 in
theorem t_X7_copyAct_0 (k : Nat → xK) (hk0 : xS p l e R s m args below meth c cX7_copyAct 4 (some .int) yX7_copyAct.cls yX7_copyAct.name 0 0 D cA b0 hs res (xMQ D cA b0 below args s hs res) (k 0) 59) : xS p l e R s m args below meth c cX7_copyAct 4 (some .int) yX7_copyAct.cls yX7_copyAct.name 0 0 D cA b0 hs res (xMQ D cA b0 below args s hs res) (k_X7_copyAct_0 b0 k) 0 := by
  unfold k_X7_copyAct_0
  refine s_aload_n dX7_copyAct_0 rfl ?_
  refine s_getR (Tb := TX7) rfl inX7 (by decide) w_487 dX7_copyAct_1 ?_
  refine s_iload_n dX7_copyAct_4 rfl ?_
  refine s_ial dX7_copyAct_5 ?_
  refine s_bipush dX7_copyAct_6 (by decide) ?_
  refine s_c2eq (tgt := 22) dX7_copyAct_8 (by decide) ?_ ?_
  · refine s_iconst dX7_copyAct_22 (by decide) ?_
    exact s_retI rfl dX7_copyAct_23
  · refine s_aload_n dX7_copyAct_11 rfl ?_
    refine s_getR (Tb := TX7) rfl inX7 (by decide) w_493 dX7_copyAct_12 ?_
    refine s_iload_n dX7_copyAct_15 rfl ?_
    refine s_ial dX7_copyAct_16 ?_
    refine s_bipush dX7_copyAct_17 (by decide) ?_
    refine s_c2ne (tgt := 24) dX7_copyAct_19 (by decide) ?_ ?_
    · refine s_aload_n dX7_copyAct_24 rfl ?_
      refine s_getR (Tb := TX7) rfl inX7 (by decide) w_493 dX7_copyAct_25 ?_
      refine s_iload_n dX7_copyAct_28 rfl ?_
      refine s_ial dX7_copyAct_29 ?_
      refine s_iconst dX7_copyAct_30 (by decide) ?_
      refine s_c2ne (tgt := 36) dX7_copyAct_31 (by decide) ?_ ?_
      · refine s_iload_n dX7_copyAct_36 rfl ?_
        refine s_c1lt (tgt := 55) dX7_copyAct_37 (by decide) ?_ ?_
        · refine s_iconst dX7_copyAct_55 (by decide) ?_
          exact s_retI rfl dX7_copyAct_56
        · refine s_iload_n dX7_copyAct_40 rfl ?_
          refine s_iconst dX7_copyAct_41 (by decide) ?_
          refine s_c2gt (tgt := 55) dX7_copyAct_42 (by decide) ?_ ?_
          · refine s_iconst dX7_copyAct_55 (by decide) ?_
            exact s_retI rfl dX7_copyAct_56
          · refine s_iload_n dX7_copyAct_45 rfl ?_
            refine s_aload_n dX7_copyAct_46 rfl ?_
            refine s_getR (Tb := TX7) rfl inX7 (by decide) w_487 dX7_copyAct_47 ?_
            refine s_iload_n dX7_copyAct_50 rfl ?_
            refine s_ial dX7_copyAct_51 ?_
            refine s_c2le (tgt := 57) dX7_copyAct_52 (by decide) ?_ ?_
            · refine s_iconst dX7_copyAct_57 (by decide) ?_
              refine s_istore_n dX7_copyAct_58 rfl (by decide) ?_
              exact hk0
            · refine s_iconst dX7_copyAct_55 (by decide) ?_
              exact s_retI rfl dX7_copyAct_56
      · refine s_iconst dX7_copyAct_34 (by decide) ?_
        exact s_retI rfl dX7_copyAct_35
    · refine s_iconst dX7_copyAct_22 (by decide) ?_
      exact s_retI rfl dX7_copyAct_23
set_option maxRecDepth 20000 in
theorem t_X7_copyAct_59 (k : Nat → xK) (hk0 : xS p l e R s m args below meth c cX7_copyAct 4 (some .int) yX7_copyAct.cls yX7_copyAct.name 0 0 D cA b0 hs res (xMQ D cA b0 below args s hs res) (k 0) 59) : xS p l e R s m args below meth c cX7_copyAct 4 (some .int) yX7_copyAct.cls yX7_copyAct.name 0 0 D cA b0 hs res (xMQ D cA b0 below args s hs res) (k_X7_copyAct_59 b0 k) 59 := by
  unfold k_X7_copyAct_59
  refine s_iload_n dX7_copyAct_59 rfl ?_
  refine s_iload_n dX7_copyAct_60 rfl ?_
  refine s_c2ge (tgt := 91) dX7_copyAct_61 (by decide) ?_ ?_
  · refine s_iconst dX7_copyAct_91 (by decide) ?_
    exact s_retI rfl dX7_copyAct_92
  · refine s_aload_n dX7_copyAct_64 rfl ?_
    refine s_getR (Tb := TX7) rfl inX7 (by decide) w_494 dX7_copyAct_65 ?_
    refine s_iconst dX7_copyAct_68 (by decide) ?_
    refine s_iload_n dX7_copyAct_69 rfl ?_
    refine s_imul dX7_copyAct_70 ?_
    refine s_iload_n dX7_copyAct_71 rfl ?_
    refine s_iadd dX7_copyAct_72 ?_
    refine s_aload_n dX7_copyAct_73 rfl ?_
    refine s_getR (Tb := TX7) rfl inX7 (by decide) w_488 dX7_copyAct_74 ?_
    refine s_bipush dX7_copyAct_77 (by decide) ?_
    refine s_iload_n dX7_copyAct_79 rfl ?_
    refine s_imul dX7_copyAct_80 ?_
    refine s_iload_n dX7_copyAct_81 rfl ?_
    refine s_iadd dX7_copyAct_82 ?_
    refine s_ial dX7_copyAct_83 ?_
    refine s_ias dX7_copyAct_84 ?_
    refine s_iinc dX7_copyAct_85 (by decide) (by decide) ?_
    refine s_goto (tgt := 59) dX7_copyAct_88 (by decide) ?_
    exact hk0
theorem t_X7_copyAct_r (n : Nat) : xS p l e R s m args below meth c cX7_copyAct 4 (some .int) yX7_copyAct.cls yX7_copyAct.name 0 0 D cA b0 hs res (xMQ D cA b0 below args s hs res) (r_X7_copyAct b0 n 0) 59 := by
  induction n with
  | zero => exact fun ls st h hT => by cases hT
  | succ n ih => exact t_X7_copyAct_59 (r_X7_copyAct b0 n) ih
theorem m_X7_copyAct (l : Launch) (D : va_G) (cA : Nat → ClassId) (b0 : Nat) : xMet l D cA b0 yX7_copyAct (.code yX7_copyAct cX7_copyAct 4 (some .int) :: xTB) 0 0 (f_X7_copyAct b0) :=
  xMet_of (n := 3) (by decide +kernel) (by decide) (fun p e R s m args below meth c hs res => t_X7_copyAct_0 (r_X7_copyAct b0 64) (t_X7_copyAct_r 64))
end M_X7_copyAct
section M_X7_simple
variable {p : Program} {l : Launch} {e : Env} {R : Room} {s : State} {m : MethodId} {args : Array Value} {below : List Frame} {meth : Method} {c : Code} {D : va_G} {cA : Nat → ClassId} {b0 : Nat} {hs : xH} {res : Option xV × xH}
set_option maxRecDepth 20000 in
theorem t_X7_simple_140  : xS p l e R s m args below meth c cX7_simple 6 (some .int) yX7_simple.cls yX7_simple.name 3 69 D cA b0 hs res (xMQ D cA b0 below args s hs res) (k_X7_simple_140 b0) 140 := by
  unfold k_X7_simple_140
  refine s_iadd dX7_simple_140 ?_
  refine s_ias dX7_simple_141 ?_
  refine s_iconst dX7_simple_142 (by decide) ?_
  exact s_retI rfl dX7_simple_143
set_option maxRecDepth 20000 in
theorem t_X7_simple_131  : xS p l e R s m args below meth c cX7_simple 6 (some .int) yX7_simple.cls yX7_simple.name 3 69 D cA b0 hs res (xMQ D cA b0 below args s hs res) (k_X7_simple_131 b0) 131 := by
  unfold k_X7_simple_131
  refine s_iconst dX7_simple_131 (by decide) ?_
  refine s_iload dX7_simple_132 ?_
  refine s_imul dX7_simple_134 ?_
  refine s_goto (tgt := 140) dX7_simple_135 (by decide) ?_
  exact t_X7_simple_140
set_option maxRecDepth 20000 in
theorem t_X7_simple_104  : xS p l e R s m args below meth c cX7_simple 6 (some .int) yX7_simple.cls yX7_simple.name 3 69 D cA b0 hs res (xMQ D cA b0 below args s hs res) (k_X7_simple_104 b0) 104 := by
  unfold k_X7_simple_104
  refine s_aload_n dX7_simple_104 rfl ?_
  refine s_getR (Tb := TX7) rfl inX7 (by decide) w_486 dX7_simple_105 ?_
  refine s_iload_n dX7_simple_108 rfl ?_
  refine s_dup2 dX7_simple_109 ?_
  refine s_ial dX7_simple_110 ?_
  refine s_aload_n dX7_simple_111 rfl ?_
  refine s_getR (Tb := TX7) rfl inX7 (by decide) w_477 dX7_simple_112 ?_
  refine s_iload_n dX7_simple_115 rfl ?_
  refine s_ial dX7_simple_116 ?_
  refine s_iconst dX7_simple_117 (by decide) ?_
  refine s_c2eq (tgt := 131) dX7_simple_118 (by decide) ?_ ?_
  · exact t_X7_simple_131
  · refine s_aload_n dX7_simple_121 rfl ?_
    refine s_getR (Tb := TX7) rfl inX7 (by decide) w_477 dX7_simple_122 ?_
    refine s_iload_n dX7_simple_125 rfl ?_
    refine s_ial dX7_simple_126 ?_
    refine s_iconst dX7_simple_127 (by decide) ?_
    refine s_c2ne (tgt := 138) dX7_simple_128 (by decide) ?_ ?_
    · refine s_iload dX7_simple_138 ?_
      exact t_X7_simple_140
    · exact t_X7_simple_131
set_option maxRecDepth 20000 in
theorem t_X7_simple_144  : xS p l e R s m args below meth c cX7_simple 6 (some .int) yX7_simple.cls yX7_simple.name 3 69 D cA b0 hs res (xMQ D cA b0 below args s hs res) (k_X7_simple_144 b0) 144 := by
  unfold k_X7_simple_144
  refine s_iload dX7_simple_144 ?_
  refine s_c1ne (tgt := 152) dX7_simple_146 (by decide) ?_ ?_
  · refine s_aload_n dX7_simple_152 rfl ?_
    refine s_getR (Tb := TX7) rfl inX7 (by decide) w_486 dX7_simple_153 ?_
    refine s_iload_n dX7_simple_156 rfl ?_
    refine s_aload_n dX7_simple_157 rfl ?_
    refine s_getR (Tb := TX7) rfl inX7 (by decide) w_486 dX7_simple_158 ?_
    refine s_iload_n dX7_simple_161 rfl ?_
    refine s_ial dX7_simple_162 ?_
    refine s_iload dX7_simple_163 ?_
    refine s_idiv dX7_simple_165 ?_
    refine s_ias dX7_simple_166 ?_
    refine s_iconst dX7_simple_167 (by decide) ?_
    exact s_retI rfl dX7_simple_168
  · refine s_bipush dX7_simple_149 (by decide) ?_
    exact s_retI rfl dX7_simple_151
set_option maxRecDepth 20000 in
theorem t_X7_simple_169  : xS p l e R s m args below meth c cX7_simple 6 (some .int) yX7_simple.cls yX7_simple.name 3 69 D cA b0 hs res (xMQ D cA b0 below args s hs res) (k_X7_simple_169 b0) 169 := by
  unfold k_X7_simple_169
  refine s_aload_n dX7_simple_169 rfl ?_
  refine s_iload_n dX7_simple_170 rfl ?_
  refine s_iload_n dX7_simple_171 rfl ?_
  refine s_iload dX7_simple_172 ?_
  refine s_callV (Tb := TX7) (m_X7_rowAct l D cA b0) rfl w_636 w_638 w_18 w_29 w_639 ⟨rfl, by decide, by decide, by decide +kernel⟩ (by decide) dX7_simple_174 ?_
  exact s_retI rfl dX7_simple_177
set_option maxRecDepth 20000 in
theorem t_X7_simple_178  : xS p l e R s m args below meth c cX7_simple 6 (some .int) yX7_simple.cls yX7_simple.name 3 69 D cA b0 hs res (xMQ D cA b0 below args s hs res) (k_X7_simple_178 b0) 178 := by
  unfold k_X7_simple_178
  refine s_aload_n dX7_simple_178 rfl ?_
  refine s_iload_n dX7_simple_179 rfl ?_
  refine s_callV (Tb := TX7) (m_X7_takeAct l D cA b0) rfl w_640 w_642 w_19 w_29 w_643 ⟨rfl, by decide, by decide, by decide +kernel⟩ (by decide) dX7_simple_180 ?_
  exact s_retI rfl dX7_simple_183
set_option maxRecDepth 20000 in
theorem t_X7_simple_184  : xS p l e R s m args below meth c cX7_simple 6 (some .int) yX7_simple.cls yX7_simple.name 3 69 D cA b0 hs res (xMQ D cA b0 below args s hs res) (k_X7_simple_184 b0) 184 := by
  unfold k_X7_simple_184
  refine s_aload_n dX7_simple_184 rfl ?_
  refine s_iload_n dX7_simple_185 rfl ?_
  refine s_iload dX7_simple_186 ?_
  refine s_iload dX7_simple_188 ?_
  refine s_callV (Tb := TX7) (m_X7_sendAct l D cA b0) rfl w_644 w_646 w_20 w_29 w_647 ⟨rfl, by decide, by decide, by decide +kernel⟩ (by decide) dX7_simple_190 ?_
  exact s_retI rfl dX7_simple_193
set_option maxRecDepth 20000 in
theorem t_X7_simple_194  : xS p l e R s m args below meth c cX7_simple 6 (some .int) yX7_simple.cls yX7_simple.name 3 69 D cA b0 hs res (xMQ D cA b0 below args s hs res) (k_X7_simple_194 b0) 194 := by
  unfold k_X7_simple_194
  refine s_aload_n dX7_simple_194 rfl ?_
  refine s_iload dX7_simple_195 ?_
  refine s_c1le (tgt := 205) dX7_simple_197 (by decide) ?_ ?_
  · refine s_aload_n dX7_simple_205 rfl ?_
    refine s_getI (Tb := TX7) rfl inX7 (by decide) w_512 dX7_simple_206 ?_
    refine s_putI (Tb := TX7) rfl inX7 (by decide) w_512 tyX7 tyX7_ok nmX7 rfl rfl dX7_simple_209 ?_
    refine s_iconst dX7_simple_212 (by decide) ?_
    exact s_retI rfl dX7_simple_213
  · refine s_iload dX7_simple_200 ?_
    refine s_goto (tgt := 209) dX7_simple_202 (by decide) ?_
    refine s_putI (Tb := TX7) rfl inX7 (by decide) w_512 tyX7 tyX7_ok nmX7 rfl rfl dX7_simple_209 ?_
    refine s_iconst dX7_simple_212 (by decide) ?_
    exact s_retI rfl dX7_simple_213
set_option maxRecDepth 20000 in
theorem t_X7_simple_214  : xS p l e R s m args below meth c cX7_simple 6 (some .int) yX7_simple.cls yX7_simple.name 3 69 D cA b0 hs res (xMQ D cA b0 below args s hs res) (k_X7_simple_214 b0) 214 := by
  unfold k_X7_simple_214
  refine s_aload_n dX7_simple_214 rfl ?_
  refine s_iload_n dX7_simple_215 rfl ?_
  refine s_callV (Tb := TX7) (m_X7_mark l D cA b0) rfl w_651 w_653 w_21 w_29 w_654 ⟨rfl, by decide, by decide, by decide +kernel⟩ (by decide) dX7_simple_216 ?_
  refine s_iconst dX7_simple_219 (by decide) ?_
  exact s_retI rfl dX7_simple_220
set_option maxRecDepth 20000 in
theorem t_X7_simple_247  : xS p l e R s m args below meth c cX7_simple 6 (some .int) yX7_simple.cls yX7_simple.name 3 69 D cA b0 hs res (xMQ D cA b0 below args s hs res) (k_X7_simple_247 b0) 247 := by
  unfold k_X7_simple_247
  refine s_aload_n dX7_simple_247 rfl ?_
  refine s_iload_n dX7_simple_248 rfl ?_
  refine s_iload_n dX7_simple_249 rfl ?_
  refine s_iload dX7_simple_250 ?_
  refine s_iload dX7_simple_252 ?_
  refine s_callV (Tb := TX7) (m_X7_boxAct l D cA b0) rfl w_659 w_661 w_23 w_29 w_662 ⟨rfl, by decide, by decide, by decide +kernel⟩ (by decide) dX7_simple_254 ?_
  exact s_retI rfl dX7_simple_257
set_option maxRecDepth 20000 in
theorem t_X7_simple_221  : xS p l e R s m args below meth c cX7_simple 6 (some .int) yX7_simple.cls yX7_simple.name 3 69 D cA b0 hs res (xMQ D cA b0 below args s hs res) (k_X7_simple_221 b0) 221 := by
  unfold k_X7_simple_221
  refine s_aload_n dX7_simple_221 rfl ?_
  refine s_getR (Tb := TX7) rfl inX7 (by decide) w_486 dX7_simple_222 ?_
  refine s_iload_n dX7_simple_225 rfl ?_
  refine s_ial dX7_simple_226 ?_
  refine s_iload dX7_simple_227 ?_
  refine s_c2ge (tgt := 237) dX7_simple_229 (by decide) ?_ ?_
  · refine s_iconst dX7_simple_237 (by decide) ?_
    exact s_retI rfl dX7_simple_238
  · refine s_bipush dX7_simple_232 (by decide) ?_
    refine s_goto (tgt := 238) dX7_simple_234 (by decide) ?_
    exact s_retI rfl dX7_simple_238
set_option maxRecDepth 20000 in
theorem t_X7_simple_239  : xS p l e R s m args below meth c cX7_simple 6 (some .int) yX7_simple.cls yX7_simple.name 3 69 D cA b0 hs res (xMQ D cA b0 below args s hs res) (k_X7_simple_239 b0) 239 := by
  unfold k_X7_simple_239
  refine s_aload_n dX7_simple_239 rfl ?_
  refine s_iload_n dX7_simple_240 rfl ?_
  refine s_iload dX7_simple_241 ?_
  refine s_callV (Tb := TX7) (m_X7_copyAct l D cA b0) rfl w_655 w_657 w_22 w_29 w_658 ⟨rfl, by decide, by decide, by decide +kernel⟩ (by decide) dX7_simple_243 ?_
  exact s_retI rfl dX7_simple_246
set_option maxRecDepth 20000 in
theorem t_X7_simple_0  : xS p l e R s m args below meth c cX7_simple 6 (some .int) yX7_simple.cls yX7_simple.name 3 69 D cA b0 hs res (xMQ D cA b0 below args s hs res) (k_X7_simple_0 b0) 0 := by
  unfold k_X7_simple_0
  refine s_aload_n dX7_simple_0 rfl ?_
  refine s_getR (Tb := TX7) rfl inX7 (by decide) w_482 dX7_simple_1 ?_
  refine s_iload_n dX7_simple_4 rfl ?_
  refine s_ial dX7_simple_5 ?_
  refine s_istore_n dX7_simple_6 rfl (by decide) ?_
  refine s_aload_n dX7_simple_7 rfl ?_
  refine s_getR (Tb := TX7) rfl inX7 (by decide) w_483 dX7_simple_8 ?_
  refine s_iload_n dX7_simple_11 rfl ?_
  refine s_ial dX7_simple_12 ?_
  refine s_istore dX7_simple_13 (by decide) ?_
  refine s_aload_n dX7_simple_15 rfl ?_
  refine s_getR (Tb := TX7) rfl inX7 (by decide) w_484 dX7_simple_16 ?_
  refine s_iload_n dX7_simple_19 rfl ?_
  refine s_ial dX7_simple_20 ?_
  refine s_istore dX7_simple_21 (by decide) ?_
  refine s_iload_n dX7_simple_23 rfl ?_
  refine s_tab (tg := st_X7_simple_24) (dt := 247) dX7_simple_24 (by decide) (by decide) ?_ ?_ (t_X7_simple_247)
  · intro j hj
    match j, hj with
    | 0, _ => exact ⟨80, rfl, by decide⟩
    | 1, _ => exact ⟨120, rfl, by decide⟩
    | 2, _ => exact ⟨145, rfl, by decide⟩
    | 3, _ => exact ⟨145, rfl, by decide⟩
    | 4, _ => exact ⟨145, rfl, by decide⟩
    | 5, _ => exact ⟨154, rfl, by decide⟩
    | 6, _ => exact ⟨160, rfl, by decide⟩
    | 7, _ => exact ⟨170, rfl, by decide⟩
    | 8, _ => exact ⟨190, rfl, by decide⟩
    | 9, _ => exact ⟨223, rfl, by decide⟩
    | 10, _ => exact ⟨223, rfl, by decide⟩
    | 11, _ => exact ⟨223, rfl, by decide⟩
    | 12, _ => exact ⟨223, rfl, by decide⟩
    | 13, _ => exact ⟨223, rfl, by decide⟩
    | 14, _ => exact ⟨197, rfl, by decide⟩
    | 15, _ => exact ⟨215, rfl, by decide⟩
    | q + 16, hj => exact absurd hj (by omega)
  · intro j hj
    match j, hj with
    | 0, _ => exact t_X7_simple_104
    | 1, _ => exact t_X7_simple_144
    | 2, _ => exact t_X7_simple_169
    | 3, _ => exact t_X7_simple_169
    | 4, _ => exact t_X7_simple_169
    | 5, _ => exact t_X7_simple_178
    | 6, _ => exact t_X7_simple_184
    | 7, _ => exact t_X7_simple_194
    | 8, _ => exact t_X7_simple_214
    | 9, _ => exact t_X7_simple_247
    | 10, _ => exact t_X7_simple_247
    | 11, _ => exact t_X7_simple_247
    | 12, _ => exact t_X7_simple_247
    | 13, _ => exact t_X7_simple_247
    | 14, _ => exact t_X7_simple_221
    | 15, _ => exact t_X7_simple_239
    | q + 16, hj => exact absurd hj (by omega)
theorem m_X7_simple (l : Launch) (D : va_G) (cA : Nat → ClassId) (b0 : Nat) : xMet l D cA b0 yX7_simple (.code yX7_simple cX7_simple 6 (some .int) :: xTB) 3 69 (f_X7_simple b0) :=
  xMet_of (n := 3) (by decide +kernel) (by decide) (fun p e R s m args below meth c hs res => t_X7_simple_0)
end M_X7_simple
section M_X7_guard
variable {p : Program} {l : Launch} {e : Env} {R : Room} {s : State} {m : MethodId} {args : Array Value} {below : List Frame} {meth : Method} {c : Code} {D : va_G} {cA : Nat → ClassId} {b0 : Nat} {hs : xH} {res : Option xV × xH}
set_option maxRecDepth 20000 in
theorem t_X7_guard_0 (k : Nat → xK) (hk0 : xS p l e R s m args below meth c cX7_guard 6 (some .int) yX7_guard.cls yX7_guard.name 4 94 D cA b0 hs res (xMQ D cA b0 below args s hs res) (k 0) 10) : xS p l e R s m args below meth c cX7_guard 6 (some .int) yX7_guard.cls yX7_guard.name 4 94 D cA b0 hs res (xMQ D cA b0 below args s hs res) (k_X7_guard_0 b0 k) 0 := by
  unfold k_X7_guard_0
  refine s_iconst dX7_guard_0 (by decide) ?_
  refine s_istore_n dX7_guard_1 rfl (by decide) ?_
  refine s_aload_n dX7_guard_2 rfl ?_
  refine s_iconst dX7_guard_3 (by decide) ?_
  refine s_putZ (Tb := TX7) rfl inX7 (by decide) w_513 tyX7 tyX7_ok nmX7 rfl rfl dX7_guard_4 ?_
  refine s_iconst dX7_guard_7 (by decide) ?_
  refine s_istore dX7_guard_8 (by decide) ?_
  exact hk0
set_option maxRecDepth 20000 in
theorem t_X7_guard_107 (k : Nat → xK) (hk0 : xS p l e R s m args below meth c cX7_guard 6 (some .int) yX7_guard.cls yX7_guard.name 4 94 D cA b0 hs res (xMQ D cA b0 below args s hs res) (k 0) 10) : xS p l e R s m args below meth c cX7_guard 6 (some .int) yX7_guard.cls yX7_guard.name 4 94 D cA b0 hs res (xMQ D cA b0 below args s hs res) (k_X7_guard_107 b0 k) 107 := by
  unfold k_X7_guard_107
  refine s_aload_n dX7_guard_107 rfl ?_
  refine s_iconst dX7_guard_108 (by decide) ?_
  refine s_putZ (Tb := TX7) rfl inX7 (by decide) w_513 tyX7 tyX7_ok nmX7 rfl rfl dX7_guard_109 ?_
  refine s_aload_n dX7_guard_112 rfl ?_
  refine s_dup dX7_guard_113 ?_
  refine s_getI (Tb := TX7) rfl inX7 (by decide) w_510 dX7_guard_114 ?_
  refine s_iconst dX7_guard_117 (by decide) ?_
  refine s_iadd dX7_guard_118 ?_
  refine s_putI (Tb := TX7) rfl inX7 (by decide) w_510 tyX7 tyX7_ok nmX7 rfl rfl dX7_guard_119 ?_
  refine s_iload_n dX7_guard_122 rfl ?_
  exact s_retI rfl dX7_guard_123
set_option maxRecDepth 20000 in
theorem t_X7_guard_99 (k : Nat → xK) (hk0 : xS p l e R s m args below meth c cX7_guard 6 (some .int) yX7_guard.cls yX7_guard.name 4 94 D cA b0 hs res (xMQ D cA b0 below args s hs res) (k 0) 10) : xS p l e R s m args below meth c cX7_guard 6 (some .int) yX7_guard.cls yX7_guard.name 4 94 D cA b0 hs res (xMQ D cA b0 below args s hs res) (k_X7_guard_99 b0 k) 99 := by
  unfold k_X7_guard_99
  refine s_iadd dX7_guard_99 ?_
  refine s_ias dX7_guard_100 ?_
  refine s_iinc dX7_guard_101 (by decide) (by decide) ?_
  refine s_goto (tgt := 10) dX7_guard_104 (by decide) ?_
  exact hk0
set_option maxRecDepth 20000 in
theorem t_X7_guard_82 (k : Nat → xK) (hk0 : xS p l e R s m args below meth c cX7_guard 6 (some .int) yX7_guard.cls yX7_guard.name 4 94 D cA b0 hs res (xMQ D cA b0 below args s hs res) (k 0) 10) : xS p l e R s m args below meth c cX7_guard 6 (some .int) yX7_guard.cls yX7_guard.name 4 94 D cA b0 hs res (xMQ D cA b0 below args s hs res) (k_X7_guard_82 b0 k) 82 := by
  unfold k_X7_guard_82
  refine s_istore_n dX7_guard_82 rfl (by decide) ?_
  refine s_aload_n dX7_guard_83 rfl ?_
  refine s_getR (Tb := TX7) rfl inX7 (by decide) w_485 dX7_guard_84 ?_
  refine s_iload_n dX7_guard_87 rfl ?_
  refine s_dup2 dX7_guard_88 ?_
  refine s_ial dX7_guard_89 ?_
  refine s_iload_n dX7_guard_90 rfl ?_
  refine s_c1ne (tgt := 98) dX7_guard_91 (by decide) ?_ ?_
  · refine s_iconst dX7_guard_98 (by decide) ?_
    exact t_X7_guard_99 k hk0
  · refine s_iconst dX7_guard_94 (by decide) ?_
    refine s_goto (tgt := 99) dX7_guard_95 (by decide) ?_
    exact t_X7_guard_99 k hk0
set_option maxRecDepth 20000 in
theorem t_X7_guard_10 (k : Nat → xK) (hk0 : xS p l e R s m args below meth c cX7_guard 6 (some .int) yX7_guard.cls yX7_guard.name 4 94 D cA b0 hs res (xMQ D cA b0 below args s hs res) (k 0) 10) : xS p l e R s m args below meth c cX7_guard 6 (some .int) yX7_guard.cls yX7_guard.name 4 94 D cA b0 hs res (xMQ D cA b0 below args s hs res) (k_X7_guard_10 b0 k) 10 := by
  unfold k_X7_guard_10
  refine s_iload dX7_guard_10 ?_
  refine s_iload_n dX7_guard_12 rfl ?_
  refine s_c2ge (tgt := 107) dX7_guard_13 (by decide) ?_ ?_
  · exact t_X7_guard_107 k hk0
  · refine s_iload_n dX7_guard_16 rfl ?_
    refine s_c1ne (tgt := 107) dX7_guard_17 (by decide) ?_ ?_
    · exact t_X7_guard_107 k hk0
    · refine s_aload_n dX7_guard_20 rfl ?_
      refine s_getR (Tb := TX7) rfl inX7 (by decide) w_485 dX7_guard_21 ?_
      refine s_iload_n dX7_guard_24 rfl ?_
      refine s_ial dX7_guard_25 ?_
      refine s_aload_n dX7_guard_26 rfl ?_
      refine s_getR (Tb := TX7) rfl inX7 (by decide) w_481 dX7_guard_27 ?_
      refine s_iload_n dX7_guard_30 rfl ?_
      refine s_ial dX7_guard_31 ?_
      refine s_c2ge (tgt := 107) dX7_guard_32 (by decide) ?_ ?_
      · exact t_X7_guard_107 k hk0
      · refine s_bipush dX7_guard_35 (by decide) ?_
        refine s_iload_n dX7_guard_37 rfl ?_
        refine s_imul dX7_guard_38 ?_
        refine s_aload_n dX7_guard_39 rfl ?_
        refine s_getR (Tb := TX7) rfl inX7 (by decide) w_485 dX7_guard_40 ?_
        refine s_iload_n dX7_guard_43 rfl ?_
        refine s_ial dX7_guard_44 ?_
        refine s_iadd dX7_guard_45 ?_
        refine s_istore dX7_guard_46 (by decide) ?_
        refine s_aload_n dX7_guard_48 rfl ?_
        refine s_dup dX7_guard_49 ?_
        refine s_getI (Tb := TX7) rfl inX7 (by decide) w_508 dX7_guard_50 ?_
        refine s_iconst dX7_guard_53 (by decide) ?_
        refine s_iadd dX7_guard_54 ?_
        refine s_putI (Tb := TX7) rfl inX7 (by decide) w_508 tyX7 tyX7_ok nmX7 rfl rfl dX7_guard_55 ?_
        refine s_aload_n dX7_guard_58 rfl ?_
        refine s_getR (Tb := TX7) rfl inX7 (by decide) w_482 dX7_guard_59 ?_
        refine s_iload dX7_guard_62 ?_
        refine s_ial dX7_guard_64 ?_
        refine s_bipush dX7_guard_65 (by decide) ?_
        refine s_c2ne (tgt := 75) dX7_guard_67 (by decide) ?_ ?_
        · refine s_aload_n dX7_guard_75 rfl ?_
          refine s_iload_n dX7_guard_76 rfl ?_
          refine s_iload dX7_guard_77 ?_
          refine s_callV (Tb := TX7) (m_X7_simple l D cA b0) rfl w_632 w_634 w_17 w_29 w_635 ⟨rfl, by decide, by decide, by decide +kernel⟩ (by decide) dX7_guard_79 ?_
          exact t_X7_guard_82 k hk0
        · refine s_bipush dX7_guard_70 (by decide) ?_
          refine s_goto (tgt := 82) dX7_guard_72 (by decide) ?_
          exact t_X7_guard_82 k hk0
theorem t_X7_guard_r (n : Nat) : xS p l e R s m args below meth c cX7_guard 6 (some .int) yX7_guard.cls yX7_guard.name 4 94 D cA b0 hs res (xMQ D cA b0 below args s hs res) (r_X7_guard b0 n 0) 10 := by
  induction n with
  | zero => exact fun ls st h hT => by cases hT
  | succ n ih => exact t_X7_guard_10 (r_X7_guard b0 n) ih
theorem m_X7_guard (l : Launch) (D : va_G) (cA : Nat → ClassId) (b0 : Nat) : xMet l D cA b0 yX7_guard (.code yX7_guard cX7_guard 6 (some .int) :: xTB) 4 94 (f_X7_guard b0) :=
  xMet_of (n := 3) (by decide +kernel) (by decide) (fun p e R s m args below meth c hs res => t_X7_guard_0 (r_X7_guard b0 64) (t_X7_guard_r 64))
end M_X7_guard
section M_X7_fails
variable {p : Program} {l : Launch} {e : Env} {R : Room} {s : State} {m : MethodId} {args : Array Value} {below : List Frame} {meth : Method} {c : Code} {D : va_G} {cA : Nat → ClassId} {b0 : Nat} {hs : xH} {res : Option xV × xH}
set_option maxRecDepth 20000 in
theorem t_X7_fails_68  : xS p l e R s m args below meth c cX7_fails 4 none yX7_fails.cls yX7_fails.name 1 22 D cA b0 hs res (xMQ D cA b0 below args s hs res) (k_X7_fails_68 b0) 68 := by
  unfold k_X7_fails_68
  refine s_istore_n dX7_fails_68 rfl (by decide) ?_
  refine s_aload_n dX7_fails_69 rfl ?_
  refine s_getR (Tb := TX7) rfl inX7 (by decide) w_477 dX7_fails_70 ?_
  refine s_iload_n dX7_fails_73 rfl ?_
  refine s_ial dX7_fails_74 ?_
  refine s_iconst dX7_fails_75 (by decide) ?_
  refine s_c2ge (tgt := 89) dX7_fails_76 (by decide) ?_ ?_
  · refine s_aload_n dX7_fails_89 rfl ?_
    refine s_getR (Tb := TX7) rfl inX7 (by decide) w_501 dX7_fails_90 ?_
    refine s_iload_n dX7_fails_93 rfl ?_
    refine s_ial dX7_fails_94 ?_
    refine s_iload_n dX7_fails_95 rfl ?_
    refine s_c2ge (tgt := 117) dX7_fails_96 (by decide) ?_ ?_
    · refine s_aload_n dX7_fails_117 rfl ?_
      refine s_getR (Tb := TX7) rfl inX7 (by decide) w_485 dX7_fails_118 ?_
      refine s_iload_n dX7_fails_121 rfl ?_
      refine s_dup2 dX7_fails_122 ?_
      refine s_ial dX7_fails_123 ?_
      refine s_iconst dX7_fails_124 (by decide) ?_
      refine s_iadd dX7_fails_125 ?_
      refine s_ias dX7_fails_126 ?_
      exact s_retV rfl dX7_fails_127
    · refine s_aload_n dX7_fails_99 rfl ?_
      refine s_getR (Tb := TX7) rfl inX7 (by decide) w_501 dX7_fails_100 ?_
      refine s_iload_n dX7_fails_103 rfl ?_
      refine s_dup2 dX7_fails_104 ?_
      refine s_ial dX7_fails_105 ?_
      refine s_iconst dX7_fails_106 (by decide) ?_
      refine s_iadd dX7_fails_107 ?_
      refine s_ias dX7_fails_108 ?_
      refine s_aload_n dX7_fails_109 rfl ?_
      refine s_iload_n dX7_fails_110 rfl ?_
      refine s_callV (Tb := TX7) (m_X7_back l D cA b0) rfl w_667 w_669 w_25 w_29 w_670 ⟨rfl, by decide, by decide, by decide +kernel⟩ (by decide) dX7_fails_111 ?_
      refine s_goto (tgt := 127) dX7_fails_114 (by decide) ?_
      exact s_retV rfl dX7_fails_127
  · refine s_aload_n dX7_fails_79 rfl ?_
    refine s_getR (Tb := TX7) rfl inX7 (by decide) w_480 dX7_fails_80 ?_
    refine s_iload_n dX7_fails_83 rfl ?_
    refine s_iconst dX7_fails_84 (by decide) ?_
    refine s_ias dX7_fails_85 ?_
    refine s_goto (tgt := 127) dX7_fails_86 (by decide) ?_
    exact s_retV rfl dX7_fails_127
set_option maxRecDepth 20000 in
theorem t_X7_fails_0  : xS p l e R s m args below meth c cX7_fails 4 none yX7_fails.cls yX7_fails.name 1 22 D cA b0 hs res (xMQ D cA b0 below args s hs res) (k_X7_fails_0 b0) 0 := by
  unfold k_X7_fails_0
  refine s_aload_n dX7_fails_0 rfl ?_
  refine s_getR (Tb := TX7) rfl inX7 (by decide) w_498 dX7_fails_1 ?_
  refine s_iload_n dX7_fails_4 rfl ?_
  refine s_dup2 dX7_fails_5 ?_
  refine s_ial dX7_fails_6 ?_
  refine s_iconst dX7_fails_7 (by decide) ?_
  refine s_iadd dX7_fails_8 ?_
  refine s_ias dX7_fails_9 ?_
  refine s_aload_n dX7_fails_10 rfl ?_
  refine s_dup dX7_fails_11 ?_
  refine s_getI (Tb := TX7) rfl inX7 (by decide) w_511 dX7_fails_12 ?_
  refine s_iconst dX7_fails_15 (by decide) ?_
  refine s_iadd dX7_fails_16 ?_
  refine s_putI (Tb := TX7) rfl inX7 (by decide) w_511 tyX7 tyX7_ok nmX7 rfl rfl dX7_fails_17 ?_
  refine s_aload_n dX7_fails_20 rfl ?_
  refine s_getR (Tb := TX7) rfl inX7 (by decide) w_499 dX7_fails_21 ?_
  refine s_iload_n dX7_fails_24 rfl ?_
  refine s_iload_n dX7_fails_25 rfl ?_
  refine s_ias dX7_fails_26 ?_
  refine s_aload_n dX7_fails_27 rfl ?_
  refine s_getR (Tb := TX7) rfl inX7 (by decide) w_500 dX7_fails_28 ?_
  refine s_iload_n dX7_fails_31 rfl ?_
  refine s_aload_n dX7_fails_32 rfl ?_
  refine s_getR (Tb := TX7) rfl inX7 (by decide) w_485 dX7_fails_33 ?_
  refine s_iload_n dX7_fails_36 rfl ?_
  refine s_ial dX7_fails_37 ?_
  refine s_ias dX7_fails_38 ?_
  refine s_aload_n dX7_fails_39 rfl ?_
  refine s_getR (Tb := TX7) rfl inX7 (by decide) w_477 dX7_fails_40 ?_
  refine s_iload_n dX7_fails_43 rfl ?_
  refine s_ial dX7_fails_44 ?_
  refine s_iconst dX7_fails_45 (by decide) ?_
  refine s_c2ne (tgt := 53) dX7_fails_46 (by decide) ?_ ?_
  · refine s_aload_n dX7_fails_53 rfl ?_
    refine s_getR (Tb := TX7) rfl inX7 (by decide) w_477 dX7_fails_54 ?_
    refine s_iload_n dX7_fails_57 rfl ?_
    refine s_ial dX7_fails_58 ?_
    refine s_iconst dX7_fails_59 (by decide) ?_
    refine s_c2ne (tgt := 67) dX7_fails_60 (by decide) ?_ ?_
    · refine s_iconst dX7_fails_67 (by decide) ?_
      exact t_X7_fails_68
    · refine s_iconst dX7_fails_63 (by decide) ?_
      refine s_goto (tgt := 68) dX7_fails_64 (by decide) ?_
      exact t_X7_fails_68
  · refine s_iconst dX7_fails_49 (by decide) ?_
    refine s_goto (tgt := 68) dX7_fails_50 (by decide) ?_
    exact t_X7_fails_68
theorem m_X7_fails (l : Launch) (D : va_G) (cA : Nat → ClassId) (b0 : Nat) : xMet l D cA b0 yX7_fails (.code yX7_fails cX7_fails 4 none :: xTB) 1 22 (f_X7_fails b0) :=
  xMet_of (n := 3) (by decide +kernel) (by decide) (fun p e R s m args below meth c hs res => t_X7_fails_0)
end M_X7_fails
section M_X7_acts
variable {p : Program} {l : Launch} {e : Env} {R : Room} {s : State} {m : MethodId} {args : Array Value} {below : List Frame} {meth : Method} {c : Code} {D : va_G} {cA : Nat → ClassId} {b0 : Nat} {hs : xH} {res : Option xV × xH}
set_option maxRecDepth 20000 in
theorem t_X7_acts_105  : xS p l e R s m args below meth c cX7_acts 4 none yX7_acts.cls yX7_acts.name 5 119 D cA b0 hs res (xMQ D cA b0 below args s hs res) (k_X7_acts_105 b0) 105 := by
  unfold k_X7_acts_105
  refine s_iload_n dX7_acts_105 rfl ?_
  refine s_c1eq (tgt := 118) dX7_acts_106 (by decide) ?_ ?_
  · refine s_aload_n dX7_acts_118 rfl ?_
    refine s_getI (Tb := TX7) rfl inX7 (by decide) w_512 dX7_acts_119 ?_
    refine s_c1le (tgt := 149) dX7_acts_122 (by decide) ?_ ?_
    · exact s_retV rfl dX7_acts_149
    · refine s_aload_n dX7_acts_125 rfl ?_
      refine s_getR (Tb := TX7) rfl inX7 (by decide) w_480 dX7_acts_126 ?_
      refine s_iload_n dX7_acts_129 rfl ?_
      refine s_iconst dX7_acts_130 (by decide) ?_
      refine s_ias dX7_acts_131 ?_
      refine s_aload_n dX7_acts_132 rfl ?_
      refine s_getR (Tb := TX7) rfl inX7 (by decide) w_497 dX7_acts_133 ?_
      refine s_iload_n dX7_acts_136 rfl ?_
      refine s_aload_n dX7_acts_137 rfl ?_
      refine s_getI (Tb := TX7) rfl inX7 (by decide) w_507 dX7_acts_138 ?_
      refine s_i2l dX7_acts_141 ?_
      refine s_aload_n dX7_acts_142 rfl ?_
      refine s_getI (Tb := TX7) rfl inX7 (by decide) w_512 dX7_acts_143 ?_
      refine s_i2l dX7_acts_146 ?_
      refine s_ladd dX7_acts_147 ?_
      refine s_jas dX7_acts_148 ?_
      exact s_retV rfl dX7_acts_149
  · refine s_aload_n dX7_acts_109 rfl ?_
    refine s_iload_n dX7_acts_110 rfl ?_
    refine s_iload_n dX7_acts_111 rfl ?_
    refine s_callV (Tb := TX7) (m_X7_fails l D cA b0) rfl w_663 w_665 w_24 w_29 w_666 ⟨rfl, by decide, by decide, by decide +kernel⟩ (by decide) dX7_acts_112 ?_
    refine s_goto (tgt := 149) dX7_acts_115 (by decide) ?_
    exact s_retV rfl dX7_acts_149
set_option maxRecDepth 20000 in
theorem t_X7_acts_103  : xS p l e R s m args below meth c cX7_acts 4 none yX7_acts.cls yX7_acts.name 5 119 D cA b0 hs res (xMQ D cA b0 below args s hs res) (k_X7_acts_103 b0) 103 := by
  unfold k_X7_acts_103
  refine s_iadd dX7_acts_103 ?_
  refine s_ias dX7_acts_104 ?_
  exact t_X7_acts_105
set_option maxRecDepth 20000 in
theorem t_X7_acts_102  : xS p l e R s m args below meth c cX7_acts 4 none yX7_acts.cls yX7_acts.name 5 119 D cA b0 hs res (xMQ D cA b0 below args s hs res) (k_X7_acts_102 b0) 102 := by
  unfold k_X7_acts_102
  refine s_iconst dX7_acts_102 (by decide) ?_
  exact t_X7_acts_103
set_option maxRecDepth 20000 in
theorem t_X7_acts_0  : xS p l e R s m args below meth c cX7_acts 4 none yX7_acts.cls yX7_acts.name 5 119 D cA b0 hs res (xMQ D cA b0 below args s hs res) (k_X7_acts_0 b0) 0 := by
  unfold k_X7_acts_0
  refine s_bipush dX7_acts_0 (by decide) ?_
  refine s_iload_n dX7_acts_2 rfl ?_
  refine s_imul dX7_acts_3 ?_
  refine s_aload_n dX7_acts_4 rfl ?_
  refine s_getR (Tb := TX7) rfl inX7 (by decide) w_485 dX7_acts_5 ?_
  refine s_iload_n dX7_acts_8 rfl ?_
  refine s_ial dX7_acts_9 ?_
  refine s_iadd dX7_acts_10 ?_
  refine s_istore_n dX7_acts_11 rfl (by decide) ?_
  refine s_aload_n dX7_acts_12 rfl ?_
  refine s_dup dX7_acts_13 ?_
  refine s_getI (Tb := TX7) rfl inX7 (by decide) w_508 dX7_acts_14 ?_
  refine s_iconst dX7_acts_17 (by decide) ?_
  refine s_iadd dX7_acts_18 ?_
  refine s_putI (Tb := TX7) rfl inX7 (by decide) w_508 tyX7 tyX7_ok nmX7 rfl rfl dX7_acts_19 ?_
  refine s_aload_n dX7_acts_22 rfl ?_
  refine s_getR (Tb := TX7) rfl inX7 (by decide) w_502 dX7_acts_23 ?_
  refine s_iload_n dX7_acts_26 rfl ?_
  refine s_iconst dX7_acts_27 (by decide) ?_
  refine s_zas dX7_acts_28 ?_
  refine s_aload_n dX7_acts_29 rfl ?_
  refine s_iconst dX7_acts_30 (by decide) ?_
  refine s_putI (Tb := TX7) rfl inX7 (by decide) w_512 tyX7 tyX7_ok nmX7 rfl rfl dX7_acts_31 ?_
  refine s_aload_n dX7_acts_34 rfl ?_
  refine s_getR (Tb := TX7) rfl inX7 (by decide) w_482 dX7_acts_35 ?_
  refine s_iload_n dX7_acts_38 rfl ?_
  refine s_ial dX7_acts_39 ?_
  refine s_bipush dX7_acts_40 (by decide) ?_
  refine s_c2ne (tgt := 70) dX7_acts_42 (by decide) ?_ ?_
  · refine s_aload_n dX7_acts_70 rfl ?_
    refine s_iload_n dX7_acts_71 rfl ?_
    refine s_iload_n dX7_acts_72 rfl ?_
    refine s_callV (Tb := TX7) (m_X7_simple l D cA b0) rfl w_632 w_634 w_17 w_29 w_635 ⟨rfl, by decide, by decide, by decide +kernel⟩ (by decide) dX7_acts_73 ?_
    refine s_istore_n dX7_acts_76 rfl (by decide) ?_
    refine s_aload_n dX7_acts_77 rfl ?_
    refine s_getR (Tb := TX7) rfl inX7 (by decide) w_485 dX7_acts_78 ?_
    refine s_iload_n dX7_acts_81 rfl ?_
    refine s_dup2 dX7_acts_82 ?_
    refine s_ial dX7_acts_83 ?_
    refine s_iload_n dX7_acts_84 rfl ?_
    refine s_c1ne (tgt := 102) dX7_acts_85 (by decide) ?_ ?_
    · exact t_X7_acts_102
    · refine s_aload_n dX7_acts_88 rfl ?_
      refine s_getR (Tb := TX7) rfl inX7 (by decide) w_480 dX7_acts_89 ?_
      refine s_iload_n dX7_acts_92 rfl ?_
      refine s_ial dX7_acts_93 ?_
      refine s_iconst dX7_acts_94 (by decide) ?_
      refine s_c2eq (tgt := 102) dX7_acts_95 (by decide) ?_ ?_
      · exact t_X7_acts_102
      · refine s_iconst dX7_acts_98 (by decide) ?_
        refine s_goto (tgt := 103) dX7_acts_99 (by decide) ?_
        exact t_X7_acts_103
  · refine s_aload_n dX7_acts_45 rfl ?_
    refine s_getR (Tb := TX7) rfl inX7 (by decide) w_485 dX7_acts_46 ?_
    refine s_iload_n dX7_acts_49 rfl ?_
    refine s_dup2 dX7_acts_50 ?_
    refine s_ial dX7_acts_51 ?_
    refine s_iconst dX7_acts_52 (by decide) ?_
    refine s_iadd dX7_acts_53 ?_
    refine s_ias dX7_acts_54 ?_
    refine s_aload_n dX7_acts_55 rfl ?_
    refine s_iload_n dX7_acts_56 rfl ?_
    refine s_aload_n dX7_acts_57 rfl ?_
    refine s_getR (Tb := TX7) rfl inX7 (by decide) w_483 dX7_acts_58 ?_
    refine s_iload_n dX7_acts_61 rfl ?_
    refine s_ial dX7_acts_62 ?_
    refine s_callV (Tb := TX7) (m_X7_guard l D cA b0) rfl w_628 w_630 w_16 w_29 w_631 ⟨rfl, by decide, by decide, by decide +kernel⟩ (by decide) dX7_acts_63 ?_
    refine s_istore_n dX7_acts_66 rfl (by decide) ?_
    refine s_goto (tgt := 105) dX7_acts_67 (by decide) ?_
    exact t_X7_acts_105
theorem m_X7_acts (l : Launch) (D : va_G) (cA : Nat → ClassId) (b0 : Nat) : xMet l D cA b0 yX7_acts (.code yX7_acts cX7_acts 4 none :: xTB) 5 119 (f_X7_acts b0) :=
  xMet_of (n := 2) (by decide +kernel) (by decide) (fun p e R s m args below meth c hs res => t_X7_acts_0)
end M_X7_acts
section M_X7_maybeDone
variable {p : Program} {l : Launch} {e : Env} {R : Room} {s : State} {m : MethodId} {args : Array Value} {below : List Frame} {meth : Method} {c : Code} {D : va_G} {cA : Nat → ClassId} {b0 : Nat} {hs : xH} {res : Option xV × xH}
set_option maxRecDepth 20000 in
theorem t_X7_maybeDone_0  : xS p l e R s m args below meth c cX7_maybeDone 2 none yX7_maybeDone.cls yX7_maybeDone.name 1 20 D cA b0 hs res (xMQ D cA b0 below args s hs res) (k_X7_maybeDone_0 b0) 0 := by
  unfold k_X7_maybeDone_0
  refine s_aload_n dX7_maybeDone_0 rfl ?_
  refine s_getR (Tb := TX7) rfl inX7 (by decide) w_480 dX7_maybeDone_1 ?_
  refine s_iload_n dX7_maybeDone_4 rfl ?_
  refine s_ial dX7_maybeDone_5 ?_
  refine s_callS (m_X7_isOver l D cA b0) w_648 w_649 w_29 w_650 ⟨rfl, by decide, by decide, by decide +kernel⟩ (by decide) dX7_maybeDone_6 ?_
  refine s_c1ne (tgt := 64) dX7_maybeDone_9 (by decide) ?_ ?_
  · exact s_retV rfl dX7_maybeDone_64
  · refine s_aload_n dX7_maybeDone_12 rfl ?_
    refine s_getR (Tb := TX7) rfl inX7 (by decide) w_480 dX7_maybeDone_13 ?_
    refine s_iload_n dX7_maybeDone_16 rfl ?_
    refine s_ial dX7_maybeDone_17 ?_
    refine s_iconst dX7_maybeDone_18 (by decide) ?_
    refine s_c2eq (tgt := 64) dX7_maybeDone_19 (by decide) ?_ ?_
    · exact s_retV rfl dX7_maybeDone_64
    · refine s_aload_n dX7_maybeDone_22 rfl ?_
      refine s_getR (Tb := TX7) rfl inX7 (by decide) w_485 dX7_maybeDone_23 ?_
      refine s_iload_n dX7_maybeDone_26 rfl ?_
      refine s_ial dX7_maybeDone_27 ?_
      refine s_aload_n dX7_maybeDone_28 rfl ?_
      refine s_getR (Tb := TX7) rfl inX7 (by decide) w_481 dX7_maybeDone_29 ?_
      refine s_iload_n dX7_maybeDone_32 rfl ?_
      refine s_ial dX7_maybeDone_33 ?_
      refine s_c2lt (tgt := 64) dX7_maybeDone_34 (by decide) ?_ ?_
      · exact s_retV rfl dX7_maybeDone_64
      · refine s_aload_n dX7_maybeDone_37 rfl ?_
        refine s_getR (Tb := TX7) rfl inX7 (by decide) w_480 dX7_maybeDone_38 ?_
        refine s_iload_n dX7_maybeDone_41 rfl ?_
        refine s_iconst dX7_maybeDone_42 (by decide) ?_
        refine s_ias dX7_maybeDone_43 ?_
        refine s_aload_n dX7_maybeDone_44 rfl ?_
        refine s_getR (Tb := TX7) rfl inX7 (by decide) w_504 dX7_maybeDone_45 ?_
        refine s_aload_n dX7_maybeDone_48 rfl ?_
        refine s_getI (Tb := TX7) rfl inX7 (by decide) w_505 dX7_maybeDone_49 ?_
        refine s_iload_n dX7_maybeDone_52 rfl ?_
        refine s_ias dX7_maybeDone_53 ?_
        refine s_aload_n dX7_maybeDone_54 rfl ?_
        refine s_dup dX7_maybeDone_55 ?_
        refine s_getI (Tb := TX7) rfl inX7 (by decide) w_505 dX7_maybeDone_56 ?_
        refine s_iconst dX7_maybeDone_59 (by decide) ?_
        refine s_iadd dX7_maybeDone_60 ?_
        refine s_putI (Tb := TX7) rfl inX7 (by decide) w_505 tyX7 tyX7_ok nmX7 rfl rfl dX7_maybeDone_61 ?_
        exact s_retV rfl dX7_maybeDone_64
theorem m_X7_maybeDone (l : Launch) (D : va_G) (cA : Nat → ClassId) (b0 : Nat) : xMet l D cA b0 yX7_maybeDone (.code yX7_maybeDone cX7_maybeDone 2 none :: xTB) 1 20 (f_X7_maybeDone b0) :=
  xMet_of (n := 2) (by decide +kernel) (by decide) (fun p e R s m args below meth c hs res => t_X7_maybeDone_0)
end M_X7_maybeDone
section M_X7_pick
variable {p : Program} {l : Launch} {e : Env} {R : Room} {s : State} {m : MethodId} {args : Array Value} {below : List Frame} {meth : Method} {c : Code} {D : va_G} {cA : Nat → ClassId} {b0 : Nat} {hs : xH} {res : Option xV × xH}
set_option maxRecDepth 20000 in
theorem t_X7_pick_0 (k : Nat → xK) (hk0 : xS p l e R s m args below meth c cX7_pick 4 (some .int) yX7_pick.cls yX7_pick.name 0 0 D cA b0 hs res (xMQ D cA b0 below args s hs res) (k 0) 4) : xS p l e R s m args below meth c cX7_pick 4 (some .int) yX7_pick.cls yX7_pick.name 0 0 D cA b0 hs res (xMQ D cA b0 below args s hs res) (k_X7_pick_0 b0 k) 0 := by
  unfold k_X7_pick_0
  refine s_iconst dX7_pick_0 (by decide) ?_
  refine s_istore_n dX7_pick_1 rfl (by decide) ?_
  refine s_iconst dX7_pick_2 (by decide) ?_
  refine s_istore_n dX7_pick_3 rfl (by decide) ?_
  exact hk0
set_option maxRecDepth 20000 in
theorem t_X7_pick_73 (k : Nat → xK) (hk0 : xS p l e R s m args below meth c cX7_pick 4 (some .int) yX7_pick.cls yX7_pick.name 0 0 D cA b0 hs res (xMQ D cA b0 below args s hs res) (k 0) 4) : xS p l e R s m args below meth c cX7_pick 4 (some .int) yX7_pick.cls yX7_pick.name 0 0 D cA b0 hs res (xMQ D cA b0 below args s hs res) (k_X7_pick_73 b0 k) 73 := by
  unfold k_X7_pick_73
  refine s_iload_n dX7_pick_73 rfl ?_
  refine s_istore_n dX7_pick_74 rfl (by decide) ?_
  refine s_iinc dX7_pick_75 (by decide) (by decide) ?_
  refine s_goto (tgt := 4) dX7_pick_78 (by decide) ?_
  exact hk0
set_option maxRecDepth 20000 in
theorem t_X7_pick_35 (k : Nat → xK) (hk0 : xS p l e R s m args below meth c cX7_pick 4 (some .int) yX7_pick.cls yX7_pick.name 0 0 D cA b0 hs res (xMQ D cA b0 below args s hs res) (k 0) 4) : xS p l e R s m args below meth c cX7_pick 4 (some .int) yX7_pick.cls yX7_pick.name 0 0 D cA b0 hs res (xMQ D cA b0 below args s hs res) (k_X7_pick_35 b0 k) 35 := by
  unfold k_X7_pick_35
  refine s_istore_n dX7_pick_35 rfl (by decide) ?_
  refine s_iload_n dX7_pick_36 rfl ?_
  refine s_c1eq (tgt := 75) dX7_pick_37 (by decide) ?_ ?_
  · refine s_iinc dX7_pick_75 (by decide) (by decide) ?_
    refine s_goto (tgt := 4) dX7_pick_78 (by decide) ?_
    exact hk0
  · refine s_iload_n dX7_pick_40 rfl ?_
    refine s_c1lt (tgt := 73) dX7_pick_41 (by decide) ?_ ?_
    · exact t_X7_pick_73 k hk0
    · refine s_aload_n dX7_pick_44 rfl ?_
      refine s_getR (Tb := TX7) rfl inX7 (by decide) w_478 dX7_pick_45 ?_
      refine s_iload_n dX7_pick_48 rfl ?_
      refine s_ial dX7_pick_49 ?_
      refine s_aload_n dX7_pick_50 rfl ?_
      refine s_getR (Tb := TX7) rfl inX7 (by decide) w_479 dX7_pick_51 ?_
      refine s_iload_n dX7_pick_54 rfl ?_
      refine s_ial dX7_pick_55 ?_
      refine s_iadd dX7_pick_56 ?_
      refine s_aload_n dX7_pick_57 rfl ?_
      refine s_getR (Tb := TX7) rfl inX7 (by decide) w_478 dX7_pick_58 ?_
      refine s_iload_n dX7_pick_61 rfl ?_
      refine s_ial dX7_pick_62 ?_
      refine s_aload_n dX7_pick_63 rfl ?_
      refine s_getR (Tb := TX7) rfl inX7 (by decide) w_479 dX7_pick_64 ?_
      refine s_iload_n dX7_pick_67 rfl ?_
      refine s_ial dX7_pick_68 ?_
      refine s_iadd dX7_pick_69 ?_
      refine s_c2le (tgt := 75) dX7_pick_70 (by decide) ?_ ?_
      · refine s_iinc dX7_pick_75 (by decide) (by decide) ?_
        refine s_goto (tgt := 4) dX7_pick_78 (by decide) ?_
        exact hk0
      · exact t_X7_pick_73 k hk0
set_option maxRecDepth 20000 in
theorem t_X7_pick_34 (k : Nat → xK) (hk0 : xS p l e R s m args below meth c cX7_pick 4 (some .int) yX7_pick.cls yX7_pick.name 0 0 D cA b0 hs res (xMQ D cA b0 below args s hs res) (k 0) 4) : xS p l e R s m args below meth c cX7_pick 4 (some .int) yX7_pick.cls yX7_pick.name 0 0 D cA b0 hs res (xMQ D cA b0 below args s hs res) (k_X7_pick_34 b0 k) 34 := by
  unfold k_X7_pick_34
  refine s_iconst dX7_pick_34 (by decide) ?_
  exact t_X7_pick_35 k hk0
set_option maxRecDepth 20000 in
theorem t_X7_pick_4 (k : Nat → xK) (hk0 : xS p l e R s m args below meth c cX7_pick 4 (some .int) yX7_pick.cls yX7_pick.name 0 0 D cA b0 hs res (xMQ D cA b0 below args s hs res) (k 0) 4) : xS p l e R s m args below meth c cX7_pick 4 (some .int) yX7_pick.cls yX7_pick.name 0 0 D cA b0 hs res (xMQ D cA b0 below args s hs res) (k_X7_pick_4 b0 k) 4 := by
  unfold k_X7_pick_4
  refine s_iload_n dX7_pick_4 rfl ?_
  refine s_aload_n dX7_pick_5 rfl ?_
  refine s_getI (Tb := TX7) rfl inX7 (by decide) w_476 dX7_pick_6 ?_
  refine s_c2ge (tgt := 81) dX7_pick_9 (by decide) ?_ ?_
  · refine s_iload_n dX7_pick_81 rfl ?_
    exact s_retI rfl dX7_pick_82
  · refine s_aload_n dX7_pick_12 rfl ?_
    refine s_getR (Tb := TX7) rfl inX7 (by decide) w_480 dX7_pick_13 ?_
    refine s_iload_n dX7_pick_16 rfl ?_
    refine s_ial dX7_pick_17 ?_
    refine s_c1ne (tgt := 34) dX7_pick_18 (by decide) ?_ ?_
    · exact t_X7_pick_34 k hk0
    · refine s_aload_n dX7_pick_21 rfl ?_
      refine s_getR (Tb := TX7) rfl inX7 (by decide) w_503 dX7_pick_22 ?_
      refine s_iload_n dX7_pick_25 rfl ?_
      refine s_zal dX7_pick_26 ?_
      refine s_c1ne (tgt := 34) dX7_pick_27 (by decide) ?_ ?_
      · exact t_X7_pick_34 k hk0
      · refine s_iconst dX7_pick_30 (by decide) ?_
        refine s_goto (tgt := 35) dX7_pick_31 (by decide) ?_
        exact t_X7_pick_35 k hk0
theorem t_X7_pick_r (n : Nat) : xS p l e R s m args below meth c cX7_pick 4 (some .int) yX7_pick.cls yX7_pick.name 0 0 D cA b0 hs res (xMQ D cA b0 below args s hs res) (r_X7_pick b0 n 0) 4 := by
  induction n with
  | zero => exact fun ls st h hT => by cases hT
  | succ n ih => exact t_X7_pick_4 (r_X7_pick b0 n) ih
theorem m_X7_pick (l : Launch) (D : va_G) (cA : Nat → ClassId) (b0 : Nat) : xMet l D cA b0 yX7_pick (.code yX7_pick cX7_pick 4 (some .int) :: xTB) 0 0 (f_X7_pick b0) :=
  xMet_of (n := 1) (by decide +kernel) (by decide) (fun p e R s m args below meth c hs res => t_X7_pick_0 (r_X7_pick b0 64) (t_X7_pick_r 64))
end M_X7_pick
section M_X7_oneTurn
variable {p : Program} {l : Launch} {e : Env} {R : Room} {s : State} {m : MethodId} {args : Array Value} {below : List Frame} {meth : Method} {c : Code} {D : va_G} {cA : Nat → ClassId} {b0 : Nat} {hs : xH} {res : Option xV × xH}
set_option maxRecDepth 20000 in
theorem t_X7_oneTurn_0 (k : Nat → xK) (hk0 : xS p l e R s m args below meth c cX7_oneTurn 3 none yX7_oneTurn.cls yX7_oneTurn.name 6 142 D cA b0 hs res (xMQ D cA b0 below args s hs res) (k 0) 2) (hk1 : xS p l e R s m args below meth c cX7_oneTurn 3 none yX7_oneTurn.cls yX7_oneTurn.name 6 142 D cA b0 hs res (xMQ D cA b0 below args s hs res) (k 1) 95) (hk2 : xS p l e R s m args below meth c cX7_oneTurn 3 none yX7_oneTurn.cls yX7_oneTurn.name 6 142 D cA b0 hs res (xMQ D cA b0 below args s hs res) (k 2) 159) : xS p l e R s m args below meth c cX7_oneTurn 3 none yX7_oneTurn.cls yX7_oneTurn.name 6 142 D cA b0 hs res (xMQ D cA b0 below args s hs res) (k_X7_oneTurn_0 b0 k) 0 := by
  unfold k_X7_oneTurn_0
  refine s_iconst dX7_oneTurn_0 (by decide) ?_
  refine s_istore_n dX7_oneTurn_1 rfl (by decide) ?_
  exact hk0
set_option maxRecDepth 20000 in
theorem t_X7_oneTurn_66 (k : Nat → xK) (hk0 : xS p l e R s m args below meth c cX7_oneTurn 3 none yX7_oneTurn.cls yX7_oneTurn.name 6 142 D cA b0 hs res (xMQ D cA b0 below args s hs res) (k 0) 2) (hk1 : xS p l e R s m args below meth c cX7_oneTurn 3 none yX7_oneTurn.cls yX7_oneTurn.name 6 142 D cA b0 hs res (xMQ D cA b0 below args s hs res) (k 1) 95) (hk2 : xS p l e R s m args below meth c cX7_oneTurn 3 none yX7_oneTurn.cls yX7_oneTurn.name 6 142 D cA b0 hs res (xMQ D cA b0 below args s hs res) (k 2) 159) : xS p l e R s m args below meth c cX7_oneTurn 3 none yX7_oneTurn.cls yX7_oneTurn.name 6 142 D cA b0 hs res (xMQ D cA b0 below args s hs res) (k_X7_oneTurn_66 b0 k) 66 := by
  unfold k_X7_oneTurn_66
  refine s_istore_n dX7_oneTurn_66 rfl (by decide) ?_
  refine s_aload_n dX7_oneTurn_67 rfl ?_
  refine s_getR (Tb := TX7) rfl inX7 (by decide) w_480 dX7_oneTurn_68 ?_
  refine s_iload_n dX7_oneTurn_71 rfl ?_
  refine s_iload_n dX7_oneTurn_72 rfl ?_
  refine s_c1eq (tgt := 80) dX7_oneTurn_73 (by decide) ?_ ?_
  · refine s_aload_n dX7_oneTurn_80 rfl ?_
    refine s_getR (Tb := TX7) rfl inX7 (by decide) w_480 dX7_oneTurn_81 ?_
    refine s_iload_n dX7_oneTurn_84 rfl ?_
    refine s_ial dX7_oneTurn_85 ?_
    refine s_ias dX7_oneTurn_86 ?_
    refine s_iinc dX7_oneTurn_87 (by decide) (by decide) ?_
    refine s_goto (tgt := 2) dX7_oneTurn_90 (by decide) ?_
    exact hk0
  · refine s_iconst dX7_oneTurn_76 (by decide) ?_
    refine s_goto (tgt := 86) dX7_oneTurn_77 (by decide) ?_
    refine s_ias dX7_oneTurn_86 ?_
    refine s_iinc dX7_oneTurn_87 (by decide) (by decide) ?_
    refine s_goto (tgt := 2) dX7_oneTurn_90 (by decide) ?_
    exact hk0
set_option maxRecDepth 20000 in
theorem t_X7_oneTurn_65 (k : Nat → xK) (hk0 : xS p l e R s m args below meth c cX7_oneTurn 3 none yX7_oneTurn.cls yX7_oneTurn.name 6 142 D cA b0 hs res (xMQ D cA b0 below args s hs res) (k 0) 2) (hk1 : xS p l e R s m args below meth c cX7_oneTurn 3 none yX7_oneTurn.cls yX7_oneTurn.name 6 142 D cA b0 hs res (xMQ D cA b0 below args s hs res) (k 1) 95) (hk2 : xS p l e R s m args below meth c cX7_oneTurn 3 none yX7_oneTurn.cls yX7_oneTurn.name 6 142 D cA b0 hs res (xMQ D cA b0 below args s hs res) (k 2) 159) : xS p l e R s m args below meth c cX7_oneTurn 3 none yX7_oneTurn.cls yX7_oneTurn.name 6 142 D cA b0 hs res (xMQ D cA b0 below args s hs res) (k_X7_oneTurn_65 b0 k) 65 := by
  unfold k_X7_oneTurn_65
  refine s_iconst dX7_oneTurn_65 (by decide) ?_
  exact t_X7_oneTurn_66 k hk0 hk1 hk2
set_option maxRecDepth 20000 in
theorem t_X7_oneTurn_61 (k : Nat → xK) (hk0 : xS p l e R s m args below meth c cX7_oneTurn 3 none yX7_oneTurn.cls yX7_oneTurn.name 6 142 D cA b0 hs res (xMQ D cA b0 below args s hs res) (k 0) 2) (hk1 : xS p l e R s m args below meth c cX7_oneTurn 3 none yX7_oneTurn.cls yX7_oneTurn.name 6 142 D cA b0 hs res (xMQ D cA b0 below args s hs res) (k 1) 95) (hk2 : xS p l e R s m args below meth c cX7_oneTurn 3 none yX7_oneTurn.cls yX7_oneTurn.name 6 142 D cA b0 hs res (xMQ D cA b0 below args s hs res) (k 2) 159) : xS p l e R s m args below meth c cX7_oneTurn 3 none yX7_oneTurn.cls yX7_oneTurn.name 6 142 D cA b0 hs res (xMQ D cA b0 below args s hs res) (k_X7_oneTurn_61 b0 k) 61 := by
  unfold k_X7_oneTurn_61
  refine s_iconst dX7_oneTurn_61 (by decide) ?_
  refine s_goto (tgt := 66) dX7_oneTurn_62 (by decide) ?_
  exact t_X7_oneTurn_66 k hk0 hk1 hk2
set_option maxRecDepth 20000 in
theorem t_X7_oneTurn_42 (k : Nat → xK) (hk0 : xS p l e R s m args below meth c cX7_oneTurn 3 none yX7_oneTurn.cls yX7_oneTurn.name 6 142 D cA b0 hs res (xMQ D cA b0 below args s hs res) (k 0) 2) (hk1 : xS p l e R s m args below meth c cX7_oneTurn 3 none yX7_oneTurn.cls yX7_oneTurn.name 6 142 D cA b0 hs res (xMQ D cA b0 below args s hs res) (k 1) 95) (hk2 : xS p l e R s m args below meth c cX7_oneTurn 3 none yX7_oneTurn.cls yX7_oneTurn.name 6 142 D cA b0 hs res (xMQ D cA b0 below args s hs res) (k 2) 159) : xS p l e R s m args below meth c cX7_oneTurn 3 none yX7_oneTurn.cls yX7_oneTurn.name 6 142 D cA b0 hs res (xMQ D cA b0 below args s hs res) (k_X7_oneTurn_42 b0 k) 42 := by
  unfold k_X7_oneTurn_42
  refine s_aload_n dX7_oneTurn_42 rfl ?_
  refine s_getR (Tb := TX7) rfl inX7 (by decide) w_480 dX7_oneTurn_43 ?_
  refine s_iload_n dX7_oneTurn_46 rfl ?_
  refine s_ial dX7_oneTurn_47 ?_
  refine s_iconst dX7_oneTurn_48 (by decide) ?_
  refine s_c2ne (tgt := 65) dX7_oneTurn_49 (by decide) ?_ ?_
  · exact t_X7_oneTurn_65 k hk0 hk1 hk2
  · refine s_aload_n dX7_oneTurn_52 rfl ?_
    refine s_getR (Tb := TX7) rfl inX7 (by decide) w_495 dX7_oneTurn_53 ?_
    refine s_iload_n dX7_oneTurn_56 rfl ?_
    refine s_ial dX7_oneTurn_57 ?_
    refine s_c1le (tgt := 65) dX7_oneTurn_58 (by decide) ?_ ?_
    · exact t_X7_oneTurn_65 k hk0 hk1 hk2
    · exact t_X7_oneTurn_61 k hk0 hk1 hk2
set_option maxRecDepth 20000 in
theorem t_X7_oneTurn_2 (k : Nat → xK) (hk0 : xS p l e R s m args below meth c cX7_oneTurn 3 none yX7_oneTurn.cls yX7_oneTurn.name 6 142 D cA b0 hs res (xMQ D cA b0 below args s hs res) (k 0) 2) (hk1 : xS p l e R s m args below meth c cX7_oneTurn 3 none yX7_oneTurn.cls yX7_oneTurn.name 6 142 D cA b0 hs res (xMQ D cA b0 below args s hs res) (k 1) 95) (hk2 : xS p l e R s m args below meth c cX7_oneTurn 3 none yX7_oneTurn.cls yX7_oneTurn.name 6 142 D cA b0 hs res (xMQ D cA b0 below args s hs res) (k 2) 159) : xS p l e R s m args below meth c cX7_oneTurn 3 none yX7_oneTurn.cls yX7_oneTurn.name 6 142 D cA b0 hs res (xMQ D cA b0 below args s hs res) (k_X7_oneTurn_2 b0 k) 2 := by
  unfold k_X7_oneTurn_2
  refine s_iload_n dX7_oneTurn_2 rfl ?_
  refine s_aload_n dX7_oneTurn_3 rfl ?_
  refine s_getI (Tb := TX7) rfl inX7 (by decide) w_476 dX7_oneTurn_4 ?_
  refine s_c2ge (tgt := 93) dX7_oneTurn_7 (by decide) ?_ ?_
  · refine s_iconst dX7_oneTurn_93 (by decide) ?_
    refine s_istore_n dX7_oneTurn_94 rfl (by decide) ?_
    exact hk1
  · refine s_aload_n dX7_oneTurn_10 rfl ?_
    refine s_getR (Tb := TX7) rfl inX7 (by decide) w_503 dX7_oneTurn_11 ?_
    refine s_iload_n dX7_oneTurn_14 rfl ?_
    refine s_iconst dX7_oneTurn_15 (by decide) ?_
    refine s_zas dX7_oneTurn_16 ?_
    refine s_aload_n dX7_oneTurn_17 rfl ?_
    refine s_getR (Tb := TX7) rfl inX7 (by decide) w_480 dX7_oneTurn_18 ?_
    refine s_iload_n dX7_oneTurn_21 rfl ?_
    refine s_ial dX7_oneTurn_22 ?_
    refine s_iconst dX7_oneTurn_23 (by decide) ?_
    refine s_c2ne (tgt := 42) dX7_oneTurn_24 (by decide) ?_ ?_
    · exact t_X7_oneTurn_42 k hk0 hk1 hk2
    · refine s_aload_n dX7_oneTurn_27 rfl ?_
      refine s_getR (Tb := TX7) rfl inX7 (by decide) w_497 dX7_oneTurn_28 ?_
      refine s_iload_n dX7_oneTurn_31 rfl ?_
      refine s_jal dX7_oneTurn_32 ?_
      refine s_aload_n dX7_oneTurn_33 rfl ?_
      refine s_getI (Tb := TX7) rfl inX7 (by decide) w_507 dX7_oneTurn_34 ?_
      refine s_i2l dX7_oneTurn_37 ?_
      refine s_lcmp dX7_oneTurn_38 ?_
      refine s_c1lt (tgt := 61) dX7_oneTurn_39 (by decide) ?_ ?_
      · exact t_X7_oneTurn_61 k hk0 hk1 hk2
      · exact t_X7_oneTurn_42 k hk0 hk1 hk2
set_option maxRecDepth 20000 in
theorem t_X7_oneTurn_146 (k : Nat → xK) (hk0 : xS p l e R s m args below meth c cX7_oneTurn 3 none yX7_oneTurn.cls yX7_oneTurn.name 6 142 D cA b0 hs res (xMQ D cA b0 below args s hs res) (k 0) 2) (hk1 : xS p l e R s m args below meth c cX7_oneTurn 3 none yX7_oneTurn.cls yX7_oneTurn.name 6 142 D cA b0 hs res (xMQ D cA b0 below args s hs res) (k 1) 95) (hk2 : xS p l e R s m args below meth c cX7_oneTurn 3 none yX7_oneTurn.cls yX7_oneTurn.name 6 142 D cA b0 hs res (xMQ D cA b0 below args s hs res) (k 2) 159) : xS p l e R s m args below meth c cX7_oneTurn 3 none yX7_oneTurn.cls yX7_oneTurn.name 6 142 D cA b0 hs res (xMQ D cA b0 below args s hs res) (k_X7_oneTurn_146 b0 k) 146 := by
  unfold k_X7_oneTurn_146
  refine s_aload_n dX7_oneTurn_146 rfl ?_
  refine s_iload_n dX7_oneTurn_147 rfl ?_
  refine s_callV (Tb := TX7) (m_X7_maybeDone l D cA b0) rfl w_671 w_673 w_26 w_29 w_674 ⟨rfl, by decide, by decide, by decide +kernel⟩ (by decide) dX7_oneTurn_148 ?_
  refine s_iinc dX7_oneTurn_151 (by decide) (by decide) ?_
  refine s_goto (tgt := 95) dX7_oneTurn_154 (by decide) ?_
  exact hk1
set_option maxRecDepth 20000 in
theorem t_X7_oneTurn_95 (k : Nat → xK) (hk0 : xS p l e R s m args below meth c cX7_oneTurn 3 none yX7_oneTurn.cls yX7_oneTurn.name 6 142 D cA b0 hs res (xMQ D cA b0 below args s hs res) (k 0) 2) (hk1 : xS p l e R s m args below meth c cX7_oneTurn 3 none yX7_oneTurn.cls yX7_oneTurn.name 6 142 D cA b0 hs res (xMQ D cA b0 below args s hs res) (k 1) 95) (hk2 : xS p l e R s m args below meth c cX7_oneTurn 3 none yX7_oneTurn.cls yX7_oneTurn.name 6 142 D cA b0 hs res (xMQ D cA b0 below args s hs res) (k 2) 159) : xS p l e R s m args below meth c cX7_oneTurn 3 none yX7_oneTurn.cls yX7_oneTurn.name 6 142 D cA b0 hs res (xMQ D cA b0 below args s hs res) (k_X7_oneTurn_95 b0 k) 95 := by
  unfold k_X7_oneTurn_95
  refine s_iload_n dX7_oneTurn_95 rfl ?_
  refine s_aload_n dX7_oneTurn_96 rfl ?_
  refine s_getI (Tb := TX7) rfl inX7 (by decide) w_506 dX7_oneTurn_97 ?_
  refine s_c2ge (tgt := 157) dX7_oneTurn_100 (by decide) ?_ ?_
  · refine s_iconst dX7_oneTurn_157 (by decide) ?_
    refine s_istore_n dX7_oneTurn_158 rfl (by decide) ?_
    exact hk2
  · refine s_aload_n dX7_oneTurn_103 rfl ?_
    refine s_callV (Tb := TX7) (m_X7_pick l D cA b0) rfl w_620 w_622 w_14 w_29 w_623 ⟨rfl, by decide, by decide, by decide +kernel⟩ (by decide) dX7_oneTurn_104 ?_
    refine s_istore_n dX7_oneTurn_107 rfl (by decide) ?_
    refine s_iload_n dX7_oneTurn_108 rfl ?_
    refine s_c1lt (tgt := 151) dX7_oneTurn_109 (by decide) ?_ ?_
    · refine s_iinc dX7_oneTurn_151 (by decide) (by decide) ?_
      refine s_goto (tgt := 95) dX7_oneTurn_154 (by decide) ?_
      exact hk1
    · refine s_aload_n dX7_oneTurn_112 rfl ?_
      refine s_getR (Tb := TX7) rfl inX7 (by decide) w_503 dX7_oneTurn_113 ?_
      refine s_iload_n dX7_oneTurn_116 rfl ?_
      refine s_iconst dX7_oneTurn_117 (by decide) ?_
      refine s_zas dX7_oneTurn_118 ?_
      refine s_aload_n dX7_oneTurn_119 rfl ?_
      refine s_getR (Tb := TX7) rfl inX7 (by decide) w_479 dX7_oneTurn_120 ?_
      refine s_iload_n dX7_oneTurn_123 rfl ?_
      refine s_iconst dX7_oneTurn_124 (by decide) ?_
      refine s_ias dX7_oneTurn_125 ?_
      refine s_aload_n dX7_oneTurn_126 rfl ?_
      refine s_getR (Tb := TX7) rfl inX7 (by decide) w_485 dX7_oneTurn_127 ?_
      refine s_iload_n dX7_oneTurn_130 rfl ?_
      refine s_ial dX7_oneTurn_131 ?_
      refine s_aload_n dX7_oneTurn_132 rfl ?_
      refine s_getR (Tb := TX7) rfl inX7 (by decide) w_481 dX7_oneTurn_133 ?_
      refine s_iload_n dX7_oneTurn_136 rfl ?_
      refine s_ial dX7_oneTurn_137 ?_
      refine s_c2ge (tgt := 146) dX7_oneTurn_138 (by decide) ?_ ?_
      · exact t_X7_oneTurn_146 k hk0 hk1 hk2
      · refine s_aload_n dX7_oneTurn_141 rfl ?_
        refine s_iload_n dX7_oneTurn_142 rfl ?_
        refine s_callV (Tb := TX7) (m_X7_acts l D cA b0) rfl w_624 w_626 w_15 w_29 w_627 ⟨rfl, by decide, by decide, by decide +kernel⟩ (by decide) dX7_oneTurn_143 ?_
        exact t_X7_oneTurn_146 k hk0 hk1 hk2
set_option maxRecDepth 20000 in
theorem t_X7_oneTurn_197 (k : Nat → xK) (hk0 : xS p l e R s m args below meth c cX7_oneTurn 3 none yX7_oneTurn.cls yX7_oneTurn.name 6 142 D cA b0 hs res (xMQ D cA b0 below args s hs res) (k 0) 2) (hk1 : xS p l e R s m args below meth c cX7_oneTurn 3 none yX7_oneTurn.cls yX7_oneTurn.name 6 142 D cA b0 hs res (xMQ D cA b0 below args s hs res) (k 1) 95) (hk2 : xS p l e R s m args below meth c cX7_oneTurn 3 none yX7_oneTurn.cls yX7_oneTurn.name 6 142 D cA b0 hs res (xMQ D cA b0 below args s hs res) (k 2) 159) : xS p l e R s m args below meth c cX7_oneTurn 3 none yX7_oneTurn.cls yX7_oneTurn.name 6 142 D cA b0 hs res (xMQ D cA b0 below args s hs res) (k_X7_oneTurn_197 b0 k) 197 := by
  unfold k_X7_oneTurn_197
  refine s_iadd dX7_oneTurn_197 ?_
  refine s_ias dX7_oneTurn_198 ?_
  refine s_iinc dX7_oneTurn_199 (by decide) (by decide) ?_
  refine s_goto (tgt := 159) dX7_oneTurn_202 (by decide) ?_
  exact hk2
set_option maxRecDepth 20000 in
theorem t_X7_oneTurn_196 (k : Nat → xK) (hk0 : xS p l e R s m args below meth c cX7_oneTurn 3 none yX7_oneTurn.cls yX7_oneTurn.name 6 142 D cA b0 hs res (xMQ D cA b0 below args s hs res) (k 0) 2) (hk1 : xS p l e R s m args below meth c cX7_oneTurn 3 none yX7_oneTurn.cls yX7_oneTurn.name 6 142 D cA b0 hs res (xMQ D cA b0 below args s hs res) (k 1) 95) (hk2 : xS p l e R s m args below meth c cX7_oneTurn 3 none yX7_oneTurn.cls yX7_oneTurn.name 6 142 D cA b0 hs res (xMQ D cA b0 below args s hs res) (k 2) 159) : xS p l e R s m args below meth c cX7_oneTurn 3 none yX7_oneTurn.cls yX7_oneTurn.name 6 142 D cA b0 hs res (xMQ D cA b0 below args s hs res) (k_X7_oneTurn_196 b0 k) 196 := by
  unfold k_X7_oneTurn_196
  refine s_iconst dX7_oneTurn_196 (by decide) ?_
  exact t_X7_oneTurn_197 k hk0 hk1 hk2
set_option maxRecDepth 20000 in
theorem t_X7_oneTurn_159 (k : Nat → xK) (hk0 : xS p l e R s m args below meth c cX7_oneTurn 3 none yX7_oneTurn.cls yX7_oneTurn.name 6 142 D cA b0 hs res (xMQ D cA b0 below args s hs res) (k 0) 2) (hk1 : xS p l e R s m args below meth c cX7_oneTurn 3 none yX7_oneTurn.cls yX7_oneTurn.name 6 142 D cA b0 hs res (xMQ D cA b0 below args s hs res) (k 1) 95) (hk2 : xS p l e R s m args below meth c cX7_oneTurn 3 none yX7_oneTurn.cls yX7_oneTurn.name 6 142 D cA b0 hs res (xMQ D cA b0 below args s hs res) (k 2) 159) : xS p l e R s m args below meth c cX7_oneTurn 3 none yX7_oneTurn.cls yX7_oneTurn.name 6 142 D cA b0 hs res (xMQ D cA b0 below args s hs res) (k_X7_oneTurn_159 b0 k) 159 := by
  unfold k_X7_oneTurn_159
  refine s_iload_n dX7_oneTurn_159 rfl ?_
  refine s_aload_n dX7_oneTurn_160 rfl ?_
  refine s_getI (Tb := TX7) rfl inX7 (by decide) w_476 dX7_oneTurn_161 ?_
  refine s_c2ge (tgt := 205) dX7_oneTurn_164 (by decide) ?_ ?_
  · refine s_aload_n dX7_oneTurn_205 rfl ?_
    refine s_dup dX7_oneTurn_206 ?_
    refine s_getI (Tb := TX7) rfl inX7 (by decide) w_507 dX7_oneTurn_207 ?_
    refine s_iconst dX7_oneTurn_210 (by decide) ?_
    refine s_iadd dX7_oneTurn_211 ?_
    refine s_putI (Tb := TX7) rfl inX7 (by decide) w_507 tyX7 tyX7_ok nmX7 rfl rfl dX7_oneTurn_212 ?_
    exact s_retV rfl dX7_oneTurn_215
  · refine s_aload_n dX7_oneTurn_167 rfl ?_
    refine s_getR (Tb := TX7) rfl inX7 (by decide) w_479 dX7_oneTurn_168 ?_
    refine s_iload_n dX7_oneTurn_171 rfl ?_
    refine s_dup2 dX7_oneTurn_172 ?_
    refine s_ial dX7_oneTurn_173 ?_
    refine s_aload_n dX7_oneTurn_174 rfl ?_
    refine s_getR (Tb := TX7) rfl inX7 (by decide) w_480 dX7_oneTurn_175 ?_
    refine s_iload_n dX7_oneTurn_178 rfl ?_
    refine s_ial dX7_oneTurn_179 ?_
    refine s_c1ne (tgt := 196) dX7_oneTurn_180 (by decide) ?_ ?_
    · exact t_X7_oneTurn_196 k hk0 hk1 hk2
    · refine s_aload_n dX7_oneTurn_183 rfl ?_
      refine s_getR (Tb := TX7) rfl inX7 (by decide) w_503 dX7_oneTurn_184 ?_
      refine s_iload_n dX7_oneTurn_187 rfl ?_
      refine s_zal dX7_oneTurn_188 ?_
      refine s_c1ne (tgt := 196) dX7_oneTurn_189 (by decide) ?_ ?_
      · exact t_X7_oneTurn_196 k hk0 hk1 hk2
      · refine s_iconst dX7_oneTurn_192 (by decide) ?_
        refine s_goto (tgt := 197) dX7_oneTurn_193 (by decide) ?_
        exact t_X7_oneTurn_197 k hk0 hk1 hk2
theorem t_X7_oneTurn_r (n : Nat) : xS p l e R s m args below meth c cX7_oneTurn 3 none yX7_oneTurn.cls yX7_oneTurn.name 6 142 D cA b0 hs res (xMQ D cA b0 below args s hs res) (r_X7_oneTurn b0 n 0) 2 ∧ xS p l e R s m args below meth c cX7_oneTurn 3 none yX7_oneTurn.cls yX7_oneTurn.name 6 142 D cA b0 hs res (xMQ D cA b0 below args s hs res) (r_X7_oneTurn b0 n 1) 95 ∧ xS p l e R s m args below meth c cX7_oneTurn 3 none yX7_oneTurn.cls yX7_oneTurn.name 6 142 D cA b0 hs res (xMQ D cA b0 below args s hs res) (r_X7_oneTurn b0 n 2) 159 := by
  induction n with
  | zero => exact ⟨fun ls st h hT => (by cases hT), fun ls st h hT => (by cases hT), fun ls st h hT => (by cases hT)⟩
  | succ n ih =>
    obtain ⟨hk0, hk1, hk2⟩ := ih
    exact ⟨t_X7_oneTurn_2 (r_X7_oneTurn b0 n) hk0 hk1 hk2, t_X7_oneTurn_95 (r_X7_oneTurn b0 n) hk0 hk1 hk2, t_X7_oneTurn_159 (r_X7_oneTurn b0 n) hk0 hk1 hk2⟩
theorem m_X7_oneTurn (l : Launch) (D : va_G) (cA : Nat → ClassId) (b0 : Nat) : xMet l D cA b0 yX7_oneTurn (.code yX7_oneTurn cX7_oneTurn 3 none :: xTB) 6 142 (f_X7_oneTurn b0) :=
  xMet_of (n := 1) (by decide +kernel) (by decide) (fun p e R s m args below meth c hs res => t_X7_oneTurn_0 (r_X7_oneTurn b0 64) (t_X7_oneTurn_r 64).1 (t_X7_oneTurn_r 64).2.1 (t_X7_oneTurn_r 64).2.2)
end M_X7_oneTurn
section M_X7_turn
variable {p : Program} {l : Launch} {e : Env} {R : Room} {s : State} {m : MethodId} {args : Array Value} {below : List Frame} {meth : Method} {c : Code} {D : va_G} {cA : Nat → ClassId} {b0 : Nat} {hs : xH} {res : Option xV × xH}
set_option maxRecDepth 20000 in
theorem t_X7_turn_0 (k : Nat → xK) (hk0 : xS p l e R s m args below meth c cX7_turn 6 (some .int) yX7_turn.cls yX7_turn.name 7 164 D cA b0 hs res (xMQ D cA b0 below args s hs res) (k 0) 22) : xS p l e R s m args below meth c cX7_turn 6 (some .int) yX7_turn.cls yX7_turn.name 7 164 D cA b0 hs res (xMQ D cA b0 below args s hs res) (k_X7_turn_0 b0 k) 0 := by
  unfold k_X7_turn_0
  refine s_iload_n dX7_turn_0 rfl ?_
  refine s_iconst dX7_turn_1 (by decide) ?_
  refine s_bipush dX7_turn_2 (by decide) ?_
  refine s_callS (m_X7_in l D cA b0) w_597 w_598 w_29 w_599 ⟨rfl, by decide, by decide, by decide +kernel⟩ (by decide) dX7_turn_4 ?_
  refine s_c1ne (tgt := 12) dX7_turn_7 (by decide) ?_ ?_
  · refine s_aload_n dX7_turn_12 rfl ?_
    refine s_getI (Tb := TX7) rfl inX7 (by decide) w_508 dX7_turn_13 ?_
    refine s_istore_n dX7_turn_16 rfl (by decide) ?_
    refine s_iconst dX7_turn_17 (by decide) ?_
    refine s_istore_n dX7_turn_18 rfl (by decide) ?_
    refine s_iconst dX7_turn_19 (by decide) ?_
    refine s_istore dX7_turn_20 (by decide) ?_
    exact hk0
  · refine s_iconst dX7_turn_10 (by decide) ?_
    exact s_retI rfl dX7_turn_11
set_option maxRecDepth 20000 in
theorem t_X7_turn_63 (k : Nat → xK) (hk0 : xS p l e R s m args below meth c cX7_turn 6 (some .int) yX7_turn.cls yX7_turn.name 7 164 D cA b0 hs res (xMQ D cA b0 below args s hs res) (k 0) 22) : xS p l e R s m args below meth c cX7_turn 6 (some .int) yX7_turn.cls yX7_turn.name 7 164 D cA b0 hs res (xMQ D cA b0 below args s hs res) (k_X7_turn_63 b0 k) 63 := by
  unfold k_X7_turn_63
  refine s_aload_n dX7_turn_63 rfl ?_
  refine s_getI (Tb := TX7) rfl inX7 (by decide) w_508 dX7_turn_64 ?_
  refine s_iload_n dX7_turn_67 rfl ?_
  refine s_isub dX7_turn_68 ?_
  exact s_retI rfl dX7_turn_69
set_option maxRecDepth 20000 in
theorem t_X7_turn_22 (k : Nat → xK) (hk0 : xS p l e R s m args below meth c cX7_turn 6 (some .int) yX7_turn.cls yX7_turn.name 7 164 D cA b0 hs res (xMQ D cA b0 below args s hs res) (k 0) 22) : xS p l e R s m args below meth c cX7_turn 6 (some .int) yX7_turn.cls yX7_turn.name 7 164 D cA b0 hs res (xMQ D cA b0 below args s hs res) (k_X7_turn_22 b0 k) 22 := by
  unfold k_X7_turn_22
  refine s_iload dX7_turn_22 ?_
  refine s_iload_n dX7_turn_24 rfl ?_
  refine s_c2ge (tgt := 63) dX7_turn_25 (by decide) ?_ ?_
  · exact t_X7_turn_63 k hk0
  · refine s_iload_n dX7_turn_28 rfl ?_
    refine s_c1eq (tgt := 63) dX7_turn_29 (by decide) ?_ ?_
    · exact t_X7_turn_63 k hk0
    · refine s_aload_n dX7_turn_32 rfl ?_
      refine s_getI (Tb := TX7) rfl inX7 (by decide) w_508 dX7_turn_33 ?_
      refine s_istore dX7_turn_36 (by decide) ?_
      refine s_aload_n dX7_turn_38 rfl ?_
      refine s_callV (Tb := TX7) (m_X7_oneTurn l D cA b0) rfl w_616 w_618 w_13 w_29 w_619 ⟨rfl, by decide, by decide, by decide +kernel⟩ (by decide) dX7_turn_39 ?_
      refine s_aload_n dX7_turn_42 rfl ?_
      refine s_getI (Tb := TX7) rfl inX7 (by decide) w_508 dX7_turn_43 ?_
      refine s_iload dX7_turn_46 ?_
      refine s_c2le (tgt := 55) dX7_turn_48 (by decide) ?_ ?_
      · refine s_iconst dX7_turn_55 (by decide) ?_
        refine s_istore_n dX7_turn_56 rfl (by decide) ?_
        refine s_iinc dX7_turn_57 (by decide) (by decide) ?_
        refine s_goto (tgt := 22) dX7_turn_60 (by decide) ?_
        exact hk0
      · refine s_iconst dX7_turn_51 (by decide) ?_
        refine s_goto (tgt := 56) dX7_turn_52 (by decide) ?_
        refine s_istore_n dX7_turn_56 rfl (by decide) ?_
        refine s_iinc dX7_turn_57 (by decide) (by decide) ?_
        refine s_goto (tgt := 22) dX7_turn_60 (by decide) ?_
        exact hk0
theorem t_X7_turn_r (n : Nat) : xS p l e R s m args below meth c cX7_turn 6 (some .int) yX7_turn.cls yX7_turn.name 7 164 D cA b0 hs res (xMQ D cA b0 below args s hs res) (r_X7_turn b0 n 0) 22 := by
  induction n with
  | zero => exact fun ls st h hT => by cases hT
  | succ n ih => exact t_X7_turn_22 (r_X7_turn b0 n) ih
theorem m_X7_turn (l : Launch) (D : va_G) (cA : Nat → ClassId) (b0 : Nat) : xMet l D cA b0 yX7_turn (.code yX7_turn cX7_turn 6 (some .int) :: xTB) 7 164 (f_X7_turn b0) :=
  xMet_of (n := 2) (by decide +kernel) (by decide) (fun p e R s m args below meth c hs res => t_X7_turn_0 (r_X7_turn b0 64) (t_X7_turn_r 64))
end M_X7_turn
section M_X7_letter
variable {p : Program} {l : Launch} {e : Env} {R : Room} {s : State} {m : MethodId} {args : Array Value} {below : List Frame} {meth : Method} {c : Code} {D : va_G} {cA : Nat → ClassId} {b0 : Nat} {hs : xH} {res : Option xV × xH}
set_option maxRecDepth 20000 in
theorem t_X7_letter_0  : xS p l e R s m args below meth c cX7_letter 3 (some .int) yX7_letter.cls yX7_letter.name 2 43 D cA b0 hs res (xMQ D cA b0 below args s hs res) (k_X7_letter_0 b0) 0 := by
  unfold k_X7_letter_0
  refine s_aload_n dX7_letter_0 rfl ?_
  refine s_iload_n dX7_letter_1 rfl ?_
  refine s_callV (Tb := TX7) (m_X7_isTask l D cA b0) rfl w_604 w_606 w_12 w_29 w_607 ⟨rfl, by decide, by decide, by decide +kernel⟩ (by decide) dX7_letter_2 ?_
  refine s_c1ne (tgt := 10) dX7_letter_5 (by decide) ?_ ?_
  · refine s_aload_n dX7_letter_10 rfl ?_
    refine s_getR (Tb := TX7) rfl inX7 (by decide) w_480 dX7_letter_11 ?_
    refine s_iload_n dX7_letter_14 rfl ?_
    refine s_ial dX7_letter_15 ?_
    refine s_callS (m_X7_isOver l D cA b0) w_648 w_649 w_29 w_650 ⟨rfl, by decide, by decide, by decide +kernel⟩ (by decide) dX7_letter_16 ?_
    refine s_c1eq (tgt := 25) dX7_letter_19 (by decide) ?_ ?_
    · refine s_aload_n dX7_letter_25 rfl ?_
      refine s_getR (Tb := TX7) rfl inX7 (by decide) w_495 dX7_letter_26 ?_
      refine s_iload_n dX7_letter_29 rfl ?_
      refine s_ial dX7_letter_30 ?_
      refine s_bipush dX7_letter_31 (by decide) ?_
      refine s_c2ne (tgt := 39) dX7_letter_33 (by decide) ?_ ?_
      · refine s_aload_n dX7_letter_39 rfl ?_
        refine s_getR (Tb := TX7) rfl inX7 (by decide) w_496 dX7_letter_40 ?_
        refine s_bipush dX7_letter_43 (by decide) ?_
        refine s_iload_n dX7_letter_45 rfl ?_
        refine s_imul dX7_letter_46 ?_
        refine s_aload_n dX7_letter_47 rfl ?_
        refine s_getR (Tb := TX7) rfl inX7 (by decide) w_495 dX7_letter_48 ?_
        refine s_iload_n dX7_letter_51 rfl ?_
        refine s_ial dX7_letter_52 ?_
        refine s_iadd dX7_letter_53 ?_
        refine s_iload_n dX7_letter_54 rfl ?_
        refine s_ias dX7_letter_55 ?_
        refine s_aload_n dX7_letter_56 rfl ?_
        refine s_getR (Tb := TX7) rfl inX7 (by decide) w_495 dX7_letter_57 ?_
        refine s_iload_n dX7_letter_60 rfl ?_
        refine s_dup2 dX7_letter_61 ?_
        refine s_ial dX7_letter_62 ?_
        refine s_iconst dX7_letter_63 (by decide) ?_
        refine s_iadd dX7_letter_64 ?_
        refine s_ias dX7_letter_65 ?_
        refine s_aload_n dX7_letter_66 rfl ?_
        refine s_getR (Tb := TX7) rfl inX7 (by decide) w_495 dX7_letter_67 ?_
        refine s_iload_n dX7_letter_70 rfl ?_
        refine s_ial dX7_letter_71 ?_
        exact s_retI rfl dX7_letter_72
      · refine s_bipush dX7_letter_36 (by decide) ?_
        exact s_retI rfl dX7_letter_38
    · refine s_bipush dX7_letter_22 (by decide) ?_
      exact s_retI rfl dX7_letter_24
  · refine s_iconst dX7_letter_8 (by decide) ?_
    exact s_retI rfl dX7_letter_9
theorem m_X7_letter (l : Launch) (D : va_G) (cA : Nat → ClassId) (b0 : Nat) : xMet l D cA b0 yX7_letter (.code yX7_letter cX7_letter 3 (some .int) :: xTB) 2 43 (f_X7_letter b0) :=
  xMet_of (n := 3) (by decide +kernel) (by decide) (fun p e R s m args below meth c hs res => t_X7_letter_0)
end M_X7_letter
section M_X7_stop
variable {p : Program} {l : Launch} {e : Env} {R : Room} {s : State} {m : MethodId} {args : Array Value} {below : List Frame} {meth : Method} {c : Code} {D : va_G} {cA : Nat → ClassId} {b0 : Nat} {hs : xH} {res : Option xV × xH}
set_option maxRecDepth 20000 in
theorem t_X7_stop_0  : xS p l e R s m args below meth c cX7_stop 2 (some .int) yX7_stop.cls yX7_stop.name 2 43 D cA b0 hs res (xMQ D cA b0 below args s hs res) (k_X7_stop_0 b0) 0 := by
  unfold k_X7_stop_0
  refine s_aload_n dX7_stop_0 rfl ?_
  refine s_iload_n dX7_stop_1 rfl ?_
  refine s_callV (Tb := TX7) (m_X7_isTask l D cA b0) rfl w_604 w_606 w_12 w_29 w_607 ⟨rfl, by decide, by decide, by decide +kernel⟩ (by decide) dX7_stop_2 ?_
  refine s_c1ne (tgt := 10) dX7_stop_5 (by decide) ?_ ?_
  · refine s_aload_n dX7_stop_10 rfl ?_
    refine s_getR (Tb := TX7) rfl inX7 (by decide) w_480 dX7_stop_11 ?_
    refine s_iload_n dX7_stop_14 rfl ?_
    refine s_ial dX7_stop_15 ?_
    refine s_callS (m_X7_isOver l D cA b0) w_648 w_649 w_29 w_650 ⟨rfl, by decide, by decide, by decide +kernel⟩ (by decide) dX7_stop_16 ?_
    refine s_c1eq (tgt := 25) dX7_stop_19 (by decide) ?_ ?_
    · refine s_aload_n dX7_stop_25 rfl ?_
      refine s_getR (Tb := TX7) rfl inX7 (by decide) w_480 dX7_stop_26 ?_
      refine s_iload_n dX7_stop_29 rfl ?_
      refine s_iconst dX7_stop_30 (by decide) ?_
      refine s_ias dX7_stop_31 ?_
      refine s_iconst dX7_stop_32 (by decide) ?_
      exact s_retI rfl dX7_stop_33
    · refine s_bipush dX7_stop_22 (by decide) ?_
      exact s_retI rfl dX7_stop_24
  · refine s_iconst dX7_stop_8 (by decide) ?_
    exact s_retI rfl dX7_stop_9
theorem m_X7_stop (l : Launch) (D : va_G) (cA : Nat → ClassId) (b0 : Nat) : xMet l D cA b0 yX7_stop (.code yX7_stop cX7_stop 2 (some .int) :: xTB) 2 43 (f_X7_stop b0) :=
  xMet_of (n := 2) (by decide +kernel) (by decide) (fun p e R s m args below meth c hs res => t_X7_stop_0)
end M_X7_stop
section M_X7_again
variable {p : Program} {l : Launch} {e : Env} {R : Room} {s : State} {m : MethodId} {args : Array Value} {below : List Frame} {meth : Method} {c : Code} {D : va_G} {cA : Nat → ClassId} {b0 : Nat} {hs : xH} {res : Option xV × xH}
set_option maxRecDepth 20000 in
theorem t_X7_again_33  : xS p l e R s m args below meth c cX7_again 2 (some .int) yX7_again.cls yX7_again.name 2 43 D cA b0 hs res (xMQ D cA b0 below args s hs res) (k_X7_again_33 b0) 33 := by
  unfold k_X7_again_33
  refine s_aload_n dX7_again_33 rfl ?_
  refine s_getR (Tb := TX7) rfl inX7 (by decide) w_480 dX7_again_34 ?_
  refine s_iload_n dX7_again_37 rfl ?_
  refine s_iconst dX7_again_38 (by decide) ?_
  refine s_ias dX7_again_39 ?_
  refine s_aload_n dX7_again_40 rfl ?_
  refine s_iload_n dX7_again_41 rfl ?_
  refine s_callV (Tb := TX7) (m_X7_back l D cA b0) rfl w_667 w_669 w_25 w_29 w_670 ⟨rfl, by decide, by decide, by decide +kernel⟩ (by decide) dX7_again_42 ?_
  refine s_iconst dX7_again_45 (by decide) ?_
  exact s_retI rfl dX7_again_46
set_option maxRecDepth 20000 in
theorem t_X7_again_0  : xS p l e R s m args below meth c cX7_again 2 (some .int) yX7_again.cls yX7_again.name 2 43 D cA b0 hs res (xMQ D cA b0 below args s hs res) (k_X7_again_0 b0) 0 := by
  unfold k_X7_again_0
  refine s_aload_n dX7_again_0 rfl ?_
  refine s_iload_n dX7_again_1 rfl ?_
  refine s_callV (Tb := TX7) (m_X7_isTask l D cA b0) rfl w_604 w_606 w_12 w_29 w_607 ⟨rfl, by decide, by decide, by decide +kernel⟩ (by decide) dX7_again_2 ?_
  refine s_c1ne (tgt := 10) dX7_again_5 (by decide) ?_ ?_
  · refine s_aload_n dX7_again_10 rfl ?_
    refine s_getR (Tb := TX7) rfl inX7 (by decide) w_480 dX7_again_11 ?_
    refine s_iload_n dX7_again_14 rfl ?_
    refine s_ial dX7_again_15 ?_
    refine s_iconst dX7_again_16 (by decide) ?_
    refine s_c2eq (tgt := 33) dX7_again_17 (by decide) ?_ ?_
    · exact t_X7_again_33
    · refine s_aload_n dX7_again_20 rfl ?_
      refine s_getR (Tb := TX7) rfl inX7 (by decide) w_480 dX7_again_21 ?_
      refine s_iload_n dX7_again_24 rfl ?_
      refine s_ial dX7_again_25 ?_
      refine s_iconst dX7_again_26 (by decide) ?_
      refine s_c2eq (tgt := 33) dX7_again_27 (by decide) ?_ ?_
      · exact t_X7_again_33
      · refine s_bipush dX7_again_30 (by decide) ?_
        exact s_retI rfl dX7_again_32
  · refine s_iconst dX7_again_8 (by decide) ?_
    exact s_retI rfl dX7_again_9
theorem m_X7_again (l : Launch) (D : va_G) (cA : Nat → ClassId) (b0 : Nat) : xMet l D cA b0 yX7_again (.code yX7_again cX7_again 2 (some .int) :: xTB) 2 43 (f_X7_again b0) :=
  xMet_of (n := 2) (by decide +kernel) (by decide) (fun p e R s m args below meth c hs res => t_X7_again_0)
end M_X7_again
section M_X7_of
variable {p : Program} {l : Launch} {e : Env} {R : Room} {s : State} {m : MethodId} {args : Array Value} {below : List Frame} {meth : Method} {c : Code} {D : va_G} {cA : Nat → ClassId} {b0 : Nat} {hs : xH} {res : Option xV × xH}
set_option maxRecDepth 20000 in
theorem t_X7_of_68  : xS p l e R s m args below meth c cX7_of 3 (some .int) yX7_of.cls yX7_of.name 2 43 D cA b0 hs res (xMQ D cA b0 below args s hs res) (k_X7_of_68 b0) 68 := by
  unfold k_X7_of_68
  refine s_aload_n dX7_of_68 rfl ?_
  refine s_getR (Tb := TX7) rfl inX7 (by decide) w_480 dX7_of_69 ?_
  refine s_iload_n dX7_of_72 rfl ?_
  refine s_ial dX7_of_73 ?_
  exact s_retI rfl dX7_of_74
set_option maxRecDepth 20000 in
theorem t_X7_of_75  : xS p l e R s m args below meth c cX7_of 3 (some .int) yX7_of.cls yX7_of.name 2 43 D cA b0 hs res (xMQ D cA b0 below args s hs res) (k_X7_of_75 b0) 75 := by
  unfold k_X7_of_75
  refine s_aload_n dX7_of_75 rfl ?_
  refine s_getR (Tb := TX7) rfl inX7 (by decide) w_486 dX7_of_76 ?_
  refine s_iload_n dX7_of_79 rfl ?_
  refine s_ial dX7_of_80 ?_
  exact s_retI rfl dX7_of_81
set_option maxRecDepth 20000 in
theorem t_X7_of_82  : xS p l e R s m args below meth c cX7_of 3 (some .int) yX7_of.cls yX7_of.name 2 43 D cA b0 hs res (xMQ D cA b0 below args s hs res) (k_X7_of_82 b0) 82 := by
  unfold k_X7_of_82
  refine s_aload_n dX7_of_82 rfl ?_
  refine s_getR (Tb := TX7) rfl inX7 (by decide) w_485 dX7_of_83 ?_
  refine s_iload_n dX7_of_86 rfl ?_
  refine s_ial dX7_of_87 ?_
  exact s_retI rfl dX7_of_88
set_option maxRecDepth 20000 in
theorem t_X7_of_89  : xS p l e R s m args below meth c cX7_of 3 (some .int) yX7_of.cls yX7_of.name 2 43 D cA b0 hs res (xMQ D cA b0 below args s hs res) (k_X7_of_89 b0) 89 := by
  unfold k_X7_of_89
  refine s_aload_n dX7_of_89 rfl ?_
  refine s_getR (Tb := TX7) rfl inX7 (by decide) w_495 dX7_of_90 ?_
  refine s_iload_n dX7_of_93 rfl ?_
  refine s_ial dX7_of_94 ?_
  exact s_retI rfl dX7_of_95
set_option maxRecDepth 20000 in
theorem t_X7_of_96  : xS p l e R s m args below meth c cX7_of 3 (some .int) yX7_of.cls yX7_of.name 2 43 D cA b0 hs res (xMQ D cA b0 below args s hs res) (k_X7_of_96 b0) 96 := by
  unfold k_X7_of_96
  refine s_aload_n dX7_of_96 rfl ?_
  refine s_getR (Tb := TX7) rfl inX7 (by decide) w_479 dX7_of_97 ?_
  refine s_iload_n dX7_of_100 rfl ?_
  refine s_ial dX7_of_101 ?_
  exact s_retI rfl dX7_of_102
set_option maxRecDepth 20000 in
theorem t_X7_of_103  : xS p l e R s m args below meth c cX7_of 3 (some .int) yX7_of.cls yX7_of.name 2 43 D cA b0 hs res (xMQ D cA b0 below args s hs res) (k_X7_of_103 b0) 103 := by
  unfold k_X7_of_103
  refine s_aload_n dX7_of_103 rfl ?_
  refine s_getR (Tb := TX7) rfl inX7 (by decide) w_498 dX7_of_104 ?_
  refine s_iload_n dX7_of_107 rfl ?_
  refine s_ial dX7_of_108 ?_
  exact s_retI rfl dX7_of_109
set_option maxRecDepth 20000 in
theorem t_X7_of_110  : xS p l e R s m args below meth c cX7_of 3 (some .int) yX7_of.cls yX7_of.name 2 43 D cA b0 hs res (xMQ D cA b0 below args s hs res) (k_X7_of_110 b0) 110 := by
  unfold k_X7_of_110
  refine s_aload_n dX7_of_110 rfl ?_
  refine s_getR (Tb := TX7) rfl inX7 (by decide) w_499 dX7_of_111 ?_
  refine s_iload_n dX7_of_114 rfl ?_
  refine s_ial dX7_of_115 ?_
  exact s_retI rfl dX7_of_116
set_option maxRecDepth 20000 in
theorem t_X7_of_117  : xS p l e R s m args below meth c cX7_of 3 (some .int) yX7_of.cls yX7_of.name 2 43 D cA b0 hs res (xMQ D cA b0 below args s hs res) (k_X7_of_117 b0) 117 := by
  unfold k_X7_of_117
  refine s_aload_n dX7_of_117 rfl ?_
  refine s_getR (Tb := TX7) rfl inX7 (by decide) w_487 dX7_of_118 ?_
  refine s_iload_n dX7_of_121 rfl ?_
  refine s_ial dX7_of_122 ?_
  exact s_retI rfl dX7_of_123
set_option maxRecDepth 20000 in
theorem t_X7_of_124  : xS p l e R s m args below meth c cX7_of 3 (some .int) yX7_of.cls yX7_of.name 2 43 D cA b0 hs res (xMQ D cA b0 below args s hs res) (k_X7_of_124 b0) 124 := by
  unfold k_X7_of_124
  refine s_aload_n dX7_of_124 rfl ?_
  refine s_getR (Tb := TX7) rfl inX7 (by decide) w_493 dX7_of_125 ?_
  refine s_iload_n dX7_of_128 rfl ?_
  refine s_ial dX7_of_129 ?_
  exact s_retI rfl dX7_of_130
set_option maxRecDepth 20000 in
theorem t_X7_of_131  : xS p l e R s m args below meth c cX7_of 3 (some .int) yX7_of.cls yX7_of.name 2 43 D cA b0 hs res (xMQ D cA b0 below args s hs res) (k_X7_of_131 b0) 131 := by
  unfold k_X7_of_131
  refine s_aload_n dX7_of_131 rfl ?_
  refine s_getR (Tb := TX7) rfl inX7 (by decide) w_501 dX7_of_132 ?_
  refine s_iload_n dX7_of_135 rfl ?_
  refine s_ial dX7_of_136 ?_
  exact s_retI rfl dX7_of_137
set_option maxRecDepth 20000 in
theorem t_X7_of_138  : xS p l e R s m args below meth c cX7_of 3 (some .int) yX7_of.cls yX7_of.name 2 43 D cA b0 hs res (xMQ D cA b0 below args s hs res) (k_X7_of_138 b0) 138 := by
  unfold k_X7_of_138
  refine s_aload_n dX7_of_138 rfl ?_
  refine s_getR (Tb := TX7) rfl inX7 (by decide) w_500 dX7_of_139 ?_
  refine s_iload_n dX7_of_142 rfl ?_
  refine s_ial dX7_of_143 ?_
  exact s_retI rfl dX7_of_144
set_option maxRecDepth 20000 in
theorem t_X7_of_145  : xS p l e R s m args below meth c cX7_of 3 (some .int) yX7_of.cls yX7_of.name 2 43 D cA b0 hs res (xMQ D cA b0 below args s hs res) (k_X7_of_145 b0) 145 := by
  unfold k_X7_of_145
  refine s_iconst dX7_of_145 (by decide) ?_
  exact s_retI rfl dX7_of_146
set_option maxRecDepth 20000 in
theorem t_X7_of_0  : xS p l e R s m args below meth c cX7_of 3 (some .int) yX7_of.cls yX7_of.name 2 43 D cA b0 hs res (xMQ D cA b0 below args s hs res) (k_X7_of_0 b0) 0 := by
  unfold k_X7_of_0
  refine s_aload_n dX7_of_0 rfl ?_
  refine s_iload_n dX7_of_1 rfl ?_
  refine s_callV (Tb := TX7) (m_X7_isTask l D cA b0) rfl w_604 w_606 w_12 w_29 w_607 ⟨rfl, by decide, by decide, by decide +kernel⟩ (by decide) dX7_of_2 ?_
  refine s_c1ne (tgt := 10) dX7_of_5 (by decide) ?_ ?_
  · refine s_iload_n dX7_of_10 rfl ?_
    refine s_tab (tg := st_X7_of_11) (dt := 145) dX7_of_11 (by decide) (by decide) ?_ ?_ (t_X7_of_145)
    · intro j hj
      match j, hj with
      | 0, _ => exact ⟨57, rfl, by decide⟩
      | 1, _ => exact ⟨64, rfl, by decide⟩
      | 2, _ => exact ⟨71, rfl, by decide⟩
      | 3, _ => exact ⟨78, rfl, by decide⟩
      | 4, _ => exact ⟨85, rfl, by decide⟩
      | 5, _ => exact ⟨92, rfl, by decide⟩
      | 6, _ => exact ⟨99, rfl, by decide⟩
      | 7, _ => exact ⟨106, rfl, by decide⟩
      | 8, _ => exact ⟨113, rfl, by decide⟩
      | 9, _ => exact ⟨120, rfl, by decide⟩
      | 10, _ => exact ⟨127, rfl, by decide⟩
      | q + 11, hj => exact absurd hj (by omega)
    · intro j hj
      match j, hj with
      | 0, _ => exact t_X7_of_68
      | 1, _ => exact t_X7_of_75
      | 2, _ => exact t_X7_of_82
      | 3, _ => exact t_X7_of_89
      | 4, _ => exact t_X7_of_96
      | 5, _ => exact t_X7_of_103
      | 6, _ => exact t_X7_of_110
      | 7, _ => exact t_X7_of_117
      | 8, _ => exact t_X7_of_124
      | 9, _ => exact t_X7_of_131
      | 10, _ => exact t_X7_of_138
      | q + 11, hj => exact absurd hj (by omega)
  · refine s_iconst dX7_of_8 (by decide) ?_
    exact s_retI rfl dX7_of_9
theorem m_X7_of (l : Launch) (D : va_G) (cA : Nat → ClassId) (b0 : Nat) : xMet l D cA b0 yX7_of (.code yX7_of cX7_of 3 (some .int) :: xTB) 2 43 (f_X7_of b0) :=
  xMet_of (n := 3) (by decide +kernel) (by decide) (fun p e R s m args below meth c hs res => t_X7_of_0)
end M_X7_of
section M_X7_at
variable {p : Program} {l : Launch} {e : Env} {R : Room} {s : State} {m : MethodId} {args : Array Value} {below : List Frame} {meth : Method} {c : Code} {D : va_G} {cA : Nat → ClassId} {b0 : Nat} {hs : xH} {res : Option xV × xH}
set_option maxRecDepth 20000 in
theorem t_X7_at_0  : xS p l e R s m args below meth c cX7_at 4 (some .int) yX7_at.cls yX7_at.name 2 43 D cA b0 hs res (xMQ D cA b0 below args s hs res) (k_X7_at_0 b0) 0 := by
  unfold k_X7_at_0
  refine s_aload_n dX7_at_0 rfl ?_
  refine s_iload_n dX7_at_1 rfl ?_
  refine s_callV (Tb := TX7) (m_X7_isTask l D cA b0) rfl w_604 w_606 w_12 w_29 w_607 ⟨rfl, by decide, by decide, by decide +kernel⟩ (by decide) dX7_at_2 ?_
  refine s_c1ne (tgt := 10) dX7_at_5 (by decide) ?_ ?_
  · refine s_iload_n dX7_at_10 rfl ?_
    refine s_c1eq (tgt := 49) dX7_at_11 (by decide) ?_ ?_
    · refine s_iload_n dX7_at_49 rfl ?_
      refine s_iconst dX7_at_50 (by decide) ?_
      refine s_aload_n dX7_at_51 rfl ?_
      refine s_getR (Tb := TX7) rfl inX7 (by decide) w_487 dX7_at_52 ?_
      refine s_iload_n dX7_at_55 rfl ?_
      refine s_ial dX7_at_56 ?_
      refine s_iconst dX7_at_57 (by decide) ?_
      refine s_isub dX7_at_58 ?_
      refine s_callS (m_X7_in l D cA b0) w_597 w_598 w_29 w_599 ⟨rfl, by decide, by decide, by decide +kernel⟩ (by decide) dX7_at_59 ?_
      refine s_c1eq (tgt := 79) dX7_at_62 (by decide) ?_ ?_
      · refine s_iconst dX7_at_79 (by decide) ?_
        exact s_retI rfl dX7_at_80
      · refine s_aload_n dX7_at_65 rfl ?_
        refine s_getR (Tb := TX7) rfl inX7 (by decide) w_488 dX7_at_66 ?_
        refine s_bipush dX7_at_69 (by decide) ?_
        refine s_iload_n dX7_at_71 rfl ?_
        refine s_imul dX7_at_72 ?_
        refine s_iload_n dX7_at_73 rfl ?_
        refine s_iadd dX7_at_74 ?_
        refine s_ial dX7_at_75 ?_
        refine s_goto (tgt := 80) dX7_at_76 (by decide) ?_
        exact s_retI rfl dX7_at_80
    · refine s_aload_n dX7_at_14 rfl ?_
      refine s_getR (Tb := TX7) rfl inX7 (by decide) w_493 dX7_at_15 ?_
      refine s_iload_n dX7_at_18 rfl ?_
      refine s_ial dX7_at_19 ?_
      refine s_bipush dX7_at_20 (by decide) ?_
      refine s_c2eq (tgt := 34) dX7_at_22 (by decide) ?_ ?_
      · refine s_iconst dX7_at_34 (by decide) ?_
        refine s_goto (tgt := 48) dX7_at_35 (by decide) ?_
        exact s_retI rfl dX7_at_48
      · refine s_iload_n dX7_at_25 rfl ?_
        refine s_iconst dX7_at_26 (by decide) ?_
        refine s_iconst dX7_at_27 (by decide) ?_
        refine s_callS (m_X7_in l D cA b0) w_597 w_598 w_29 w_599 ⟨rfl, by decide, by decide, by decide +kernel⟩ (by decide) dX7_at_28 ?_
        refine s_c1ne (tgt := 38) dX7_at_31 (by decide) ?_ ?_
        · refine s_aload_n dX7_at_38 rfl ?_
          refine s_getR (Tb := TX7) rfl inX7 (by decide) w_494 dX7_at_39 ?_
          refine s_iconst dX7_at_42 (by decide) ?_
          refine s_iload_n dX7_at_43 rfl ?_
          refine s_imul dX7_at_44 ?_
          refine s_iload_n dX7_at_45 rfl ?_
          refine s_iadd dX7_at_46 ?_
          refine s_ial dX7_at_47 ?_
          exact s_retI rfl dX7_at_48
        · refine s_iconst dX7_at_34 (by decide) ?_
          refine s_goto (tgt := 48) dX7_at_35 (by decide) ?_
          exact s_retI rfl dX7_at_48
  · refine s_iconst dX7_at_8 (by decide) ?_
    exact s_retI rfl dX7_at_9
theorem m_X7_at (l : Launch) (D : va_G) (cA : Nat → ClassId) (b0 : Nat) : xMet l D cA b0 yX7_at (.code yX7_at cX7_at 4 (some .int) :: xTB) 2 43 (f_X7_at b0) :=
  xMet_of (n := 4) (by decide +kernel) (by decide) (fun p e R s m args below meth c hs res => t_X7_at_0)
end M_X7_at
section M_X7_letterAt
variable {p : Program} {l : Launch} {e : Env} {R : Room} {s : State} {m : MethodId} {args : Array Value} {below : List Frame} {meth : Method} {c : Code} {D : va_G} {cA : Nat → ClassId} {b0 : Nat} {hs : xH} {res : Option xV × xH}
set_option maxRecDepth 20000 in
theorem t_X7_letterAt_0  : xS p l e R s m args below meth c cX7_letterAt 3 (some .int) yX7_letterAt.cls yX7_letterAt.name 2 43 D cA b0 hs res (xMQ D cA b0 below args s hs res) (k_X7_letterAt_0 b0) 0 := by
  unfold k_X7_letterAt_0
  refine s_aload_n dX7_letterAt_0 rfl ?_
  refine s_iload_n dX7_letterAt_1 rfl ?_
  refine s_callV (Tb := TX7) (m_X7_isTask l D cA b0) rfl w_604 w_606 w_12 w_29 w_607 ⟨rfl, by decide, by decide, by decide +kernel⟩ (by decide) dX7_letterAt_2 ?_
  refine s_c1eq (tgt := 38) dX7_letterAt_5 (by decide) ?_ ?_
  · refine s_iconst dX7_letterAt_38 (by decide) ?_
    exact s_retI rfl dX7_letterAt_39
  · refine s_iload_n dX7_letterAt_8 rfl ?_
    refine s_iconst dX7_letterAt_9 (by decide) ?_
    refine s_aload_n dX7_letterAt_10 rfl ?_
    refine s_getR (Tb := TX7) rfl inX7 (by decide) w_495 dX7_letterAt_11 ?_
    refine s_iload_n dX7_letterAt_14 rfl ?_
    refine s_ial dX7_letterAt_15 ?_
    refine s_iconst dX7_letterAt_16 (by decide) ?_
    refine s_isub dX7_letterAt_17 ?_
    refine s_callS (m_X7_in l D cA b0) w_597 w_598 w_29 w_599 ⟨rfl, by decide, by decide, by decide +kernel⟩ (by decide) dX7_letterAt_18 ?_
    refine s_c1eq (tgt := 38) dX7_letterAt_21 (by decide) ?_ ?_
    · refine s_iconst dX7_letterAt_38 (by decide) ?_
      exact s_retI rfl dX7_letterAt_39
    · refine s_aload_n dX7_letterAt_24 rfl ?_
      refine s_getR (Tb := TX7) rfl inX7 (by decide) w_496 dX7_letterAt_25 ?_
      refine s_bipush dX7_letterAt_28 (by decide) ?_
      refine s_iload_n dX7_letterAt_30 rfl ?_
      refine s_imul dX7_letterAt_31 ?_
      refine s_iload_n dX7_letterAt_32 rfl ?_
      refine s_iadd dX7_letterAt_33 ?_
      refine s_ial dX7_letterAt_34 ?_
      refine s_goto (tgt := 39) dX7_letterAt_35 (by decide) ?_
      exact s_retI rfl dX7_letterAt_39
theorem m_X7_letterAt (l : Launch) (D : va_G) (cA : Nat → ClassId) (b0 : Nat) : xMet l D cA b0 yX7_letterAt (.code yX7_letterAt cX7_letterAt 3 (some .int) :: xTB) 2 43 (f_X7_letterAt b0) :=
  xMet_of (n := 3) (by decide +kernel) (by decide) (fun p e R s m args below meth c hs res => t_X7_letterAt_0)
end M_X7_letterAt
section M_X7_count
variable {p : Program} {l : Launch} {e : Env} {R : Room} {s : State} {m : MethodId} {args : Array Value} {below : List Frame} {meth : Method} {c : Code} {D : va_G} {cA : Nat → ClassId} {b0 : Nat} {hs : xH} {res : Option xV × xH}
set_option maxRecDepth 20000 in
theorem t_X7_count_0 (k : Nat → xK) (hk0 : xS p l e R s m args below meth c cX7_count 4 (some .int) yX7_count.cls yX7_count.name 1 20 D cA b0 hs res (xMQ D cA b0 below args s hs res) (k 0) 4) : xS p l e R s m args below meth c cX7_count 4 (some .int) yX7_count.cls yX7_count.name 1 20 D cA b0 hs res (xMQ D cA b0 below args s hs res) (k_X7_count_0 b0 k) 0 := by
  unfold k_X7_count_0
  refine s_iconst dX7_count_0 (by decide) ?_
  refine s_istore_n dX7_count_1 rfl (by decide) ?_
  refine s_iconst dX7_count_2 (by decide) ?_
  refine s_istore_n dX7_count_3 rfl (by decide) ?_
  exact hk0
set_option maxRecDepth 20000 in
theorem t_X7_count_80 (k : Nat → xK) (hk0 : xS p l e R s m args below meth c cX7_count 4 (some .int) yX7_count.cls yX7_count.name 1 20 D cA b0 hs res (xMQ D cA b0 below args s hs res) (k 0) 4) : xS p l e R s m args below meth c cX7_count 4 (some .int) yX7_count.cls yX7_count.name 1 20 D cA b0 hs res (xMQ D cA b0 below args s hs res) (k_X7_count_80 b0 k) 80 := by
  unfold k_X7_count_80
  refine s_aload_n dX7_count_80 rfl ?_
  refine s_getI (Tb := TX7) rfl inX7 (by decide) w_476 dX7_count_81 ?_
  exact s_retI rfl dX7_count_84
set_option maxRecDepth 20000 in
theorem t_X7_count_85 (k : Nat → xK) (hk0 : xS p l e R s m args below meth c cX7_count 4 (some .int) yX7_count.cls yX7_count.name 1 20 D cA b0 hs res (xMQ D cA b0 below args s hs res) (k 0) 4) : xS p l e R s m args below meth c cX7_count 4 (some .int) yX7_count.cls yX7_count.name 1 20 D cA b0 hs res (xMQ D cA b0 below args s hs res) (k_X7_count_85 b0 k) 85 := by
  unfold k_X7_count_85
  refine s_aload_n dX7_count_85 rfl ?_
  refine s_getI (Tb := TX7) rfl inX7 (by decide) w_507 dX7_count_86 ?_
  exact s_retI rfl dX7_count_89
set_option maxRecDepth 20000 in
theorem t_X7_count_90 (k : Nat → xK) (hk0 : xS p l e R s m args below meth c cX7_count 4 (some .int) yX7_count.cls yX7_count.name 1 20 D cA b0 hs res (xMQ D cA b0 below args s hs res) (k 0) 4) : xS p l e R s m args below meth c cX7_count 4 (some .int) yX7_count.cls yX7_count.name 1 20 D cA b0 hs res (xMQ D cA b0 below args s hs res) (k_X7_count_90 b0 k) 90 := by
  unfold k_X7_count_90
  refine s_aload_n dX7_count_90 rfl ?_
  refine s_getI (Tb := TX7) rfl inX7 (by decide) w_508 dX7_count_91 ?_
  exact s_retI rfl dX7_count_94
set_option maxRecDepth 20000 in
theorem t_X7_count_95 (k : Nat → xK) (hk0 : xS p l e R s m args below meth c cX7_count 4 (some .int) yX7_count.cls yX7_count.name 1 20 D cA b0 hs res (xMQ D cA b0 below args s hs res) (k 0) 4) : xS p l e R s m args below meth c cX7_count 4 (some .int) yX7_count.cls yX7_count.name 1 20 D cA b0 hs res (xMQ D cA b0 below args s hs res) (k_X7_count_95 b0 k) 95 := by
  unfold k_X7_count_95
  refine s_aload_n dX7_count_95 rfl ?_
  refine s_getI (Tb := TX7) rfl inX7 (by decide) w_509 dX7_count_96 ?_
  exact s_retI rfl dX7_count_99
set_option maxRecDepth 20000 in
theorem t_X7_count_100 (k : Nat → xK) (hk0 : xS p l e R s m args below meth c cX7_count 4 (some .int) yX7_count.cls yX7_count.name 1 20 D cA b0 hs res (xMQ D cA b0 below args s hs res) (k 0) 4) : xS p l e R s m args below meth c cX7_count 4 (some .int) yX7_count.cls yX7_count.name 1 20 D cA b0 hs res (xMQ D cA b0 below args s hs res) (k_X7_count_100 b0 k) 100 := by
  unfold k_X7_count_100
  refine s_aload_n dX7_count_100 rfl ?_
  refine s_getI (Tb := TX7) rfl inX7 (by decide) w_510 dX7_count_101 ?_
  exact s_retI rfl dX7_count_104
set_option maxRecDepth 20000 in
theorem t_X7_count_105 (k : Nat → xK) (hk0 : xS p l e R s m args below meth c cX7_count 4 (some .int) yX7_count.cls yX7_count.name 1 20 D cA b0 hs res (xMQ D cA b0 below args s hs res) (k 0) 4) : xS p l e R s m args below meth c cX7_count 4 (some .int) yX7_count.cls yX7_count.name 1 20 D cA b0 hs res (xMQ D cA b0 below args s hs res) (k_X7_count_105 b0 k) 105 := by
  unfold k_X7_count_105
  refine s_aload_n dX7_count_105 rfl ?_
  refine s_getI (Tb := TX7) rfl inX7 (by decide) w_511 dX7_count_106 ?_
  exact s_retI rfl dX7_count_109
set_option maxRecDepth 20000 in
theorem t_X7_count_110 (k : Nat → xK) (hk0 : xS p l e R s m args below meth c cX7_count 4 (some .int) yX7_count.cls yX7_count.name 1 20 D cA b0 hs res (xMQ D cA b0 below args s hs res) (k 0) 4) : xS p l e R s m args below meth c cX7_count 4 (some .int) yX7_count.cls yX7_count.name 1 20 D cA b0 hs res (xMQ D cA b0 below args s hs res) (k_X7_count_110 b0 k) 110 := by
  unfold k_X7_count_110
  refine s_iload_n dX7_count_110 rfl ?_
  exact s_retI rfl dX7_count_111
set_option maxRecDepth 20000 in
theorem t_X7_count_112 (k : Nat → xK) (hk0 : xS p l e R s m args below meth c cX7_count 4 (some .int) yX7_count.cls yX7_count.name 1 20 D cA b0 hs res (xMQ D cA b0 below args s hs res) (k 0) 4) : xS p l e R s m args below meth c cX7_count 4 (some .int) yX7_count.cls yX7_count.name 1 20 D cA b0 hs res (xMQ D cA b0 below args s hs res) (k_X7_count_112 b0 k) 112 := by
  unfold k_X7_count_112
  refine s_iconst dX7_count_112 (by decide) ?_
  exact s_retI rfl dX7_count_113
set_option maxRecDepth 20000 in
theorem t_X7_count_30 (k : Nat → xK) (hk0 : xS p l e R s m args below meth c cX7_count 4 (some .int) yX7_count.cls yX7_count.name 1 20 D cA b0 hs res (xMQ D cA b0 below args s hs res) (k 0) 4) : xS p l e R s m args below meth c cX7_count 4 (some .int) yX7_count.cls yX7_count.name 1 20 D cA b0 hs res (xMQ D cA b0 below args s hs res) (k_X7_count_30 b0 k) 30 := by
  unfold k_X7_count_30
  refine s_iadd dX7_count_30 ?_
  refine s_istore_n dX7_count_31 rfl (by decide) ?_
  refine s_iinc dX7_count_32 (by decide) (by decide) ?_
  refine s_goto (tgt := 4) dX7_count_35 (by decide) ?_
  exact hk0
set_option maxRecDepth 20000 in
theorem t_X7_count_4 (k : Nat → xK) (hk0 : xS p l e R s m args below meth c cX7_count 4 (some .int) yX7_count.cls yX7_count.name 1 20 D cA b0 hs res (xMQ D cA b0 below args s hs res) (k 0) 4) : xS p l e R s m args below meth c cX7_count 4 (some .int) yX7_count.cls yX7_count.name 1 20 D cA b0 hs res (xMQ D cA b0 below args s hs res) (k_X7_count_4 b0 k) 4 := by
  unfold k_X7_count_4
  refine s_iload_n dX7_count_4 rfl ?_
  refine s_aload_n dX7_count_5 rfl ?_
  refine s_getI (Tb := TX7) rfl inX7 (by decide) w_476 dX7_count_6 ?_
  refine s_c2ge (tgt := 38) dX7_count_9 (by decide) ?_ ?_
  · refine s_iload_n dX7_count_38 rfl ?_
    refine s_tab (tg := st_X7_count_39) (dt := 112) dX7_count_39 (by decide) (by decide) ?_ ?_ (t_X7_count_112 k hk0)
    · intro j hj
      match j, hj with
      | 0, _ => exact ⟨41, rfl, by decide⟩
      | 1, _ => exact ⟨46, rfl, by decide⟩
      | 2, _ => exact ⟨51, rfl, by decide⟩
      | 3, _ => exact ⟨56, rfl, by decide⟩
      | 4, _ => exact ⟨61, rfl, by decide⟩
      | 5, _ => exact ⟨66, rfl, by decide⟩
      | 6, _ => exact ⟨71, rfl, by decide⟩
      | q + 7, hj => exact absurd hj (by omega)
    · intro j hj
      match j, hj with
      | 0, _ => exact t_X7_count_80 k hk0
      | 1, _ => exact t_X7_count_85 k hk0
      | 2, _ => exact t_X7_count_90 k hk0
      | 3, _ => exact t_X7_count_95 k hk0
      | 4, _ => exact t_X7_count_100 k hk0
      | 5, _ => exact t_X7_count_105 k hk0
      | 6, _ => exact t_X7_count_110 k hk0
      | q + 7, hj => exact absurd hj (by omega)
  · refine s_iload_n dX7_count_12 rfl ?_
    refine s_aload_n dX7_count_13 rfl ?_
    refine s_getR (Tb := TX7) rfl inX7 (by decide) w_480 dX7_count_14 ?_
    refine s_iload_n dX7_count_17 rfl ?_
    refine s_ial dX7_count_18 ?_
    refine s_callS (m_X7_isOver l D cA b0) w_648 w_649 w_29 w_650 ⟨rfl, by decide, by decide, by decide +kernel⟩ (by decide) dX7_count_19 ?_
    refine s_c1eq (tgt := 29) dX7_count_22 (by decide) ?_ ?_
    · refine s_iconst dX7_count_29 (by decide) ?_
      exact t_X7_count_30 k hk0
    · refine s_iconst dX7_count_25 (by decide) ?_
      refine s_goto (tgt := 30) dX7_count_26 (by decide) ?_
      exact t_X7_count_30 k hk0
theorem t_X7_count_r (n : Nat) : xS p l e R s m args below meth c cX7_count 4 (some .int) yX7_count.cls yX7_count.name 1 20 D cA b0 hs res (xMQ D cA b0 below args s hs res) (r_X7_count b0 n 0) 4 := by
  induction n with
  | zero => exact fun ls st h hT => by cases hT
  | succ n ih => exact t_X7_count_4 (r_X7_count b0 n) ih
theorem m_X7_count (l : Launch) (D : va_G) (cA : Nat → ClassId) (b0 : Nat) : xMet l D cA b0 yX7_count (.code yX7_count cX7_count 4 (some .int) :: xTB) 1 20 (f_X7_count b0) :=
  xMet_of (n := 2) (by decide +kernel) (by decide) (fun p e R s m args below meth c hs res => t_X7_count_0 (r_X7_count b0 64) (t_X7_count_r 64))
end M_X7_count
section M_X7_done
variable {p : Program} {l : Launch} {e : Env} {R : Room} {s : State} {m : MethodId} {args : Array Value} {below : List Frame} {meth : Method} {c : Code} {D : va_G} {cA : Nat → ClassId} {b0 : Nat} {hs : xH} {res : Option xV × xH}
set_option maxRecDepth 20000 in
theorem t_X7_done_0  : xS p l e R s m args below meth c cX7_done 2 (some .int) yX7_done.cls yX7_done.name 1 22 D cA b0 hs res (xMQ D cA b0 below args s hs res) (k_X7_done_0 b0) 0 := by
  unfold k_X7_done_0
  refine s_iload_n dX7_done_0 rfl ?_
  refine s_iconst dX7_done_1 (by decide) ?_
  refine s_aload_n dX7_done_2 rfl ?_
  refine s_getI (Tb := TX7) rfl inX7 (by decide) w_505 dX7_done_3 ?_
  refine s_iconst dX7_done_6 (by decide) ?_
  refine s_isub dX7_done_7 ?_
  refine s_callS (m_X7_in l D cA b0) w_597 w_598 w_29 w_599 ⟨rfl, by decide, by decide, by decide +kernel⟩ (by decide) dX7_done_8 ?_
  refine s_c1eq (tgt := 23) dX7_done_11 (by decide) ?_ ?_
  · refine s_bipush dX7_done_23 (by decide) ?_
    exact s_retI rfl dX7_done_25
  · refine s_aload_n dX7_done_14 rfl ?_
    refine s_getR (Tb := TX7) rfl inX7 (by decide) w_504 dX7_done_15 ?_
    refine s_iload_n dX7_done_18 rfl ?_
    refine s_ial dX7_done_19 ?_
    refine s_goto (tgt := 25) dX7_done_20 (by decide) ?_
    exact s_retI rfl dX7_done_25
theorem m_X7_done (l : Launch) (D : va_G) (cA : Nat → ClassId) (b0 : Nat) : xMet l D cA b0 yX7_done (.code yX7_done cX7_done 2 (some .int) :: xTB) 1 22 (f_X7_done b0) :=
  xMet_of (n := 2) (by decide +kernel) (by decide) (fun p e R s m args below meth c hs res => t_X7_done_0)
end M_X7_done
end
