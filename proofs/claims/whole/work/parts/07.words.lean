theorem xsub (ws : List Cond) (ps : List Nat) (hp : ws = ps.filterMap (fun i => lw_tbl[i]?)) (hg : ws.all goodWord = true) : ∀ w ∈ ws, w ∈ xTB := by
  intro w hw
  have h1 := List.all_eq_true.mp hg w hw
  rw [hp] at hw
  obtain ⟨i, -, hi⟩ := List.mem_filterMap.mp hw
  exact xmem i hi h1
set_option maxRecDepth 20000 in
theorem inX0 : ∀ w ∈ u_ws RX0 TX0 4, w ∈ xTB := xsub _ [102, 104, 106, 108] (by decide +kernel) (by decide +kernel)
def n_X0 : List xV := [.inr (.inr none), .inr (.inr none), .inr (.inr none), .inl 0]
theorem nd_X0 : ∀ j, j < 4 → defaultValue (tyX0 j) = vp_V (n_X0.map xv) j := by decide +kernel
set_option maxRecDepth 20000 in
theorem inX1 : ∀ w ∈ u_ws RX1 TX1 2, w ∈ xTB := xsub _ [154, 156] (by decide +kernel) (by decide +kernel)
def n_X1 : List xV := [.inr (.inr none), .inl 0]
theorem nd_X1 : ∀ j, j < 2 → defaultValue (tyX1 j) = vp_V (n_X1.map xv) j := by decide +kernel
set_option maxRecDepth 20000 in
theorem inX2 : ∀ w ∈ u_ws RX2 TX2 2, w ∈ xTB := xsub _ [122, 124] (by decide +kernel) (by decide +kernel)
def n_X2 : List xV := [.inr (.inr none), .inl 0]
theorem nd_X2 : ∀ j, j < 2 → defaultValue (tyX2 j) = vp_V (n_X2.map xv) j := by decide +kernel
set_option maxRecDepth 20000 in
theorem inX3 : ∀ w ∈ u_ws RX3 TX3 3, w ∈ xTB := xsub _ [171, 173, 175] (by decide +kernel) (by decide +kernel)
def n_X3 : List xV := [.inr (.inr none), .inl 0, .inl 0]
theorem nd_X3 : ∀ j, j < 3 → defaultValue (tyX3 j) = vp_V (n_X3.map xv) j := by decide +kernel
set_option maxRecDepth 20000 in
theorem inX4 : ∀ w ∈ u_ws RX4 TX4 2, w ∈ xTB := xsub _ [138, 140] (by decide +kernel) (by decide +kernel)
def n_X4 : List xV := [.inr (.inr none), .inl 0]
theorem nd_X4 : ∀ j, j < 2 → defaultValue (tyX4 j) = vp_V (n_X4.map xv) j := by decide +kernel
set_option maxRecDepth 20000 in
theorem inX5 : ∀ w ∈ u_ws RX5 TX5 19, w ∈ xTB := xsub _ [209, 211, 213, 215, 217, 219, 221, 223, 225, 227, 229, 231, 233, 235, 237, 239, 241, 243, 245] (by decide +kernel) (by decide +kernel)
def n_X5 : List xV := [.inl 0, .inl 0, .inl 0, .inr (.inr none), .inr (.inr none), .inr (.inr none), .inr (.inr none), .inr (.inr none), .inl 0, .inl 0, .inl 0, .inl 0, .inl 0, .inl 0, .inl 0, .inl 0, .inl 0, .inl 0, .inl 0]
theorem nd_X5 : ∀ j, j < 19 → defaultValue (tyX5 j) = vp_V (n_X5.map xv) j := by decide +kernel
set_option maxRecDepth 20000 in
theorem inX6 : ∀ w ∈ u_ws RX6 TX6 10, w ∈ xTB := xsub _ [57, 59, 61, 63, 65, 67, 69, 71, 73, 75] (by decide +kernel) (by decide +kernel)
def n_X6 : List xV := [.inr (.inr none), .inr (.inr none), .inl 0, .inl 0, .inl 0, .inl 0, .inl 0, .inl 0, .inl 0, .inl 0]
theorem nd_X6 : ∀ j, j < 10 → defaultValue (tyX6 j) = vp_V (n_X6.map xv) j := by decide +kernel
set_option maxRecDepth 20000 in
theorem inX7 : ∀ w ∈ u_ws RX7 TX7 38, w ∈ xTB := xsub _ [514, 516, 518, 520, 522, 524, 526, 528, 530, 532, 534, 536, 538, 540, 542, 544, 546, 548, 550, 552, 554, 556, 558, 560, 562, 564, 566, 568, 570, 572, 574, 576, 578, 580, 582, 584, 586, 588] (by decide +kernel) (by decide +kernel)
def n_X7 : List xV := [.inl 0, .inr (.inr none), .inr (.inr none), .inr (.inr none), .inr (.inr none), .inr (.inr none), .inr (.inr none), .inr (.inr none), .inr (.inr none), .inr (.inr none), .inr (.inr none), .inr (.inr none), .inr (.inr none), .inr (.inr none), .inr (.inr none), .inr (.inr none), .inr (.inr none), .inr (.inr none), .inr (.inr none), .inr (.inr none), .inr (.inr none), .inr (.inr none), .inr (.inr none), .inr (.inr none), .inr (.inr none), .inr (.inr none), .inr (.inr none), .inr (.inr none), .inr (.inr none), .inl 0, .inl 0, .inl 0, .inl 0, .inl 0, .inl 0, .inl 0, .inl 0, .inl 0]
theorem nd_X7 : ∀ j, j < 38 → defaultValue (tyX7 j) = vp_V (n_X7.map xv) j := by decide +kernel
set_option maxRecDepth 20000 in
theorem w_0 : (Jvm.Cond.selects "TaskTurns" ({ cls := "TaskTurns", name := "find", desc := "(I)LTaskTurns$Task;" } : Jvm.MethodName) ({ cls := "TaskTurns", name := "find", desc := "(I)LTaskTurns$Task;" } : Jvm.MethodName)) ∈ xTB := xmem 0 (by decide +kernel) (by decide +kernel)
set_option maxRecDepth 20000 in
theorem w_1 : (Jvm.Cond.selects "TaskTurns" ({ cls := "TaskTurns", name := "doTurn", desc := "()V" } : Jvm.MethodName) ({ cls := "TaskTurns", name := "doTurn", desc := "()V" } : Jvm.MethodName)) ∈ xTB := xmem 1 (by decide +kernel) (by decide +kernel)
set_option maxRecDepth 20000 in
theorem w_2 : (Jvm.Cond.selects "TaskTurns" ({ cls := "TaskTurns", name := "wakeTasks", desc := "()V" } : Jvm.MethodName) ({ cls := "TaskTurns", name := "wakeTasks", desc := "()V" } : Jvm.MethodName)) ∈ xTB := xmem 2 (by decide +kernel) (by decide +kernel)
set_option maxRecDepth 20000 in
theorem w_3 : (Jvm.Cond.selects "TaskTurns" ({ cls := "TaskTurns", name := "findNextToWork", desc := "()LTaskTurns$Task;" } : Jvm.MethodName) ({ cls := "TaskTurns", name := "findNextToWork", desc := "()LTaskTurns$Task;" } : Jvm.MethodName)) ∈ xTB := xmem 3 (by decide +kernel) (by decide +kernel)
set_option maxRecDepth 20000 in
theorem w_4 : (Jvm.Cond.selects "TaskTurns" ({ cls := "TaskTurns", name := "giveTurn", desc := "(LTaskTurns$Task;)V" } : Jvm.MethodName) ({ cls := "TaskTurns", name := "giveTurn", desc := "(LTaskTurns$Task;)V" } : Jvm.MethodName)) ∈ xTB := xmem 4 (by decide +kernel) (by decide +kernel)
set_option maxRecDepth 20000 in
theorem w_5 : (Jvm.Cond.selects "TaskTurns" ({ cls := "TaskTurns", name := "doGuard", desc := "(LTaskTurns$Task;)I" } : Jvm.MethodName) ({ cls := "TaskTurns", name := "doGuard", desc := "(LTaskTurns$Task;)I" } : Jvm.MethodName)) ∈ xTB := xmem 5 (by decide +kernel) (by decide +kernel)
set_option maxRecDepth 20000 in
theorem w_6 : (Jvm.Cond.selects "TaskTurns" ({ cls := "TaskTurns", name := "doAct", desc := "(LTaskTurns$Task;Z)I" } : Jvm.MethodName) ({ cls := "TaskTurns", name := "doAct", desc := "(LTaskTurns$Task;Z)I" } : Jvm.MethodName)) ∈ xTB := xmem 6 (by decide +kernel) (by decide +kernel)
set_option maxRecDepth 20000 in
theorem w_7 : (Jvm.Cond.selects "TaskTurns" ({ cls := "TaskTurns", name := "send", desc := "(II)I" } : Jvm.MethodName) ({ cls := "TaskTurns", name := "send", desc := "(II)I" } : Jvm.MethodName)) ∈ xTB := xmem 7 (by decide +kernel) (by decide +kernel)
set_option maxRecDepth 20000 in
theorem w_8 : (Jvm.Cond.selects "TaskTurns" ({ cls := "TaskTurns", name := "ask", desc := "(LTaskTurns$Task;I)I" } : Jvm.MethodName) ({ cls := "TaskTurns", name := "ask", desc := "(LTaskTurns$Task;I)I" } : Jvm.MethodName)) ∈ xTB := xmem 8 (by decide +kernel) (by decide +kernel)
set_option maxRecDepth 20000 in
theorem w_9 : (Jvm.Cond.selects "TaskTurns" ({ cls := "TaskTurns", name := "becomeDone", desc := "(LTaskTurns$Task;)V" } : Jvm.MethodName) ({ cls := "TaskTurns", name := "becomeDone", desc := "(LTaskTurns$Task;)V" } : Jvm.MethodName)) ∈ xTB := xmem 9 (by decide +kernel) (by decide +kernel)
set_option maxRecDepth 20000 in
theorem w_10 : (Jvm.Cond.selects "TaskTurns" ({ cls := "TaskTurns", name := "ageTasks", desc := "()V" } : Jvm.MethodName) ({ cls := "TaskTurns", name := "ageTasks", desc := "()V" } : Jvm.MethodName)) ∈ xTB := xmem 10 (by decide +kernel) (by decide +kernel)
set_option maxRecDepth 20000 in
theorem w_11 : (Jvm.Cond.selects "TaskTurns" ({ cls := "TaskTurns", name := "countGoingOn", desc := "()I" } : Jvm.MethodName) ({ cls := "TaskTurns", name := "countGoingOn", desc := "()I" } : Jvm.MethodName)) ∈ xTB := xmem 11 (by decide +kernel) (by decide +kernel)
set_option maxRecDepth 20000 in
theorem w_12 : (Jvm.Cond.selects "TaskTurnsModel" ({ cls := "TaskTurnsModel", name := "isTask", desc := "(I)Z" } : Jvm.MethodName) ({ cls := "TaskTurnsModel", name := "isTask", desc := "(I)Z" } : Jvm.MethodName)) ∈ xTB := xmem 12 (by decide +kernel) (by decide +kernel)
set_option maxRecDepth 20000 in
theorem w_13 : (Jvm.Cond.selects "TaskTurnsModel" ({ cls := "TaskTurnsModel", name := "oneTurn", desc := "()V" } : Jvm.MethodName) ({ cls := "TaskTurnsModel", name := "oneTurn", desc := "()V" } : Jvm.MethodName)) ∈ xTB := xmem 13 (by decide +kernel) (by decide +kernel)
set_option maxRecDepth 20000 in
theorem w_14 : (Jvm.Cond.selects "TaskTurnsModel" ({ cls := "TaskTurnsModel", name := "pick", desc := "()I" } : Jvm.MethodName) ({ cls := "TaskTurnsModel", name := "pick", desc := "()I" } : Jvm.MethodName)) ∈ xTB := xmem 14 (by decide +kernel) (by decide +kernel)
set_option maxRecDepth 20000 in
theorem w_15 : (Jvm.Cond.selects "TaskTurnsModel" ({ cls := "TaskTurnsModel", name := "acts", desc := "(I)V" } : Jvm.MethodName) ({ cls := "TaskTurnsModel", name := "acts", desc := "(I)V" } : Jvm.MethodName)) ∈ xTB := xmem 15 (by decide +kernel) (by decide +kernel)
set_option maxRecDepth 20000 in
theorem w_16 : (Jvm.Cond.selects "TaskTurnsModel" ({ cls := "TaskTurnsModel", name := "guard", desc := "(II)I" } : Jvm.MethodName) ({ cls := "TaskTurnsModel", name := "guard", desc := "(II)I" } : Jvm.MethodName)) ∈ xTB := xmem 16 (by decide +kernel) (by decide +kernel)
set_option maxRecDepth 20000 in
theorem w_17 : (Jvm.Cond.selects "TaskTurnsModel" ({ cls := "TaskTurnsModel", name := "simple", desc := "(II)I" } : Jvm.MethodName) ({ cls := "TaskTurnsModel", name := "simple", desc := "(II)I" } : Jvm.MethodName)) ∈ xTB := xmem 17 (by decide +kernel) (by decide +kernel)
set_option maxRecDepth 20000 in
theorem w_18 : (Jvm.Cond.selects "TaskTurnsModel" ({ cls := "TaskTurnsModel", name := "rowAct", desc := "(III)I" } : Jvm.MethodName) ({ cls := "TaskTurnsModel", name := "rowAct", desc := "(III)I" } : Jvm.MethodName)) ∈ xTB := xmem 18 (by decide +kernel) (by decide +kernel)
set_option maxRecDepth 20000 in
theorem w_19 : (Jvm.Cond.selects "TaskTurnsModel" ({ cls := "TaskTurnsModel", name := "takeAct", desc := "(I)I" } : Jvm.MethodName) ({ cls := "TaskTurnsModel", name := "takeAct", desc := "(I)I" } : Jvm.MethodName)) ∈ xTB := xmem 19 (by decide +kernel) (by decide +kernel)
set_option maxRecDepth 20000 in
theorem w_20 : (Jvm.Cond.selects "TaskTurnsModel" ({ cls := "TaskTurnsModel", name := "sendAct", desc := "(III)I" } : Jvm.MethodName) ({ cls := "TaskTurnsModel", name := "sendAct", desc := "(III)I" } : Jvm.MethodName)) ∈ xTB := xmem 20 (by decide +kernel) (by decide +kernel)
set_option maxRecDepth 20000 in
theorem w_21 : (Jvm.Cond.selects "TaskTurnsModel" ({ cls := "TaskTurnsModel", name := "mark", desc := "(I)V" } : Jvm.MethodName) ({ cls := "TaskTurnsModel", name := "mark", desc := "(I)V" } : Jvm.MethodName)) ∈ xTB := xmem 21 (by decide +kernel) (by decide +kernel)
set_option maxRecDepth 20000 in
theorem w_22 : (Jvm.Cond.selects "TaskTurnsModel" ({ cls := "TaskTurnsModel", name := "copyAct", desc := "(II)I" } : Jvm.MethodName) ({ cls := "TaskTurnsModel", name := "copyAct", desc := "(II)I" } : Jvm.MethodName)) ∈ xTB := xmem 22 (by decide +kernel) (by decide +kernel)
set_option maxRecDepth 20000 in
theorem w_23 : (Jvm.Cond.selects "TaskTurnsModel" ({ cls := "TaskTurnsModel", name := "boxAct", desc := "(IIII)I" } : Jvm.MethodName) ({ cls := "TaskTurnsModel", name := "boxAct", desc := "(IIII)I" } : Jvm.MethodName)) ∈ xTB := xmem 23 (by decide +kernel) (by decide +kernel)
set_option maxRecDepth 20000 in
theorem w_24 : (Jvm.Cond.selects "TaskTurnsModel" ({ cls := "TaskTurnsModel", name := "fails", desc := "(II)V" } : Jvm.MethodName) ({ cls := "TaskTurnsModel", name := "fails", desc := "(II)V" } : Jvm.MethodName)) ∈ xTB := xmem 24 (by decide +kernel) (by decide +kernel)
set_option maxRecDepth 20000 in
theorem w_25 : (Jvm.Cond.selects "TaskTurnsModel" ({ cls := "TaskTurnsModel", name := "back", desc := "(I)V" } : Jvm.MethodName) ({ cls := "TaskTurnsModel", name := "back", desc := "(I)V" } : Jvm.MethodName)) ∈ xTB := xmem 25 (by decide +kernel) (by decide +kernel)
set_option maxRecDepth 20000 in
theorem w_26 : (Jvm.Cond.selects "TaskTurnsModel" ({ cls := "TaskTurnsModel", name := "maybeDone", desc := "(I)V" } : Jvm.MethodName) ({ cls := "TaskTurnsModel", name := "maybeDone", desc := "(I)V" } : Jvm.MethodName)) ∈ xTB := xmem 26 (by decide +kernel) (by decide +kernel)
set_option maxRecDepth 20000 in
theorem w_28 : (Jvm.Cond.initialized "TaskTurns") ∈ xTB := xmem 28 (by decide +kernel) (by decide +kernel)
set_option maxRecDepth 20000 in
theorem w_29 : (Jvm.Cond.initialized "TaskTurnsModel") ∈ xTB := xmem 29 (by decide +kernel) (by decide +kernel)
set_option maxRecDepth 20000 in
theorem w_30 : (Jvm.Cond.initialized "TaskTurns$Task") ∈ xTB := xmem 30 (by decide +kernel) (by decide +kernel)
set_option maxRecDepth 20000 in
theorem w_31 : (Jvm.Cond.initialized "TaskTurns$Acts") ∈ xTB := xmem 31 (by decide +kernel) (by decide +kernel)
set_option maxRecDepth 20000 in
theorem w_32 : (Jvm.Cond.initialized "TaskTurns$Letters") ∈ xTB := xmem 32 (by decide +kernel) (by decide +kernel)
set_option maxRecDepth 20000 in
theorem w_33 : (Jvm.Cond.initialized "TaskTurns$Row") ∈ xTB := xmem 33 (by decide +kernel) (by decide +kernel)
set_option maxRecDepth 20000 in
theorem w_34 : (Jvm.Cond.initialized "TaskTurns$Box") ∈ xTB := xmem 34 (by decide +kernel) (by decide +kernel)
set_option maxRecDepth 20000 in
theorem w_35 : (Jvm.Cond.initialized "TaskTurns$Mark") ∈ xTB := xmem 35 (by decide +kernel) (by decide +kernel)
set_option maxRecDepth 20000 in
theorem w_36 : (Jvm.Cond.initialized "java/lang/Math") ∈ xTB := xmem 36 (by decide +kernel) (by decide +kernel)
set_option maxRecDepth 20000 in
theorem w_37 : (Jvm.Cond.classLink "TaskTurnsLaw" (7 : Nat) "TaskTurns") ∈ xTB := xmem 37 (by decide +kernel) (by decide +kernel)
set_option maxRecDepth 20000 in
theorem w_38 : (Jvm.Cond.instantiable "TaskTurns" (10 : Nat)) ∈ xTB := xmem 38 (by decide +kernel) (by decide +kernel)
set_option maxRecDepth 20000 in
theorem w_39 : (Jvm.Cond.methodLink "TaskTurnsLaw" (9 : Nat) ({ cls := "TaskTurns", name := "<init>", desc := "()V" } : Jvm.MethodName)) ∈ xTB := xmem 39 (by decide +kernel) (by decide +kernel)
set_option maxRecDepth 20000 in
theorem w_40 : (Jvm.Cond.instanceMethod ({ cls := "TaskTurns", name := "<init>", desc := "()V" } : Jvm.MethodName)) ∈ xTB := xmem 40 (by decide +kernel) (by decide +kernel)
set_option maxRecDepth 20000 in
theorem w_41 : (Jvm.Cond.code ({ cls := "TaskTurns", name := "<init>", desc := "()V" } : Jvm.MethodName) prog_1_method_1_code (1 : Nat) (Option.none : Option Jvm.ClassFile.FieldType)) ∈ xTB := xmem 41 (by decide +kernel) (by decide +kernel)
set_option maxRecDepth 20000 in
theorem w_42 : (Jvm.Cond.methodLink "TaskTurns" (1 : Nat) ({ cls := "java/lang/Object", name := "<init>", desc := "()V" } : Jvm.MethodName)) ∈ xTB := xmem 42 (by decide +kernel) (by decide +kernel)
set_option maxRecDepth 20000 in
theorem w_43 : (Jvm.Cond.instanceMethod ({ cls := "java/lang/Object", name := "<init>", desc := "()V" } : Jvm.MethodName)) ∈ xTB := xmem 43 (by decide +kernel) (by decide +kernel)
set_option maxRecDepth 20000 in
theorem w_44 : (Jvm.Cond.code ({ cls := "java/lang/Object", name := "<init>", desc := "()V" } : Jvm.MethodName) object_method_1_code (1 : Nat) (Option.none : Option Jvm.ClassFile.FieldType)) ∈ xTB := xmem 44 (by decide +kernel) (by decide +kernel)
set_option maxRecDepth 20000 in
theorem w_45 : (Jvm.Cond.classLink "TaskTurns" (9 : Nat) "TaskTurns$Task") ∈ xTB := xmem 45 (by decide +kernel) (by decide +kernel)
set_option maxRecDepth 20000 in
theorem w_47 : (Jvm.Cond.fieldLink "TaskTurns" (11 : Nat) "TaskTurns" "tasks" "[LTaskTurns$Task;") ∈ xTB := xmem 47 (by decide +kernel) (by decide +kernel)
set_option maxRecDepth 20000 in
theorem w_48 : (Jvm.Cond.fieldLink "TaskTurns" (15 : Nat) "TaskTurns" "doneOrder" "[I") ∈ xTB := xmem 48 (by decide +kernel) (by decide +kernel)
set_option maxRecDepth 20000 in
theorem w_49 : (Jvm.Cond.fieldLink "TaskTurns" (23 : Nat) "TaskTurns" "taskCount" "I") ∈ xTB := xmem 49 (by decide +kernel) (by decide +kernel)
set_option maxRecDepth 20000 in
theorem w_50 : (Jvm.Cond.fieldLink "TaskTurns" (125 : Nat) "TaskTurns" "doneCount" "I") ∈ xTB := xmem 50 (by decide +kernel) (by decide +kernel)
set_option maxRecDepth 20000 in
theorem w_51 : (Jvm.Cond.fieldLink "TaskTurns" (19 : Nat) "TaskTurns" "workerCount" "I") ∈ xTB := xmem 51 (by decide +kernel) (by decide +kernel)
set_option maxRecDepth 20000 in
theorem w_52 : (Jvm.Cond.fieldLink "TaskTurns" (109 : Nat) "TaskTurns" "turnsDone" "I") ∈ xTB := xmem 52 (by decide +kernel) (by decide +kernel)
set_option maxRecDepth 20000 in
theorem w_53 : (Jvm.Cond.fieldLink "TaskTurns" (50 : Nat) "TaskTurns" "actsDone" "I") ∈ xTB := xmem 53 (by decide +kernel) (by decide +kernel)
set_option maxRecDepth 20000 in
theorem w_54 : (Jvm.Cond.fieldLink "TaskTurns" (112 : Nat) "TaskTurns" "lettersLost" "I") ∈ xTB := xmem 54 (by decide +kernel) (by decide +kernel)
set_option maxRecDepth 20000 in
theorem w_55 : (Jvm.Cond.fieldLink "TaskTurns" (115 : Nat) "TaskTurns" "guardsLeft" "I") ∈ xTB := xmem 55 (by decide +kernel) (by decide +kernel)
set_option maxRecDepth 20000 in
theorem w_56 : (Jvm.Cond.fieldLink "TaskTurns" (118 : Nat) "TaskTurns" "failuresSeen" "I") ∈ xTB := xmem 56 (by decide +kernel) (by decide +kernel)
set_option maxRecDepth 20000 in
theorem w_78 : (Jvm.Cond.arrayClass Jvm.ClassFile.FieldType.int) ∈ xTB := xmem 78 (by decide +kernel) (by decide +kernel)
set_option maxRecDepth 20000 in
theorem w_79 : (Jvm.Cond.methodLink "TaskTurnsLaw" (13 : Nat) ({ cls := "TaskTurns", name := "task", desc := "(II)I" } : Jvm.MethodName)) ∈ xTB := xmem 79 (by decide +kernel) (by decide +kernel)
set_option maxRecDepth 20000 in
theorem w_80 : (Jvm.Cond.instanceMethod ({ cls := "TaskTurns", name := "task", desc := "(II)I" } : Jvm.MethodName)) ∈ xTB := xmem 80 (by decide +kernel) (by decide +kernel)
set_option maxRecDepth 20000 in
theorem w_81 : (Jvm.Cond.selects "TaskTurns" ({ cls := "TaskTurns", name := "task", desc := "(II)I" } : Jvm.MethodName) ({ cls := "TaskTurns", name := "task", desc := "(II)I" } : Jvm.MethodName)) ∈ xTB := xmem 81 (by decide +kernel) (by decide +kernel)
set_option maxRecDepth 20000 in
theorem w_82 : (Jvm.Cond.code ({ cls := "TaskTurns", name := "task", desc := "(II)I" } : Jvm.MethodName) prog_1_method_2_code (4 : Nat) (Option.some Jvm.ClassFile.FieldType.int)) ∈ xTB := xmem 82 (by decide +kernel) (by decide +kernel)
set_option maxRecDepth 20000 in
theorem w_83 : (Jvm.Cond.instantiable "TaskTurns$Task" (19 : Nat)) ∈ xTB := xmem 83 (by decide +kernel) (by decide +kernel)
set_option maxRecDepth 20000 in
theorem w_84 : (Jvm.Cond.methodLink "TaskTurns" (26 : Nat) ({ cls := "TaskTurns$Task", name := "<init>", desc := "(III)V" } : Jvm.MethodName)) ∈ xTB := xmem 84 (by decide +kernel) (by decide +kernel)
set_option maxRecDepth 20000 in
theorem w_85 : (Jvm.Cond.instanceMethod ({ cls := "TaskTurns$Task", name := "<init>", desc := "(III)V" } : Jvm.MethodName)) ∈ xTB := xmem 85 (by decide +kernel) (by decide +kernel)
set_option maxRecDepth 20000 in
theorem w_86 : (Jvm.Cond.code ({ cls := "TaskTurns$Task", name := "<init>", desc := "(III)V" } : Jvm.MethodName) prog_7_method_1_code (4 : Nat) (Option.none : Option Jvm.ClassFile.FieldType)) ∈ xTB := xmem 86 (by decide +kernel) (by decide +kernel)
set_option maxRecDepth 20000 in
theorem w_87 : (Jvm.Cond.methodLink "TaskTurns$Task" (3 : Nat) ({ cls := "java/lang/Object", name := "<init>", desc := "()V" } : Jvm.MethodName)) ∈ xTB := xmem 87 (by decide +kernel) (by decide +kernel)
set_option maxRecDepth 20000 in
theorem w_88 : (Jvm.Cond.classLink "TaskTurns$Task" (21 : Nat) "TaskTurns$Acts") ∈ xTB := xmem 88 (by decide +kernel) (by decide +kernel)
set_option maxRecDepth 20000 in
theorem w_89 : (Jvm.Cond.instantiable "TaskTurns$Acts" (4 : Nat)) ∈ xTB := xmem 89 (by decide +kernel) (by decide +kernel)
set_option maxRecDepth 20000 in
theorem w_90 : (Jvm.Cond.methodLink "TaskTurns$Task" (23 : Nat) ({ cls := "TaskTurns$Acts", name := "<init>", desc := "()V" } : Jvm.MethodName)) ∈ xTB := xmem 90 (by decide +kernel) (by decide +kernel)
set_option maxRecDepth 20000 in
theorem w_91 : (Jvm.Cond.instanceMethod ({ cls := "TaskTurns$Acts", name := "<init>", desc := "()V" } : Jvm.MethodName)) ∈ xTB := xmem 91 (by decide +kernel) (by decide +kernel)
set_option maxRecDepth 20000 in
theorem w_92 : (Jvm.Cond.code ({ cls := "TaskTurns$Acts", name := "<init>", desc := "()V" } : Jvm.MethodName) prog_2_method_1_code (1 : Nat) (Option.none : Option Jvm.ClassFile.FieldType)) ∈ xTB := xmem 92 (by decide +kernel) (by decide +kernel)
set_option maxRecDepth 20000 in
theorem w_93 : (Jvm.Cond.methodLink "TaskTurns$Acts" (3 : Nat) ({ cls := "java/lang/Object", name := "<init>", desc := "()V" } : Jvm.MethodName)) ∈ xTB := xmem 93 (by decide +kernel) (by decide +kernel)
set_option maxRecDepth 20000 in
theorem w_94 : (Jvm.Cond.fieldLink "TaskTurns$Acts" (9 : Nat) "TaskTurns$Acts" "kinds" "[I") ∈ xTB := xmem 94 (by decide +kernel) (by decide +kernel)
set_option maxRecDepth 20000 in
theorem w_95 : (Jvm.Cond.fieldLink "TaskTurns" (164 : Nat) "TaskTurns$Acts" "kinds" "[I") ∈ xTB := xmem 95 (by decide +kernel) (by decide +kernel)
set_option maxRecDepth 20000 in
theorem w_96 : (Jvm.Cond.fieldLink "TaskTurns$Acts" (15 : Nat) "TaskTurns$Acts" "firsts" "[I") ∈ xTB := xmem 96 (by decide +kernel) (by decide +kernel)
set_option maxRecDepth 20000 in
theorem w_97 : (Jvm.Cond.fieldLink "TaskTurns" (184 : Nat) "TaskTurns$Acts" "firsts" "[I") ∈ xTB := xmem 97 (by decide +kernel) (by decide +kernel)
set_option maxRecDepth 20000 in
theorem w_98 : (Jvm.Cond.fieldLink "TaskTurns$Acts" (18 : Nat) "TaskTurns$Acts" "seconds" "[I") ∈ xTB := xmem 98 (by decide +kernel) (by decide +kernel)
set_option maxRecDepth 20000 in
theorem w_99 : (Jvm.Cond.fieldLink "TaskTurns" (193 : Nat) "TaskTurns$Acts" "seconds" "[I") ∈ xTB := xmem 99 (by decide +kernel) (by decide +kernel)
set_option maxRecDepth 20000 in
theorem w_100 : (Jvm.Cond.fieldLink "TaskTurns$Acts" (21 : Nat) "TaskTurns$Acts" "size" "I") ∈ xTB := xmem 100 (by decide +kernel) (by decide +kernel)
set_option maxRecDepth 20000 in
theorem w_101 : (Jvm.Cond.fieldLink "TaskTurns" (163 : Nat) "TaskTurns$Acts" "size" "I") ∈ xTB := xmem 101 (by decide +kernel) (by decide +kernel)
set_option maxRecDepth 20000 in
theorem w_111 : (Jvm.Cond.classLink "TaskTurns$Task" (28 : Nat) "TaskTurns$Letters") ∈ xTB := xmem 111 (by decide +kernel) (by decide +kernel)
set_option maxRecDepth 20000 in
theorem w_112 : (Jvm.Cond.instantiable "TaskTurns$Letters" (2 : Nat)) ∈ xTB := xmem 112 (by decide +kernel) (by decide +kernel)
set_option maxRecDepth 20000 in
theorem w_113 : (Jvm.Cond.methodLink "TaskTurns$Task" (30 : Nat) ({ cls := "TaskTurns$Letters", name := "<init>", desc := "()V" } : Jvm.MethodName)) ∈ xTB := xmem 113 (by decide +kernel) (by decide +kernel)
set_option maxRecDepth 20000 in
theorem w_114 : (Jvm.Cond.instanceMethod ({ cls := "TaskTurns$Letters", name := "<init>", desc := "()V" } : Jvm.MethodName)) ∈ xTB := xmem 114 (by decide +kernel) (by decide +kernel)
set_option maxRecDepth 20000 in
theorem w_115 : (Jvm.Cond.code ({ cls := "TaskTurns$Letters", name := "<init>", desc := "()V" } : Jvm.MethodName) prog_4_method_1_code (1 : Nat) (Option.none : Option Jvm.ClassFile.FieldType)) ∈ xTB := xmem 115 (by decide +kernel) (by decide +kernel)
set_option maxRecDepth 20000 in
theorem w_116 : (Jvm.Cond.methodLink "TaskTurns$Letters" (3 : Nat) ({ cls := "java/lang/Object", name := "<init>", desc := "()V" } : Jvm.MethodName)) ∈ xTB := xmem 116 (by decide +kernel) (by decide +kernel)
set_option maxRecDepth 20000 in
theorem w_117 : (Jvm.Cond.fieldLink "TaskTurns$Letters" (9 : Nat) "TaskTurns$Letters" "values" "[I") ∈ xTB := xmem 117 (by decide +kernel) (by decide +kernel)
set_option maxRecDepth 20000 in
theorem w_118 : (Jvm.Cond.fieldLink "TaskTurns" (106 : Nat) "TaskTurns$Letters" "values" "[I") ∈ xTB := xmem 118 (by decide +kernel) (by decide +kernel)
set_option maxRecDepth 20000 in
theorem w_119 : (Jvm.Cond.fieldLink "TaskTurns$Letters" (15 : Nat) "TaskTurns$Letters" "size" "I") ∈ xTB := xmem 119 (by decide +kernel) (by decide +kernel)
set_option maxRecDepth 20000 in
theorem w_120 : (Jvm.Cond.fieldLink "TaskTurns$Task" (74 : Nat) "TaskTurns$Letters" "size" "I") ∈ xTB := xmem 120 (by decide +kernel) (by decide +kernel)
set_option maxRecDepth 20000 in
theorem w_121 : (Jvm.Cond.fieldLink "TaskTurns" (72 : Nat) "TaskTurns$Letters" "size" "I") ∈ xTB := xmem 121 (by decide +kernel) (by decide +kernel)
set_option maxRecDepth 20000 in
theorem w_127 : (Jvm.Cond.classLink "TaskTurns$Task" (35 : Nat) "TaskTurns$Row") ∈ xTB := xmem 127 (by decide +kernel) (by decide +kernel)
set_option maxRecDepth 20000 in
theorem w_128 : (Jvm.Cond.instantiable "TaskTurns$Row" (2 : Nat)) ∈ xTB := xmem 128 (by decide +kernel) (by decide +kernel)
set_option maxRecDepth 20000 in
theorem w_129 : (Jvm.Cond.methodLink "TaskTurns$Task" (37 : Nat) ({ cls := "TaskTurns$Row", name := "<init>", desc := "()V" } : Jvm.MethodName)) ∈ xTB := xmem 129 (by decide +kernel) (by decide +kernel)
set_option maxRecDepth 20000 in
theorem w_130 : (Jvm.Cond.instanceMethod ({ cls := "TaskTurns$Row", name := "<init>", desc := "()V" } : Jvm.MethodName)) ∈ xTB := xmem 130 (by decide +kernel) (by decide +kernel)
set_option maxRecDepth 20000 in
theorem w_131 : (Jvm.Cond.code ({ cls := "TaskTurns$Row", name := "<init>", desc := "()V" } : Jvm.MethodName) prog_6_method_1_code (1 : Nat) (Option.none : Option Jvm.ClassFile.FieldType)) ∈ xTB := xmem 131 (by decide +kernel) (by decide +kernel)
set_option maxRecDepth 20000 in
theorem w_132 : (Jvm.Cond.methodLink "TaskTurns$Row" (3 : Nat) ({ cls := "java/lang/Object", name := "<init>", desc := "()V" } : Jvm.MethodName)) ∈ xTB := xmem 132 (by decide +kernel) (by decide +kernel)
set_option maxRecDepth 20000 in
theorem w_133 : (Jvm.Cond.fieldLink "TaskTurns$Row" (9 : Nat) "TaskTurns$Row" "ints" "[I") ∈ xTB := xmem 133 (by decide +kernel) (by decide +kernel)
set_option maxRecDepth 20000 in
theorem w_134 : (Jvm.Cond.fieldLink "TaskTurns" (102 : Nat) "TaskTurns$Row" "ints" "[I") ∈ xTB := xmem 134 (by decide +kernel) (by decide +kernel)
set_option maxRecDepth 20000 in
theorem w_135 : (Jvm.Cond.fieldLink "TaskTurns$Task" (117 : Nat) "TaskTurns$Row" "ints" "[I") ∈ xTB := xmem 135 (by decide +kernel) (by decide +kernel)
set_option maxRecDepth 20000 in
theorem w_136 : (Jvm.Cond.fieldLink "TaskTurns$Row" (15 : Nat) "TaskTurns$Row" "length" "I") ∈ xTB := xmem 136 (by decide +kernel) (by decide +kernel)
set_option maxRecDepth 20000 in
theorem w_137 : (Jvm.Cond.fieldLink "TaskTurns$Task" (83 : Nat) "TaskTurns$Row" "length" "I") ∈ xTB := xmem 137 (by decide +kernel) (by decide +kernel)
set_option maxRecDepth 20000 in
theorem w_143 : (Jvm.Cond.classLink "TaskTurns$Task" (42 : Nat) "TaskTurns$Box") ∈ xTB := xmem 143 (by decide +kernel) (by decide +kernel)
set_option maxRecDepth 20000 in
theorem w_144 : (Jvm.Cond.instantiable "TaskTurns$Box" (2 : Nat)) ∈ xTB := xmem 144 (by decide +kernel) (by decide +kernel)
set_option maxRecDepth 20000 in
theorem w_145 : (Jvm.Cond.methodLink "TaskTurns$Task" (44 : Nat) ({ cls := "TaskTurns$Box", name := "<init>", desc := "()V" } : Jvm.MethodName)) ∈ xTB := xmem 145 (by decide +kernel) (by decide +kernel)
set_option maxRecDepth 20000 in
theorem w_146 : (Jvm.Cond.instanceMethod ({ cls := "TaskTurns$Box", name := "<init>", desc := "()V" } : Jvm.MethodName)) ∈ xTB := xmem 146 (by decide +kernel) (by decide +kernel)
set_option maxRecDepth 20000 in
theorem w_147 : (Jvm.Cond.code ({ cls := "TaskTurns$Box", name := "<init>", desc := "()V" } : Jvm.MethodName) prog_3_method_1_code (1 : Nat) (Option.none : Option Jvm.ClassFile.FieldType)) ∈ xTB := xmem 147 (by decide +kernel) (by decide +kernel)
set_option maxRecDepth 20000 in
theorem w_148 : (Jvm.Cond.methodLink "TaskTurns$Box" (3 : Nat) ({ cls := "java/lang/Object", name := "<init>", desc := "()V" } : Jvm.MethodName)) ∈ xTB := xmem 148 (by decide +kernel) (by decide +kernel)
set_option maxRecDepth 20000 in
theorem w_149 : (Jvm.Cond.fieldLink "TaskTurns$Box" (9 : Nat) "TaskTurns$Box" "places" "[I") ∈ xTB := xmem 149 (by decide +kernel) (by decide +kernel)
set_option maxRecDepth 20000 in
theorem w_150 : (Jvm.Cond.fieldLink "TaskTurns" (92 : Nat) "TaskTurns$Box" "places" "[I") ∈ xTB := xmem 150 (by decide +kernel) (by decide +kernel)
set_option maxRecDepth 20000 in
theorem w_151 : (Jvm.Cond.fieldLink "TaskTurns$Task" (130 : Nat) "TaskTurns$Box" "places" "[I") ∈ xTB := xmem 151 (by decide +kernel) (by decide +kernel)
set_option maxRecDepth 20000 in
theorem w_152 : (Jvm.Cond.fieldLink "TaskTurns$Box" (15 : Nat) "TaskTurns$Box" "kind" "I") ∈ xTB := xmem 152 (by decide +kernel) (by decide +kernel)
set_option maxRecDepth 20000 in
theorem w_153 : (Jvm.Cond.fieldLink "TaskTurns$Task" (86 : Nat) "TaskTurns$Box" "kind" "I") ∈ xTB := xmem 153 (by decide +kernel) (by decide +kernel)
set_option maxRecDepth 20000 in
theorem w_159 : (Jvm.Cond.classLink "TaskTurns$Task" (49 : Nat) "TaskTurns$Mark") ∈ xTB := xmem 159 (by decide +kernel) (by decide +kernel)
set_option maxRecDepth 20000 in
theorem w_160 : (Jvm.Cond.instantiable "TaskTurns$Mark" (3 : Nat)) ∈ xTB := xmem 160 (by decide +kernel) (by decide +kernel)
set_option maxRecDepth 20000 in
theorem w_161 : (Jvm.Cond.methodLink "TaskTurns$Task" (51 : Nat) ({ cls := "TaskTurns$Mark", name := "<init>", desc := "()V" } : Jvm.MethodName)) ∈ xTB := xmem 161 (by decide +kernel) (by decide +kernel)
set_option maxRecDepth 20000 in
theorem w_162 : (Jvm.Cond.instanceMethod ({ cls := "TaskTurns$Mark", name := "<init>", desc := "()V" } : Jvm.MethodName)) ∈ xTB := xmem 162 (by decide +kernel) (by decide +kernel)
set_option maxRecDepth 20000 in
theorem w_163 : (Jvm.Cond.code ({ cls := "TaskTurns$Mark", name := "<init>", desc := "()V" } : Jvm.MethodName) prog_5_method_1_code (1 : Nat) (Option.none : Option Jvm.ClassFile.FieldType)) ∈ xTB := xmem 163 (by decide +kernel) (by decide +kernel)
set_option maxRecDepth 20000 in
theorem w_164 : (Jvm.Cond.methodLink "TaskTurns$Mark" (1 : Nat) ({ cls := "java/lang/Object", name := "<init>", desc := "()V" } : Jvm.MethodName)) ∈ xTB := xmem 164 (by decide +kernel) (by decide +kernel)
set_option maxRecDepth 20000 in
theorem w_165 : (Jvm.Cond.classLink "TaskTurns$Mark" (7 : Nat) "TaskTurns$Row") ∈ xTB := xmem 165 (by decide +kernel) (by decide +kernel)
set_option maxRecDepth 20000 in
theorem w_166 : (Jvm.Cond.methodLink "TaskTurns$Mark" (9 : Nat) ({ cls := "TaskTurns$Row", name := "<init>", desc := "()V" } : Jvm.MethodName)) ∈ xTB := xmem 166 (by decide +kernel) (by decide +kernel)
set_option maxRecDepth 20000 in
theorem w_167 : (Jvm.Cond.fieldLink "TaskTurns$Mark" (10 : Nat) "TaskTurns$Mark" "row" "LTaskTurns$Row;") ∈ xTB := xmem 167 (by decide +kernel) (by decide +kernel)
set_option maxRecDepth 20000 in
theorem w_168 : (Jvm.Cond.fieldLink "TaskTurns$Task" (103 : Nat) "TaskTurns$Mark" "row" "LTaskTurns$Row;") ∈ xTB := xmem 168 (by decide +kernel) (by decide +kernel)
set_option maxRecDepth 20000 in
theorem w_169 : (Jvm.Cond.fieldLink "TaskTurns$Task" (102 : Nat) "TaskTurns$Mark" "sum" "I") ∈ xTB := xmem 169 (by decide +kernel) (by decide +kernel)
set_option maxRecDepth 20000 in
theorem w_170 : (Jvm.Cond.fieldLink "TaskTurns$Task" (108 : Nat) "TaskTurns$Mark" "next" "I") ∈ xTB := xmem 170 (by decide +kernel) (by decide +kernel)
set_option maxRecDepth 20000 in
theorem w_178 : (Jvm.Cond.fieldLink "TaskTurns$Task" (9 : Nat) "TaskTurns$Task" "number" "I") ∈ xTB := xmem 178 (by decide +kernel) (by decide +kernel)
set_option maxRecDepth 20000 in
theorem w_179 : (Jvm.Cond.fieldLink "TaskTurns" (181 : Nat) "TaskTurns$Task" "number" "I") ∈ xTB := xmem 179 (by decide +kernel) (by decide +kernel)
set_option maxRecDepth 20000 in
theorem w_180 : (Jvm.Cond.fieldLink "TaskTurns$Task" (15 : Nat) "TaskTurns$Task" "sort" "I") ∈ xTB := xmem 180 (by decide +kernel) (by decide +kernel)
set_option maxRecDepth 20000 in
theorem w_181 : (Jvm.Cond.fieldLink "TaskTurns$Task" (18 : Nat) "TaskTurns$Task" "rank" "I") ∈ xTB := xmem 181 (by decide +kernel) (by decide +kernel)
set_option maxRecDepth 20000 in
theorem w_182 : (Jvm.Cond.fieldLink "TaskTurns" (151 : Nat) "TaskTurns$Task" "rank" "I") ∈ xTB := xmem 182 (by decide +kernel) (by decide +kernel)
set_option maxRecDepth 20000 in
theorem w_183 : (Jvm.Cond.fieldLink "TaskTurns$Task" (24 : Nat) "TaskTurns$Task" "acts" "LTaskTurns$Acts;") ∈ xTB := xmem 183 (by decide +kernel) (by decide +kernel)
set_option maxRecDepth 20000 in
theorem w_184 : (Jvm.Cond.fieldLink "TaskTurns" (40 : Nat) "TaskTurns$Task" "acts" "LTaskTurns$Acts;") ∈ xTB := xmem 184 (by decide +kernel) (by decide +kernel)
set_option maxRecDepth 20000 in
theorem w_185 : (Jvm.Cond.fieldLink "TaskTurns$Task" (31 : Nat) "TaskTurns$Task" "letters" "LTaskTurns$Letters;") ∈ xTB := xmem 185 (by decide +kernel) (by decide +kernel)
set_option maxRecDepth 20000 in
theorem w_186 : (Jvm.Cond.fieldLink "TaskTurns" (60 : Nat) "TaskTurns$Task" "letters" "LTaskTurns$Letters;") ∈ xTB := xmem 186 (by decide +kernel) (by decide +kernel)
set_option maxRecDepth 20000 in
theorem w_187 : (Jvm.Cond.fieldLink "TaskTurns$Task" (38 : Nat) "TaskTurns$Task" "row" "LTaskTurns$Row;") ∈ xTB := xmem 187 (by decide +kernel) (by decide +kernel)
set_option maxRecDepth 20000 in
theorem w_188 : (Jvm.Cond.fieldLink "TaskTurns" (95 : Nat) "TaskTurns$Task" "row" "LTaskTurns$Row;") ∈ xTB := xmem 188 (by decide +kernel) (by decide +kernel)
set_option maxRecDepth 20000 in
theorem w_189 : (Jvm.Cond.fieldLink "TaskTurns$Task" (45 : Nat) "TaskTurns$Task" "box" "LTaskTurns$Box;") ∈ xTB := xmem 189 (by decide +kernel) (by decide +kernel)
set_option maxRecDepth 20000 in
theorem w_190 : (Jvm.Cond.fieldLink "TaskTurns" (82 : Nat) "TaskTurns$Task" "box" "LTaskTurns$Box;") ∈ xTB := xmem 190 (by decide +kernel) (by decide +kernel)
set_option maxRecDepth 20000 in
theorem w_191 : (Jvm.Cond.fieldLink "TaskTurns$Task" (52 : Nat) "TaskTurns$Task" "mark" "LTaskTurns$Mark;") ∈ xTB := xmem 191 (by decide +kernel) (by decide +kernel)
set_option maxRecDepth 20000 in
theorem w_192 : (Jvm.Cond.fieldLink "TaskTurns$Task" (56 : Nat) "TaskTurns$Task" "state" "I") ∈ xTB := xmem 192 (by decide +kernel) (by decide +kernel)
set_option maxRecDepth 20000 in
theorem w_193 : (Jvm.Cond.fieldLink "TaskTurns" (33 : Nat) "TaskTurns$Task" "state" "I") ∈ xTB := xmem 193 (by decide +kernel) (by decide +kernel)
set_option maxRecDepth 20000 in
theorem w_194 : (Jvm.Cond.fieldLink "TaskTurns$Task" (77 : Nat) "TaskTurns$Task" "age" "I") ∈ xTB := xmem 194 (by decide +kernel) (by decide +kernel)
set_option maxRecDepth 20000 in
theorem w_195 : (Jvm.Cond.fieldLink "TaskTurns" (148 : Nat) "TaskTurns$Task" "age" "I") ∈ xTB := xmem 195 (by decide +kernel) (by decide +kernel)
set_option maxRecDepth 20000 in
theorem w_196 : (Jvm.Cond.fieldLink "TaskTurns$Task" (68 : Nat) "TaskTurns$Task" "sum" "I") ∈ xTB := xmem 196 (by decide +kernel) (by decide +kernel)
set_option maxRecDepth 20000 in
theorem w_197 : (Jvm.Cond.fieldLink "TaskTurns" (215 : Nat) "TaskTurns$Task" "sum" "I") ∈ xTB := xmem 197 (by decide +kernel) (by decide +kernel)
set_option maxRecDepth 20000 in
theorem w_198 : (Jvm.Cond.fieldLink "TaskTurns$Task" (71 : Nat) "TaskTurns$Task" "next" "I") ∈ xTB := xmem 198 (by decide +kernel) (by decide +kernel)
set_option maxRecDepth 20000 in
theorem w_199 : (Jvm.Cond.fieldLink "TaskTurns" (160 : Nat) "TaskTurns$Task" "next" "I") ∈ xTB := xmem 199 (by decide +kernel) (by decide +kernel)
set_option maxRecDepth 20000 in
theorem w_200 : (Jvm.Cond.fieldLink "TaskTurns$Task" (92 : Nat) "TaskTurns$Task" "waitLeft" "I") ∈ xTB := xmem 200 (by decide +kernel) (by decide +kernel)
set_option maxRecDepth 20000 in
theorem w_201 : (Jvm.Cond.fieldLink "TaskTurns" (157 : Nat) "TaskTurns$Task" "waitLeft" "I") ∈ xTB := xmem 201 (by decide +kernel) (by decide +kernel)
set_option maxRecDepth 20000 in
theorem w_202 : (Jvm.Cond.fieldLink "TaskTurns$Task" (65 : Nat) "TaskTurns$Task" "lastTurn" "I") ∈ xTB := xmem 202 (by decide +kernel) (by decide +kernel)
set_option maxRecDepth 20000 in
theorem w_203 : (Jvm.Cond.fieldLink "TaskTurns" (154 : Nat) "TaskTurns$Task" "lastTurn" "I") ∈ xTB := xmem 203 (by decide +kernel) (by decide +kernel)
set_option maxRecDepth 20000 in
theorem w_204 : (Jvm.Cond.fieldLink "TaskTurns" (36 : Nat) "TaskTurns$Task" "didActs" "Z") ∈ xTB := xmem 204 (by decide +kernel) (by decide +kernel)
set_option maxRecDepth 20000 in
theorem w_205 : (Jvm.Cond.fieldLink "TaskTurns$Task" (80 : Nat) "TaskTurns$Task" "failures" "I") ∈ xTB := xmem 205 (by decide +kernel) (by decide +kernel)
set_option maxRecDepth 20000 in
theorem w_206 : (Jvm.Cond.fieldLink "TaskTurns$Task" (59 : Nat) "TaskTurns$Task" "latestFailure" "I") ∈ xTB := xmem 206 (by decide +kernel) (by decide +kernel)
set_option maxRecDepth 20000 in
theorem w_207 : (Jvm.Cond.fieldLink "TaskTurns$Task" (62 : Nat) "TaskTurns$Task" "failedAct" "I") ∈ xTB := xmem 207 (by decide +kernel) (by decide +kernel)
set_option maxRecDepth 20000 in
theorem w_208 : (Jvm.Cond.fieldLink "TaskTurns$Task" (89 : Nat) "TaskTurns$Task" "backs" "I") ∈ xTB := xmem 208 (by decide +kernel) (by decide +kernel)
set_option maxRecDepth 20000 in
theorem w_248 : (Jvm.Cond.methodLink "TaskTurnsLaw" (18 : Nat) ({ cls := "TaskTurns", name := "act", desc := "(IIII)I" } : Jvm.MethodName)) ∈ xTB := xmem 248 (by decide +kernel) (by decide +kernel)
set_option maxRecDepth 20000 in
theorem w_249 : (Jvm.Cond.instanceMethod ({ cls := "TaskTurns", name := "act", desc := "(IIII)I" } : Jvm.MethodName)) ∈ xTB := xmem 249 (by decide +kernel) (by decide +kernel)
set_option maxRecDepth 20000 in
theorem w_250 : (Jvm.Cond.selects "TaskTurns" ({ cls := "TaskTurns", name := "act", desc := "(IIII)I" } : Jvm.MethodName) ({ cls := "TaskTurns", name := "act", desc := "(IIII)I" } : Jvm.MethodName)) ∈ xTB := xmem 250 (by decide +kernel) (by decide +kernel)
set_option maxRecDepth 20000 in
theorem w_251 : (Jvm.Cond.code ({ cls := "TaskTurns", name := "act", desc := "(IIII)I" } : Jvm.MethodName) prog_1_method_3_code (6 : Nat) (Option.some Jvm.ClassFile.FieldType.int)) ∈ xTB := xmem 251 (by decide +kernel) (by decide +kernel)
set_option maxRecDepth 20000 in
theorem w_252 : (Jvm.Cond.methodLink "TaskTurns" (29 : Nat) ({ cls := "TaskTurns", name := "find", desc := "(I)LTaskTurns$Task;" } : Jvm.MethodName)) ∈ xTB := xmem 252 (by decide +kernel) (by decide +kernel)
set_option maxRecDepth 20000 in
theorem w_254 : (Jvm.Cond.instanceMethod ({ cls := "TaskTurns", name := "find", desc := "(I)LTaskTurns$Task;" } : Jvm.MethodName)) ∈ xTB := xmem 254 (by decide +kernel) (by decide +kernel)
set_option maxRecDepth 20000 in
theorem w_255 : (Jvm.Cond.code ({ cls := "TaskTurns", name := "find", desc := "(I)LTaskTurns$Task;" } : Jvm.MethodName) prog_1_method_14_code (2 : Nat) (Option.some (Jvm.ClassFile.FieldType.object "TaskTurns$Task"))) ∈ xTB := xmem 255 (by decide +kernel) (by decide +kernel)
set_option maxRecDepth 20000 in
theorem w_256 : (Jvm.Cond.methodLink "TaskTurns" (44 : Nat) ({ cls := "TaskTurns$Acts", name := "append", desc := "(III)I" } : Jvm.MethodName)) ∈ xTB := xmem 256 (by decide +kernel) (by decide +kernel)
set_option maxRecDepth 20000 in
theorem w_257 : (Jvm.Cond.instanceMethod ({ cls := "TaskTurns$Acts", name := "append", desc := "(III)I" } : Jvm.MethodName)) ∈ xTB := xmem 257 (by decide +kernel) (by decide +kernel)
set_option maxRecDepth 20000 in
theorem w_258 : (Jvm.Cond.selects "TaskTurns$Acts" ({ cls := "TaskTurns$Acts", name := "append", desc := "(III)I" } : Jvm.MethodName) ({ cls := "TaskTurns$Acts", name := "append", desc := "(III)I" } : Jvm.MethodName)) ∈ xTB := xmem 258 (by decide +kernel) (by decide +kernel)
set_option maxRecDepth 20000 in
theorem w_259 : (Jvm.Cond.code ({ cls := "TaskTurns$Acts", name := "append", desc := "(III)I" } : Jvm.MethodName) prog_2_method_2_code (5 : Nat) (Option.some Jvm.ClassFile.FieldType.int)) ∈ xTB := xmem 259 (by decide +kernel) (by decide +kernel)
set_option maxRecDepth 20000 in
theorem w_260 : (Jvm.Cond.methodLink "TaskTurnsLaw" (23 : Nat) ({ cls := "TaskTurns", name := "workers", desc := "(I)I" } : Jvm.MethodName)) ∈ xTB := xmem 260 (by decide +kernel) (by decide +kernel)
set_option maxRecDepth 20000 in
theorem w_261 : (Jvm.Cond.instanceMethod ({ cls := "TaskTurns", name := "workers", desc := "(I)I" } : Jvm.MethodName)) ∈ xTB := xmem 261 (by decide +kernel) (by decide +kernel)
set_option maxRecDepth 20000 in
theorem w_262 : (Jvm.Cond.selects "TaskTurns" ({ cls := "TaskTurns", name := "workers", desc := "(I)I" } : Jvm.MethodName) ({ cls := "TaskTurns", name := "workers", desc := "(I)I" } : Jvm.MethodName)) ∈ xTB := xmem 262 (by decide +kernel) (by decide +kernel)
set_option maxRecDepth 20000 in
theorem w_263 : (Jvm.Cond.code ({ cls := "TaskTurns", name := "workers", desc := "(I)I" } : Jvm.MethodName) prog_1_method_4_code (3 : Nat) (Option.some Jvm.ClassFile.FieldType.int)) ∈ xTB := xmem 263 (by decide +kernel) (by decide +kernel)
set_option maxRecDepth 20000 in
theorem w_264 : (Jvm.Cond.methodLink "TaskTurnsLaw" (28 : Nat) ({ cls := "TaskTurns", name := "turn", desc := "(I)I" } : Jvm.MethodName)) ∈ xTB := xmem 264 (by decide +kernel) (by decide +kernel)
set_option maxRecDepth 20000 in
theorem w_265 : (Jvm.Cond.instanceMethod ({ cls := "TaskTurns", name := "turn", desc := "(I)I" } : Jvm.MethodName)) ∈ xTB := xmem 265 (by decide +kernel) (by decide +kernel)
set_option maxRecDepth 20000 in
theorem w_266 : (Jvm.Cond.selects "TaskTurns" ({ cls := "TaskTurns", name := "turn", desc := "(I)I" } : Jvm.MethodName) ({ cls := "TaskTurns", name := "turn", desc := "(I)I" } : Jvm.MethodName)) ∈ xTB := xmem 266 (by decide +kernel) (by decide +kernel)
set_option maxRecDepth 20000 in
theorem w_267 : (Jvm.Cond.code ({ cls := "TaskTurns", name := "turn", desc := "(I)I" } : Jvm.MethodName) prog_1_method_5_code (6 : Nat) (Option.some Jvm.ClassFile.FieldType.int)) ∈ xTB := xmem 267 (by decide +kernel) (by decide +kernel)
set_option maxRecDepth 20000 in
theorem w_268 : (Jvm.Cond.methodLink "TaskTurns" (53 : Nat) ({ cls := "TaskTurns", name := "doTurn", desc := "()V" } : Jvm.MethodName)) ∈ xTB := xmem 268 (by decide +kernel) (by decide +kernel)
set_option maxRecDepth 20000 in
theorem w_270 : (Jvm.Cond.instanceMethod ({ cls := "TaskTurns", name := "doTurn", desc := "()V" } : Jvm.MethodName)) ∈ xTB := xmem 270 (by decide +kernel) (by decide +kernel)
set_option maxRecDepth 20000 in
theorem w_271 : (Jvm.Cond.code ({ cls := "TaskTurns", name := "doTurn", desc := "()V" } : Jvm.MethodName) prog_1_method_16_code (3 : Nat) (Option.none : Option Jvm.ClassFile.FieldType)) ∈ xTB := xmem 271 (by decide +kernel) (by decide +kernel)
set_option maxRecDepth 20000 in
theorem w_272 : (Jvm.Cond.methodLink "TaskTurns" (128 : Nat) ({ cls := "TaskTurns", name := "wakeTasks", desc := "()V" } : Jvm.MethodName)) ∈ xTB := xmem 272 (by decide +kernel) (by decide +kernel)
set_option maxRecDepth 20000 in
theorem w_274 : (Jvm.Cond.instanceMethod ({ cls := "TaskTurns", name := "wakeTasks", desc := "()V" } : Jvm.MethodName)) ∈ xTB := xmem 274 (by decide +kernel) (by decide +kernel)
set_option maxRecDepth 20000 in
theorem w_275 : (Jvm.Cond.code ({ cls := "TaskTurns", name := "wakeTasks", desc := "()V" } : Jvm.MethodName) prog_1_method_17_code (3 : Nat) (Option.none : Option Jvm.ClassFile.FieldType)) ∈ xTB := xmem 275 (by decide +kernel) (by decide +kernel)
set_option maxRecDepth 20000 in
theorem w_276 : (Jvm.Cond.methodLink "TaskTurns" (142 : Nat) ({ cls := "TaskTurns$Task", name := "wake", desc := "()V" } : Jvm.MethodName)) ∈ xTB := xmem 276 (by decide +kernel) (by decide +kernel)
set_option maxRecDepth 20000 in
theorem w_277 : (Jvm.Cond.instanceMethod ({ cls := "TaskTurns$Task", name := "wake", desc := "()V" } : Jvm.MethodName)) ∈ xTB := xmem 277 (by decide +kernel) (by decide +kernel)
set_option maxRecDepth 20000 in
theorem w_278 : (Jvm.Cond.selects "TaskTurns$Task" ({ cls := "TaskTurns$Task", name := "wake", desc := "()V" } : Jvm.MethodName) ({ cls := "TaskTurns$Task", name := "wake", desc := "()V" } : Jvm.MethodName)) ∈ xTB := xmem 278 (by decide +kernel) (by decide +kernel)
set_option maxRecDepth 20000 in
theorem w_279 : (Jvm.Cond.code ({ cls := "TaskTurns$Task", name := "wake", desc := "()V" } : Jvm.MethodName) prog_7_method_5_code (1 : Nat) (Option.none : Option Jvm.ClassFile.FieldType)) ∈ xTB := xmem 279 (by decide +kernel) (by decide +kernel)
set_option maxRecDepth 20000 in
theorem w_280 : (Jvm.Cond.methodLink "TaskTurns" (131 : Nat) ({ cls := "TaskTurns", name := "findNextToWork", desc := "()LTaskTurns$Task;" } : Jvm.MethodName)) ∈ xTB := xmem 280 (by decide +kernel) (by decide +kernel)
set_option maxRecDepth 20000 in
theorem w_282 : (Jvm.Cond.instanceMethod ({ cls := "TaskTurns", name := "findNextToWork", desc := "()LTaskTurns$Task;" } : Jvm.MethodName)) ∈ xTB := xmem 282 (by decide +kernel) (by decide +kernel)
set_option maxRecDepth 20000 in
theorem w_283 : (Jvm.Cond.code ({ cls := "TaskTurns", name := "findNextToWork", desc := "()LTaskTurns$Task;" } : Jvm.MethodName) prog_1_method_19_code (4 : Nat) (Option.some (Jvm.ClassFile.FieldType.object "TaskTurns$Task"))) ∈ xTB := xmem 283 (by decide +kernel) (by decide +kernel)
set_option maxRecDepth 20000 in
theorem w_284 : (Jvm.Cond.methodLink "TaskTurns" (145 : Nat) ({ cls := "TaskTurns$Task", name := "isReadyIn", desc := "(I)Z" } : Jvm.MethodName)) ∈ xTB := xmem 284 (by decide +kernel) (by decide +kernel)
set_option maxRecDepth 20000 in
theorem w_285 : (Jvm.Cond.instanceMethod ({ cls := "TaskTurns$Task", name := "isReadyIn", desc := "(I)Z" } : Jvm.MethodName)) ∈ xTB := xmem 285 (by decide +kernel) (by decide +kernel)
set_option maxRecDepth 20000 in
theorem w_286 : (Jvm.Cond.selects "TaskTurns$Task" ({ cls := "TaskTurns$Task", name := "isReadyIn", desc := "(I)Z" } : Jvm.MethodName) ({ cls := "TaskTurns$Task", name := "isReadyIn", desc := "(I)Z" } : Jvm.MethodName)) ∈ xTB := xmem 286 (by decide +kernel) (by decide +kernel)
set_option maxRecDepth 20000 in
theorem w_287 : (Jvm.Cond.code ({ cls := "TaskTurns$Task", name := "isReadyIn", desc := "(I)Z" } : Jvm.MethodName) prog_7_method_3_code (2 : Nat) (Option.some Jvm.ClassFile.FieldType.boolean)) ∈ xTB := xmem 287 (by decide +kernel) (by decide +kernel)
set_option maxRecDepth 20000 in
theorem w_288 : (Jvm.Cond.methodLink "TaskTurns" (135 : Nat) ({ cls := "TaskTurns", name := "giveTurn", desc := "(LTaskTurns$Task;)V" } : Jvm.MethodName)) ∈ xTB := xmem 288 (by decide +kernel) (by decide +kernel)
set_option maxRecDepth 20000 in
theorem w_290 : (Jvm.Cond.instanceMethod ({ cls := "TaskTurns", name := "giveTurn", desc := "(LTaskTurns$Task;)V" } : Jvm.MethodName)) ∈ xTB := xmem 290 (by decide +kernel) (by decide +kernel)
set_option maxRecDepth 20000 in
theorem w_291 : (Jvm.Cond.code ({ cls := "TaskTurns", name := "giveTurn", desc := "(LTaskTurns$Task;)V" } : Jvm.MethodName) prog_1_method_20_code (3 : Nat) (Option.none : Option Jvm.ClassFile.FieldType)) ∈ xTB := xmem 291 (by decide +kernel) (by decide +kernel)
set_option maxRecDepth 20000 in
theorem w_292 : (Jvm.Cond.methodLink "TaskTurns" (167 : Nat) ({ cls := "TaskTurns", name := "doGuard", desc := "(LTaskTurns$Task;)I" } : Jvm.MethodName)) ∈ xTB := xmem 292 (by decide +kernel) (by decide +kernel)
set_option maxRecDepth 20000 in
theorem w_294 : (Jvm.Cond.instanceMethod ({ cls := "TaskTurns", name := "doGuard", desc := "(LTaskTurns$Task;)I" } : Jvm.MethodName)) ∈ xTB := xmem 294 (by decide +kernel) (by decide +kernel)
set_option maxRecDepth 20000 in
theorem w_295 : (Jvm.Cond.code ({ cls := "TaskTurns", name := "doGuard", desc := "(LTaskTurns$Task;)I" } : Jvm.MethodName) prog_1_method_22_code (5 : Nat) (Option.some Jvm.ClassFile.FieldType.int)) ∈ xTB := xmem 295 (by decide +kernel) (by decide +kernel)
set_option maxRecDepth 20000 in
theorem w_296 : (Jvm.Cond.methodLink "TaskTurns" (187 : Nat) ({ cls := "java/lang/Math", name := "min", desc := "(II)I" } : Jvm.MethodName)) ∈ xTB := xmem 296 (by decide +kernel) (by decide +kernel)
set_option maxRecDepth 20000 in
theorem w_297 : (Jvm.Cond.static ({ cls := "java/lang/Math", name := "min", desc := "(II)I" } : Jvm.MethodName)) ∈ xTB := xmem 297 (by decide +kernel) (by decide +kernel)
set_option maxRecDepth 20000 in
theorem w_298 : (Jvm.Cond.code ({ cls := "java/lang/Math", name := "min", desc := "(II)I" } : Jvm.MethodName) prog_10_method_69_code (2 : Nat) (Option.some Jvm.ClassFile.FieldType.int)) ∈ xTB := xmem 298 (by decide +kernel) (by decide +kernel)
set_option maxRecDepth 20000 in
theorem w_299 : (Jvm.Cond.methodLink "TaskTurns" (171 : Nat) ({ cls := "TaskTurns", name := "doAct", desc := "(LTaskTurns$Task;Z)I" } : Jvm.MethodName)) ∈ xTB := xmem 299 (by decide +kernel) (by decide +kernel)
set_option maxRecDepth 20000 in
theorem w_301 : (Jvm.Cond.instanceMethod ({ cls := "TaskTurns", name := "doAct", desc := "(LTaskTurns$Task;Z)I" } : Jvm.MethodName)) ∈ xTB := xmem 301 (by decide +kernel) (by decide +kernel)
set_option maxRecDepth 20000 in
theorem w_302 : (Jvm.Cond.code ({ cls := "TaskTurns", name := "doAct", desc := "(LTaskTurns$Task;Z)I" } : Jvm.MethodName) prog_1_method_23_code (6 : Nat) (Option.some Jvm.ClassFile.FieldType.int)) ∈ xTB := xmem 302 (by decide +kernel) (by decide +kernel)
set_option maxRecDepth 20000 in
theorem w_303 : (Jvm.Cond.methodLink "TaskTurns" (196 : Nat) ({ cls := "TaskTurns$Task", name := "add", desc := "(I)I" } : Jvm.MethodName)) ∈ xTB := xmem 303 (by decide +kernel) (by decide +kernel)
set_option maxRecDepth 20000 in
theorem w_304 : (Jvm.Cond.instanceMethod ({ cls := "TaskTurns$Task", name := "add", desc := "(I)I" } : Jvm.MethodName)) ∈ xTB := xmem 304 (by decide +kernel) (by decide +kernel)
set_option maxRecDepth 20000 in
theorem w_305 : (Jvm.Cond.selects "TaskTurns$Task" ({ cls := "TaskTurns$Task", name := "add", desc := "(I)I" } : Jvm.MethodName) ({ cls := "TaskTurns$Task", name := "add", desc := "(I)I" } : Jvm.MethodName)) ∈ xTB := xmem 305 (by decide +kernel) (by decide +kernel)
set_option maxRecDepth 20000 in
theorem w_306 : (Jvm.Cond.code ({ cls := "TaskTurns$Task", name := "add", desc := "(I)I" } : Jvm.MethodName) prog_7_method_10_code (2 : Nat) (Option.some Jvm.ClassFile.FieldType.int)) ∈ xTB := xmem 306 (by decide +kernel) (by decide +kernel)
set_option maxRecDepth 20000 in
theorem w_307 : (Jvm.Cond.methodLink "TaskTurns" (199 : Nat) ({ cls := "TaskTurns$Task", name := "divide", desc := "(I)I" } : Jvm.MethodName)) ∈ xTB := xmem 307 (by decide +kernel) (by decide +kernel)
set_option maxRecDepth 20000 in
theorem w_308 : (Jvm.Cond.instanceMethod ({ cls := "TaskTurns$Task", name := "divide", desc := "(I)I" } : Jvm.MethodName)) ∈ xTB := xmem 308 (by decide +kernel) (by decide +kernel)
set_option maxRecDepth 20000 in
theorem w_309 : (Jvm.Cond.selects "TaskTurns$Task" ({ cls := "TaskTurns$Task", name := "divide", desc := "(I)I" } : Jvm.MethodName) ({ cls := "TaskTurns$Task", name := "divide", desc := "(I)I" } : Jvm.MethodName)) ∈ xTB := xmem 309 (by decide +kernel) (by decide +kernel)
set_option maxRecDepth 20000 in
theorem w_310 : (Jvm.Cond.code ({ cls := "TaskTurns$Task", name := "divide", desc := "(I)I" } : Jvm.MethodName) prog_7_method_11_code (2 : Nat) (Option.some Jvm.ClassFile.FieldType.int)) ∈ xTB := xmem 310 (by decide +kernel) (by decide +kernel)
set_option maxRecDepth 20000 in
theorem w_311 : (Jvm.Cond.methodLink "TaskTurns" (202 : Nat) ({ cls := "TaskTurns$Task", name := "makeRow", desc := "(I)I" } : Jvm.MethodName)) ∈ xTB := xmem 311 (by decide +kernel) (by decide +kernel)
set_option maxRecDepth 20000 in
theorem w_312 : (Jvm.Cond.instanceMethod ({ cls := "TaskTurns$Task", name := "makeRow", desc := "(I)I" } : Jvm.MethodName)) ∈ xTB := xmem 312 (by decide +kernel) (by decide +kernel)
set_option maxRecDepth 20000 in
theorem w_313 : (Jvm.Cond.selects "TaskTurns$Task" ({ cls := "TaskTurns$Task", name := "makeRow", desc := "(I)I" } : Jvm.MethodName) ({ cls := "TaskTurns$Task", name := "makeRow", desc := "(I)I" } : Jvm.MethodName)) ∈ xTB := xmem 313 (by decide +kernel) (by decide +kernel)
set_option maxRecDepth 20000 in
theorem w_314 : (Jvm.Cond.code ({ cls := "TaskTurns$Task", name := "makeRow", desc := "(I)I" } : Jvm.MethodName) prog_7_method_12_code (2 : Nat) (Option.some Jvm.ClassFile.FieldType.int)) ∈ xTB := xmem 314 (by decide +kernel) (by decide +kernel)
set_option maxRecDepth 20000 in
theorem w_315 : (Jvm.Cond.methodLink "TaskTurns$Task" (109 : Nat) ({ cls := "TaskTurns$Row", name := "renew", desc := "(I)V" } : Jvm.MethodName)) ∈ xTB := xmem 315 (by decide +kernel) (by decide +kernel)
set_option maxRecDepth 20000 in
theorem w_316 : (Jvm.Cond.instanceMethod ({ cls := "TaskTurns$Row", name := "renew", desc := "(I)V" } : Jvm.MethodName)) ∈ xTB := xmem 316 (by decide +kernel) (by decide +kernel)
set_option maxRecDepth 20000 in
theorem w_317 : (Jvm.Cond.selects "TaskTurns$Row" ({ cls := "TaskTurns$Row", name := "renew", desc := "(I)V" } : Jvm.MethodName) ({ cls := "TaskTurns$Row", name := "renew", desc := "(I)V" } : Jvm.MethodName)) ∈ xTB := xmem 317 (by decide +kernel) (by decide +kernel)
set_option maxRecDepth 20000 in
theorem w_318 : (Jvm.Cond.code ({ cls := "TaskTurns$Row", name := "renew", desc := "(I)V" } : Jvm.MethodName) prog_6_method_4_code (3 : Nat) (Option.none : Option Jvm.ClassFile.FieldType)) ∈ xTB := xmem 318 (by decide +kernel) (by decide +kernel)
set_option maxRecDepth 20000 in
theorem w_319 : (Jvm.Cond.methodLink "TaskTurns" (205 : Nat) ({ cls := "TaskTurns$Task", name := "put", desc := "(I)I" } : Jvm.MethodName)) ∈ xTB := xmem 319 (by decide +kernel) (by decide +kernel)
set_option maxRecDepth 20000 in
theorem w_320 : (Jvm.Cond.instanceMethod ({ cls := "TaskTurns$Task", name := "put", desc := "(I)I" } : Jvm.MethodName)) ∈ xTB := xmem 320 (by decide +kernel) (by decide +kernel)
set_option maxRecDepth 20000 in
theorem w_321 : (Jvm.Cond.selects "TaskTurns$Task" ({ cls := "TaskTurns$Task", name := "put", desc := "(I)I" } : Jvm.MethodName) ({ cls := "TaskTurns$Task", name := "put", desc := "(I)I" } : Jvm.MethodName)) ∈ xTB := xmem 321 (by decide +kernel) (by decide +kernel)
set_option maxRecDepth 20000 in
theorem w_322 : (Jvm.Cond.code ({ cls := "TaskTurns$Task", name := "put", desc := "(I)I" } : Jvm.MethodName) prog_7_method_13_code (2 : Nat) (Option.some Jvm.ClassFile.FieldType.int)) ∈ xTB := xmem 322 (by decide +kernel) (by decide +kernel)
set_option maxRecDepth 20000 in
theorem w_323 : (Jvm.Cond.methodLink "TaskTurns$Task" (113 : Nat) ({ cls := "TaskTurns$Row", name := "has", desc := "(I)Z" } : Jvm.MethodName)) ∈ xTB := xmem 323 (by decide +kernel) (by decide +kernel)
set_option maxRecDepth 20000 in
theorem w_324 : (Jvm.Cond.instanceMethod ({ cls := "TaskTurns$Row", name := "has", desc := "(I)Z" } : Jvm.MethodName)) ∈ xTB := xmem 324 (by decide +kernel) (by decide +kernel)
set_option maxRecDepth 20000 in
theorem w_325 : (Jvm.Cond.selects "TaskTurns$Row" ({ cls := "TaskTurns$Row", name := "has", desc := "(I)Z" } : Jvm.MethodName) ({ cls := "TaskTurns$Row", name := "has", desc := "(I)Z" } : Jvm.MethodName)) ∈ xTB := xmem 325 (by decide +kernel) (by decide +kernel)
set_option maxRecDepth 20000 in
theorem w_326 : (Jvm.Cond.code ({ cls := "TaskTurns$Row", name := "has", desc := "(I)Z" } : Jvm.MethodName) prog_6_method_3_code (2 : Nat) (Option.some Jvm.ClassFile.FieldType.boolean)) ∈ xTB := xmem 326 (by decide +kernel) (by decide +kernel)
set_option maxRecDepth 20000 in
theorem w_327 : (Jvm.Cond.methodLink "TaskTurns$Task" (121 : Nat) ({ cls := "TaskTurns$Row", name := "isNothing", desc := "()Z" } : Jvm.MethodName)) ∈ xTB := xmem 327 (by decide +kernel) (by decide +kernel)
set_option maxRecDepth 20000 in
theorem w_328 : (Jvm.Cond.instanceMethod ({ cls := "TaskTurns$Row", name := "isNothing", desc := "()Z" } : Jvm.MethodName)) ∈ xTB := xmem 328 (by decide +kernel) (by decide +kernel)
set_option maxRecDepth 20000 in
theorem w_329 : (Jvm.Cond.selects "TaskTurns$Row" ({ cls := "TaskTurns$Row", name := "isNothing", desc := "()Z" } : Jvm.MethodName) ({ cls := "TaskTurns$Row", name := "isNothing", desc := "()Z" } : Jvm.MethodName)) ∈ xTB := xmem 329 (by decide +kernel) (by decide +kernel)
set_option maxRecDepth 20000 in
theorem w_330 : (Jvm.Cond.code ({ cls := "TaskTurns$Row", name := "isNothing", desc := "()Z" } : Jvm.MethodName) prog_6_method_2_code (1 : Nat) (Option.some Jvm.ClassFile.FieldType.boolean)) ∈ xTB := xmem 330 (by decide +kernel) (by decide +kernel)
set_option maxRecDepth 20000 in
theorem w_331 : (Jvm.Cond.methodLink "TaskTurns" (208 : Nat) ({ cls := "TaskTurns$Task", name := "get", desc := "(I)I" } : Jvm.MethodName)) ∈ xTB := xmem 331 (by decide +kernel) (by decide +kernel)
set_option maxRecDepth 20000 in
theorem w_332 : (Jvm.Cond.instanceMethod ({ cls := "TaskTurns$Task", name := "get", desc := "(I)I" } : Jvm.MethodName)) ∈ xTB := xmem 332 (by decide +kernel) (by decide +kernel)
set_option maxRecDepth 20000 in
theorem w_333 : (Jvm.Cond.selects "TaskTurns$Task" ({ cls := "TaskTurns$Task", name := "get", desc := "(I)I" } : Jvm.MethodName) ({ cls := "TaskTurns$Task", name := "get", desc := "(I)I" } : Jvm.MethodName)) ∈ xTB := xmem 333 (by decide +kernel) (by decide +kernel)
set_option maxRecDepth 20000 in
theorem w_334 : (Jvm.Cond.code ({ cls := "TaskTurns$Task", name := "get", desc := "(I)I" } : Jvm.MethodName) prog_7_method_14_code (2 : Nat) (Option.some Jvm.ClassFile.FieldType.int)) ∈ xTB := xmem 334 (by decide +kernel) (by decide +kernel)
set_option maxRecDepth 20000 in
theorem w_335 : (Jvm.Cond.methodLink "TaskTurns" (211 : Nat) ({ cls := "TaskTurns$Task", name := "takeLetter", desc := "(Z)I" } : Jvm.MethodName)) ∈ xTB := xmem 335 (by decide +kernel) (by decide +kernel)
set_option maxRecDepth 20000 in
theorem w_336 : (Jvm.Cond.instanceMethod ({ cls := "TaskTurns$Task", name := "takeLetter", desc := "(Z)I" } : Jvm.MethodName)) ∈ xTB := xmem 336 (by decide +kernel) (by decide +kernel)
set_option maxRecDepth 20000 in
theorem w_337 : (Jvm.Cond.selects "TaskTurns$Task" ({ cls := "TaskTurns$Task", name := "takeLetter", desc := "(Z)I" } : Jvm.MethodName) ({ cls := "TaskTurns$Task", name := "takeLetter", desc := "(Z)I" } : Jvm.MethodName)) ∈ xTB := xmem 337 (by decide +kernel) (by decide +kernel)
set_option maxRecDepth 20000 in
theorem w_338 : (Jvm.Cond.code ({ cls := "TaskTurns$Task", name := "takeLetter", desc := "(Z)I" } : Jvm.MethodName) prog_7_method_15_code (2 : Nat) (Option.some Jvm.ClassFile.FieldType.int)) ∈ xTB := xmem 338 (by decide +kernel) (by decide +kernel)
set_option maxRecDepth 20000 in
theorem w_339 : (Jvm.Cond.methodLink "TaskTurns$Task" (125 : Nat) ({ cls := "TaskTurns$Letters", name := "removeEldest", desc := "()I" } : Jvm.MethodName)) ∈ xTB := xmem 339 (by decide +kernel) (by decide +kernel)
set_option maxRecDepth 20000 in
theorem w_340 : (Jvm.Cond.instanceMethod ({ cls := "TaskTurns$Letters", name := "removeEldest", desc := "()I" } : Jvm.MethodName)) ∈ xTB := xmem 340 (by decide +kernel) (by decide +kernel)
set_option maxRecDepth 20000 in
theorem w_341 : (Jvm.Cond.selects "TaskTurns$Letters" ({ cls := "TaskTurns$Letters", name := "removeEldest", desc := "()I" } : Jvm.MethodName) ({ cls := "TaskTurns$Letters", name := "removeEldest", desc := "()I" } : Jvm.MethodName)) ∈ xTB := xmem 341 (by decide +kernel) (by decide +kernel)
set_option maxRecDepth 20000 in
theorem w_342 : (Jvm.Cond.code ({ cls := "TaskTurns$Letters", name := "removeEldest", desc := "()I" } : Jvm.MethodName) prog_4_method_5_code (3 : Nat) (Option.some Jvm.ClassFile.FieldType.int)) ∈ xTB := xmem 342 (by decide +kernel) (by decide +kernel)
set_option maxRecDepth 20000 in
theorem w_343 : (Jvm.Cond.methodLink "TaskTurns" (218 : Nat) ({ cls := "TaskTurns", name := "send", desc := "(II)I" } : Jvm.MethodName)) ∈ xTB := xmem 343 (by decide +kernel) (by decide +kernel)
set_option maxRecDepth 20000 in
theorem w_345 : (Jvm.Cond.instanceMethod ({ cls := "TaskTurns", name := "send", desc := "(II)I" } : Jvm.MethodName)) ∈ xTB := xmem 345 (by decide +kernel) (by decide +kernel)
set_option maxRecDepth 20000 in
theorem w_346 : (Jvm.Cond.code ({ cls := "TaskTurns", name := "send", desc := "(II)I" } : Jvm.MethodName) prog_1_method_24_code (4 : Nat) (Option.some Jvm.ClassFile.FieldType.int)) ∈ xTB := xmem 346 (by decide +kernel) (by decide +kernel)
set_option maxRecDepth 20000 in
theorem w_347 : (Jvm.Cond.methodLink "TaskTurns" (56 : Nat) ({ cls := "TaskTurns$Task", name := "isOver", desc := "()Z" } : Jvm.MethodName)) ∈ xTB := xmem 347 (by decide +kernel) (by decide +kernel)
set_option maxRecDepth 20000 in
theorem w_348 : (Jvm.Cond.instanceMethod ({ cls := "TaskTurns$Task", name := "isOver", desc := "()Z" } : Jvm.MethodName)) ∈ xTB := xmem 348 (by decide +kernel) (by decide +kernel)
set_option maxRecDepth 20000 in
theorem w_349 : (Jvm.Cond.selects "TaskTurns$Task" ({ cls := "TaskTurns$Task", name := "isOver", desc := "()Z" } : Jvm.MethodName) ({ cls := "TaskTurns$Task", name := "isOver", desc := "()Z" } : Jvm.MethodName)) ∈ xTB := xmem 349 (by decide +kernel) (by decide +kernel)
set_option maxRecDepth 20000 in
theorem w_350 : (Jvm.Cond.code ({ cls := "TaskTurns$Task", name := "isOver", desc := "()Z" } : Jvm.MethodName) prog_7_method_2_code (1 : Nat) (Option.some Jvm.ClassFile.FieldType.boolean)) ∈ xTB := xmem 350 (by decide +kernel) (by decide +kernel)
set_option maxRecDepth 20000 in
theorem w_351 : (Jvm.Cond.methodLink "TaskTurns" (64 : Nat) ({ cls := "TaskTurns$Letters", name := "isFull", desc := "()Z" } : Jvm.MethodName)) ∈ xTB := xmem 351 (by decide +kernel) (by decide +kernel)
set_option maxRecDepth 20000 in
theorem w_352 : (Jvm.Cond.instanceMethod ({ cls := "TaskTurns$Letters", name := "isFull", desc := "()Z" } : Jvm.MethodName)) ∈ xTB := xmem 352 (by decide +kernel) (by decide +kernel)
set_option maxRecDepth 20000 in
theorem w_353 : (Jvm.Cond.selects "TaskTurns$Letters" ({ cls := "TaskTurns$Letters", name := "isFull", desc := "()Z" } : Jvm.MethodName) ({ cls := "TaskTurns$Letters", name := "isFull", desc := "()Z" } : Jvm.MethodName)) ∈ xTB := xmem 353 (by decide +kernel) (by decide +kernel)
set_option maxRecDepth 20000 in
theorem w_354 : (Jvm.Cond.code ({ cls := "TaskTurns$Letters", name := "isFull", desc := "()Z" } : Jvm.MethodName) prog_4_method_2_code (1 : Nat) (Option.some Jvm.ClassFile.FieldType.boolean)) ∈ xTB := xmem 354 (by decide +kernel) (by decide +kernel)
set_option maxRecDepth 20000 in
theorem w_355 : (Jvm.Cond.methodLink "TaskTurns" (69 : Nat) ({ cls := "TaskTurns$Letters", name := "append", desc := "(I)V" } : Jvm.MethodName)) ∈ xTB := xmem 355 (by decide +kernel) (by decide +kernel)
set_option maxRecDepth 20000 in
theorem w_356 : (Jvm.Cond.instanceMethod ({ cls := "TaskTurns$Letters", name := "append", desc := "(I)V" } : Jvm.MethodName)) ∈ xTB := xmem 356 (by decide +kernel) (by decide +kernel)
set_option maxRecDepth 20000 in
theorem w_357 : (Jvm.Cond.selects "TaskTurns$Letters" ({ cls := "TaskTurns$Letters", name := "append", desc := "(I)V" } : Jvm.MethodName) ({ cls := "TaskTurns$Letters", name := "append", desc := "(I)V" } : Jvm.MethodName)) ∈ xTB := xmem 357 (by decide +kernel) (by decide +kernel)
set_option maxRecDepth 20000 in
theorem w_358 : (Jvm.Cond.code ({ cls := "TaskTurns$Letters", name := "append", desc := "(I)V" } : Jvm.MethodName) prog_4_method_4_code (2 : Nat) (Option.none : Option Jvm.ClassFile.FieldType)) ∈ xTB := xmem 358 (by decide +kernel) (by decide +kernel)
set_option maxRecDepth 20000 in
theorem w_359 : (Jvm.Cond.methodLink "TaskTurns" (221 : Nat) ({ cls := "TaskTurns$Task", name := "waitFor", desc := "(I)I" } : Jvm.MethodName)) ∈ xTB := xmem 359 (by decide +kernel) (by decide +kernel)
set_option maxRecDepth 20000 in
theorem w_360 : (Jvm.Cond.instanceMethod ({ cls := "TaskTurns$Task", name := "waitFor", desc := "(I)I" } : Jvm.MethodName)) ∈ xTB := xmem 360 (by decide +kernel) (by decide +kernel)
set_option maxRecDepth 20000 in
theorem w_361 : (Jvm.Cond.selects "TaskTurns$Task" ({ cls := "TaskTurns$Task", name := "waitFor", desc := "(I)I" } : Jvm.MethodName) ({ cls := "TaskTurns$Task", name := "waitFor", desc := "(I)I" } : Jvm.MethodName)) ∈ xTB := xmem 361 (by decide +kernel) (by decide +kernel)
set_option maxRecDepth 20000 in
theorem w_362 : (Jvm.Cond.code ({ cls := "TaskTurns$Task", name := "waitFor", desc := "(I)I" } : Jvm.MethodName) prog_7_method_16_code (2 : Nat) (Option.some Jvm.ClassFile.FieldType.int)) ∈ xTB := xmem 362 (by decide +kernel) (by decide +kernel)
set_option maxRecDepth 20000 in
theorem w_363 : (Jvm.Cond.methodLink "TaskTurns" (224 : Nat) ({ cls := "TaskTurns$Task", name := "setMark", desc := "()I" } : Jvm.MethodName)) ∈ xTB := xmem 363 (by decide +kernel) (by decide +kernel)
set_option maxRecDepth 20000 in
theorem w_364 : (Jvm.Cond.instanceMethod ({ cls := "TaskTurns$Task", name := "setMark", desc := "()I" } : Jvm.MethodName)) ∈ xTB := xmem 364 (by decide +kernel) (by decide +kernel)
set_option maxRecDepth 20000 in
theorem w_365 : (Jvm.Cond.selects "TaskTurns$Task" ({ cls := "TaskTurns$Task", name := "setMark", desc := "()I" } : Jvm.MethodName) ({ cls := "TaskTurns$Task", name := "setMark", desc := "()I" } : Jvm.MethodName)) ∈ xTB := xmem 365 (by decide +kernel) (by decide +kernel)
set_option maxRecDepth 20000 in
theorem w_366 : (Jvm.Cond.code ({ cls := "TaskTurns$Task", name := "setMark", desc := "()I" } : Jvm.MethodName) prog_7_method_9_code (1 : Nat) (Option.some Jvm.ClassFile.FieldType.int)) ∈ xTB := xmem 366 (by decide +kernel) (by decide +kernel)
set_option maxRecDepth 20000 in
theorem w_367 : (Jvm.Cond.methodLink "TaskTurns$Task" (104 : Nat) ({ cls := "TaskTurns$Row", name := "copyFrom", desc := "(LTaskTurns$Row;)V" } : Jvm.MethodName)) ∈ xTB := xmem 367 (by decide +kernel) (by decide +kernel)
set_option maxRecDepth 20000 in
theorem w_368 : (Jvm.Cond.instanceMethod ({ cls := "TaskTurns$Row", name := "copyFrom", desc := "(LTaskTurns$Row;)V" } : Jvm.MethodName)) ∈ xTB := xmem 368 (by decide +kernel) (by decide +kernel)
set_option maxRecDepth 20000 in
theorem w_369 : (Jvm.Cond.selects "TaskTurns$Row" ({ cls := "TaskTurns$Row", name := "copyFrom", desc := "(LTaskTurns$Row;)V" } : Jvm.MethodName) ({ cls := "TaskTurns$Row", name := "copyFrom", desc := "(LTaskTurns$Row;)V" } : Jvm.MethodName)) ∈ xTB := xmem 369 (by decide +kernel) (by decide +kernel)
set_option maxRecDepth 20000 in
theorem w_370 : (Jvm.Cond.code ({ cls := "TaskTurns$Row", name := "copyFrom", desc := "(LTaskTurns$Row;)V" } : Jvm.MethodName) prog_6_method_5_code (3 : Nat) (Option.none : Option Jvm.ClassFile.FieldType)) ∈ xTB := xmem 370 (by decide +kernel) (by decide +kernel)
set_option maxRecDepth 20000 in
theorem w_371 : (Jvm.Cond.methodLink "TaskTurns" (227 : Nat) ({ cls := "TaskTurns$Task", name := "makeBox", desc := "(I)I" } : Jvm.MethodName)) ∈ xTB := xmem 371 (by decide +kernel) (by decide +kernel)
set_option maxRecDepth 20000 in
theorem w_372 : (Jvm.Cond.instanceMethod ({ cls := "TaskTurns$Task", name := "makeBox", desc := "(I)I" } : Jvm.MethodName)) ∈ xTB := xmem 372 (by decide +kernel) (by decide +kernel)
set_option maxRecDepth 20000 in
theorem w_373 : (Jvm.Cond.selects "TaskTurns$Task" ({ cls := "TaskTurns$Task", name := "makeBox", desc := "(I)I" } : Jvm.MethodName) ({ cls := "TaskTurns$Task", name := "makeBox", desc := "(I)I" } : Jvm.MethodName)) ∈ xTB := xmem 373 (by decide +kernel) (by decide +kernel)
set_option maxRecDepth 20000 in
theorem w_374 : (Jvm.Cond.code ({ cls := "TaskTurns$Task", name := "makeBox", desc := "(I)I" } : Jvm.MethodName) prog_7_method_17_code (2 : Nat) (Option.some Jvm.ClassFile.FieldType.int)) ∈ xTB := xmem 374 (by decide +kernel) (by decide +kernel)
set_option maxRecDepth 20000 in
theorem w_375 : (Jvm.Cond.methodLink "TaskTurns$Task" (128 : Nat) ({ cls := "TaskTurns$Box", name := "renew", desc := "(I)V" } : Jvm.MethodName)) ∈ xTB := xmem 375 (by decide +kernel) (by decide +kernel)
set_option maxRecDepth 20000 in
theorem w_376 : (Jvm.Cond.instanceMethod ({ cls := "TaskTurns$Box", name := "renew", desc := "(I)V" } : Jvm.MethodName)) ∈ xTB := xmem 376 (by decide +kernel) (by decide +kernel)
set_option maxRecDepth 20000 in
theorem w_377 : (Jvm.Cond.selects "TaskTurns$Box" ({ cls := "TaskTurns$Box", name := "renew", desc := "(I)V" } : Jvm.MethodName) ({ cls := "TaskTurns$Box", name := "renew", desc := "(I)V" } : Jvm.MethodName)) ∈ xTB := xmem 377 (by decide +kernel) (by decide +kernel)
set_option maxRecDepth 20000 in
theorem w_378 : (Jvm.Cond.code ({ cls := "TaskTurns$Box", name := "renew", desc := "(I)V" } : Jvm.MethodName) prog_3_method_4_code (3 : Nat) (Option.none : Option Jvm.ClassFile.FieldType)) ∈ xTB := xmem 378 (by decide +kernel) (by decide +kernel)
set_option maxRecDepth 20000 in
theorem w_379 : (Jvm.Cond.methodLink "TaskTurns" (230 : Nat) ({ cls := "TaskTurns$Box", name := "put", desc := "(III)I" } : Jvm.MethodName)) ∈ xTB := xmem 379 (by decide +kernel) (by decide +kernel)
set_option maxRecDepth 20000 in
theorem w_380 : (Jvm.Cond.instanceMethod ({ cls := "TaskTurns$Box", name := "put", desc := "(III)I" } : Jvm.MethodName)) ∈ xTB := xmem 380 (by decide +kernel) (by decide +kernel)
set_option maxRecDepth 20000 in
theorem w_381 : (Jvm.Cond.selects "TaskTurns$Box" ({ cls := "TaskTurns$Box", name := "put", desc := "(III)I" } : Jvm.MethodName) ({ cls := "TaskTurns$Box", name := "put", desc := "(III)I" } : Jvm.MethodName)) ∈ xTB := xmem 381 (by decide +kernel) (by decide +kernel)
set_option maxRecDepth 20000 in
theorem w_382 : (Jvm.Cond.code ({ cls := "TaskTurns$Box", name := "put", desc := "(III)I" } : Jvm.MethodName) prog_3_method_6_code (5 : Nat) (Option.some Jvm.ClassFile.FieldType.int)) ∈ xTB := xmem 382 (by decide +kernel) (by decide +kernel)
set_option maxRecDepth 20000 in
theorem w_383 : (Jvm.Cond.methodLink "TaskTurns$Box" (19 : Nat) ({ cls := "TaskTurns$Box", name := "lookAt", desc := "(II)I" } : Jvm.MethodName)) ∈ xTB := xmem 383 (by decide +kernel) (by decide +kernel)
set_option maxRecDepth 20000 in
theorem w_384 : (Jvm.Cond.instanceMethod ({ cls := "TaskTurns$Box", name := "lookAt", desc := "(II)I" } : Jvm.MethodName)) ∈ xTB := xmem 384 (by decide +kernel) (by decide +kernel)
set_option maxRecDepth 20000 in
theorem w_385 : (Jvm.Cond.selects "TaskTurns$Box" ({ cls := "TaskTurns$Box", name := "lookAt", desc := "(II)I" } : Jvm.MethodName) ({ cls := "TaskTurns$Box", name := "lookAt", desc := "(II)I" } : Jvm.MethodName)) ∈ xTB := xmem 385 (by decide +kernel) (by decide +kernel)
set_option maxRecDepth 20000 in
theorem w_386 : (Jvm.Cond.code ({ cls := "TaskTurns$Box", name := "lookAt", desc := "(II)I" } : Jvm.MethodName) prog_3_method_5_code (3 : Nat) (Option.some Jvm.ClassFile.FieldType.int)) ∈ xTB := xmem 386 (by decide +kernel) (by decide +kernel)
set_option maxRecDepth 20000 in
theorem w_387 : (Jvm.Cond.methodLink "TaskTurns" (232 : Nat) ({ cls := "TaskTurns", name := "ask", desc := "(LTaskTurns$Task;I)I" } : Jvm.MethodName)) ∈ xTB := xmem 387 (by decide +kernel) (by decide +kernel)
set_option maxRecDepth 20000 in
theorem w_389 : (Jvm.Cond.instanceMethod ({ cls := "TaskTurns", name := "ask", desc := "(LTaskTurns$Task;I)I" } : Jvm.MethodName)) ∈ xTB := xmem 389 (by decide +kernel) (by decide +kernel)
set_option maxRecDepth 20000 in
theorem w_390 : (Jvm.Cond.code ({ cls := "TaskTurns", name := "ask", desc := "(LTaskTurns$Task;I)I" } : Jvm.MethodName) prog_1_method_25_code (5 : Nat) (Option.some Jvm.ClassFile.FieldType.int)) ∈ xTB := xmem 390 (by decide +kernel) (by decide +kernel)
set_option maxRecDepth 20000 in
theorem w_391 : (Jvm.Cond.methodLink "TaskTurns" (239 : Nat) ({ cls := "TaskTurns$Box", name := "lookAt", desc := "(II)I" } : Jvm.MethodName)) ∈ xTB := xmem 391 (by decide +kernel) (by decide +kernel)
set_option maxRecDepth 20000 in
theorem w_392 : (Jvm.Cond.methodLink "TaskTurns" (236 : Nat) ({ cls := "TaskTurns$Task", name := "copyToBox", desc := "(I)I" } : Jvm.MethodName)) ∈ xTB := xmem 392 (by decide +kernel) (by decide +kernel)
set_option maxRecDepth 20000 in
theorem w_393 : (Jvm.Cond.instanceMethod ({ cls := "TaskTurns$Task", name := "copyToBox", desc := "(I)I" } : Jvm.MethodName)) ∈ xTB := xmem 393 (by decide +kernel) (by decide +kernel)
set_option maxRecDepth 20000 in
theorem w_394 : (Jvm.Cond.selects "TaskTurns$Task" ({ cls := "TaskTurns$Task", name := "copyToBox", desc := "(I)I" } : Jvm.MethodName) ({ cls := "TaskTurns$Task", name := "copyToBox", desc := "(I)I" } : Jvm.MethodName)) ∈ xTB := xmem 394 (by decide +kernel) (by decide +kernel)
set_option maxRecDepth 20000 in
theorem w_395 : (Jvm.Cond.code ({ cls := "TaskTurns$Task", name := "copyToBox", desc := "(I)I" } : Jvm.MethodName) prog_7_method_18_code (3 : Nat) (Option.some Jvm.ClassFile.FieldType.int)) ∈ xTB := xmem 395 (by decide +kernel) (by decide +kernel)
set_option maxRecDepth 20000 in
theorem w_396 : (Jvm.Cond.methodLink "TaskTurns$Task" (129 : Nat) ({ cls := "TaskTurns$Box", name := "isNothing", desc := "()Z" } : Jvm.MethodName)) ∈ xTB := xmem 396 (by decide +kernel) (by decide +kernel)
set_option maxRecDepth 20000 in
theorem w_397 : (Jvm.Cond.instanceMethod ({ cls := "TaskTurns$Box", name := "isNothing", desc := "()Z" } : Jvm.MethodName)) ∈ xTB := xmem 397 (by decide +kernel) (by decide +kernel)
set_option maxRecDepth 20000 in
theorem w_398 : (Jvm.Cond.selects "TaskTurns$Box" ({ cls := "TaskTurns$Box", name := "isNothing", desc := "()Z" } : Jvm.MethodName) ({ cls := "TaskTurns$Box", name := "isNothing", desc := "()Z" } : Jvm.MethodName)) ∈ xTB := xmem 398 (by decide +kernel) (by decide +kernel)
set_option maxRecDepth 20000 in
theorem w_399 : (Jvm.Cond.code ({ cls := "TaskTurns$Box", name := "isNothing", desc := "()Z" } : Jvm.MethodName) prog_3_method_2_code (1 : Nat) (Option.some Jvm.ClassFile.FieldType.boolean)) ∈ xTB := xmem 399 (by decide +kernel) (by decide +kernel)
set_option maxRecDepth 20000 in
theorem w_400 : (Jvm.Cond.methodLink "TaskTurns" (175 : Nat) ({ cls := "TaskTurns$Task", name := "fail", desc := "(I)V" } : Jvm.MethodName)) ∈ xTB := xmem 400 (by decide +kernel) (by decide +kernel)
set_option maxRecDepth 20000 in
theorem w_401 : (Jvm.Cond.instanceMethod ({ cls := "TaskTurns$Task", name := "fail", desc := "(I)V" } : Jvm.MethodName)) ∈ xTB := xmem 401 (by decide +kernel) (by decide +kernel)
set_option maxRecDepth 20000 in
theorem w_402 : (Jvm.Cond.selects "TaskTurns$Task" ({ cls := "TaskTurns$Task", name := "fail", desc := "(I)V" } : Jvm.MethodName) ({ cls := "TaskTurns$Task", name := "fail", desc := "(I)V" } : Jvm.MethodName)) ∈ xTB := xmem 402 (by decide +kernel) (by decide +kernel)
set_option maxRecDepth 20000 in
theorem w_403 : (Jvm.Cond.code ({ cls := "TaskTurns$Task", name := "fail", desc := "(I)V" } : Jvm.MethodName) prog_7_method_6_code (2 : Nat) (Option.none : Option Jvm.ClassFile.FieldType)) ∈ xTB := xmem 403 (by decide +kernel) (by decide +kernel)
set_option maxRecDepth 20000 in
theorem w_404 : (Jvm.Cond.methodLink "TaskTurns$Task" (95 : Nat) ({ cls := "TaskTurns$Task", name := "backsAllowed", desc := "()I" } : Jvm.MethodName)) ∈ xTB := xmem 404 (by decide +kernel) (by decide +kernel)
set_option maxRecDepth 20000 in
theorem w_405 : (Jvm.Cond.instanceMethod ({ cls := "TaskTurns$Task", name := "backsAllowed", desc := "()I" } : Jvm.MethodName)) ∈ xTB := xmem 405 (by decide +kernel) (by decide +kernel)
set_option maxRecDepth 20000 in
theorem w_406 : (Jvm.Cond.selects "TaskTurns$Task" ({ cls := "TaskTurns$Task", name := "backsAllowed", desc := "()I" } : Jvm.MethodName) ({ cls := "TaskTurns$Task", name := "backsAllowed", desc := "()I" } : Jvm.MethodName)) ∈ xTB := xmem 406 (by decide +kernel) (by decide +kernel)
set_option maxRecDepth 20000 in
theorem w_407 : (Jvm.Cond.code ({ cls := "TaskTurns$Task", name := "backsAllowed", desc := "()I" } : Jvm.MethodName) prog_7_method_7_code (1 : Nat) (Option.some Jvm.ClassFile.FieldType.int)) ∈ xTB := xmem 407 (by decide +kernel) (by decide +kernel)
set_option maxRecDepth 20000 in
theorem w_408 : (Jvm.Cond.methodLink "TaskTurns$Task" (99 : Nat) ({ cls := "TaskTurns$Task", name := "goBack", desc := "()V" } : Jvm.MethodName)) ∈ xTB := xmem 408 (by decide +kernel) (by decide +kernel)
set_option maxRecDepth 20000 in
theorem w_409 : (Jvm.Cond.instanceMethod ({ cls := "TaskTurns$Task", name := "goBack", desc := "()V" } : Jvm.MethodName)) ∈ xTB := xmem 409 (by decide +kernel) (by decide +kernel)
set_option maxRecDepth 20000 in
theorem w_410 : (Jvm.Cond.selects "TaskTurns$Task" ({ cls := "TaskTurns$Task", name := "goBack", desc := "()V" } : Jvm.MethodName) ({ cls := "TaskTurns$Task", name := "goBack", desc := "()V" } : Jvm.MethodName)) ∈ xTB := xmem 410 (by decide +kernel) (by decide +kernel)
set_option maxRecDepth 20000 in
theorem w_411 : (Jvm.Cond.code ({ cls := "TaskTurns$Task", name := "goBack", desc := "()V" } : Jvm.MethodName) prog_7_method_8_code (1 : Nat) (Option.none : Option Jvm.ClassFile.FieldType)) ∈ xTB := xmem 411 (by decide +kernel) (by decide +kernel)
set_option maxRecDepth 20000 in
theorem w_412 : (Jvm.Cond.methodLink "TaskTurns" (178 : Nat) ({ cls := "TaskTurns", name := "becomeDone", desc := "(LTaskTurns$Task;)V" } : Jvm.MethodName)) ∈ xTB := xmem 412 (by decide +kernel) (by decide +kernel)
set_option maxRecDepth 20000 in
theorem w_414 : (Jvm.Cond.instanceMethod ({ cls := "TaskTurns", name := "becomeDone", desc := "(LTaskTurns$Task;)V" } : Jvm.MethodName)) ∈ xTB := xmem 414 (by decide +kernel) (by decide +kernel)
set_option maxRecDepth 20000 in
theorem w_415 : (Jvm.Cond.code ({ cls := "TaskTurns", name := "becomeDone", desc := "(LTaskTurns$Task;)V" } : Jvm.MethodName) prog_1_method_21_code (2 : Nat) (Option.none : Option Jvm.ClassFile.FieldType)) ∈ xTB := xmem 415 (by decide +kernel) (by decide +kernel)
set_option maxRecDepth 20000 in
theorem w_416 : (Jvm.Cond.methodLink "TaskTurns" (139 : Nat) ({ cls := "TaskTurns", name := "ageTasks", desc := "()V" } : Jvm.MethodName)) ∈ xTB := xmem 416 (by decide +kernel) (by decide +kernel)
set_option maxRecDepth 20000 in
theorem w_418 : (Jvm.Cond.instanceMethod ({ cls := "TaskTurns", name := "ageTasks", desc := "()V" } : Jvm.MethodName)) ∈ xTB := xmem 418 (by decide +kernel) (by decide +kernel)
set_option maxRecDepth 20000 in
theorem w_419 : (Jvm.Cond.code ({ cls := "TaskTurns", name := "ageTasks", desc := "()V" } : Jvm.MethodName) prog_1_method_18_code (3 : Nat) (Option.none : Option Jvm.ClassFile.FieldType)) ∈ xTB := xmem 419 (by decide +kernel) (by decide +kernel)
set_option maxRecDepth 20000 in
theorem w_420 : (Jvm.Cond.methodLink "TaskTurnsLaw" (32 : Nat) ({ cls := "TaskTurns", name := "letter", desc := "(II)I" } : Jvm.MethodName)) ∈ xTB := xmem 420 (by decide +kernel) (by decide +kernel)
set_option maxRecDepth 20000 in
theorem w_421 : (Jvm.Cond.instanceMethod ({ cls := "TaskTurns", name := "letter", desc := "(II)I" } : Jvm.MethodName)) ∈ xTB := xmem 421 (by decide +kernel) (by decide +kernel)
set_option maxRecDepth 20000 in
theorem w_422 : (Jvm.Cond.selects "TaskTurns" ({ cls := "TaskTurns", name := "letter", desc := "(II)I" } : Jvm.MethodName) ({ cls := "TaskTurns", name := "letter", desc := "(II)I" } : Jvm.MethodName)) ∈ xTB := xmem 422 (by decide +kernel) (by decide +kernel)
set_option maxRecDepth 20000 in
theorem w_423 : (Jvm.Cond.code ({ cls := "TaskTurns", name := "letter", desc := "(II)I" } : Jvm.MethodName) prog_1_method_6_code (4 : Nat) (Option.some Jvm.ClassFile.FieldType.int)) ∈ xTB := xmem 423 (by decide +kernel) (by decide +kernel)
set_option maxRecDepth 20000 in
theorem w_424 : (Jvm.Cond.methodLink "TaskTurnsLaw" (36 : Nat) ({ cls := "TaskTurns", name := "stop", desc := "(I)I" } : Jvm.MethodName)) ∈ xTB := xmem 424 (by decide +kernel) (by decide +kernel)
set_option maxRecDepth 20000 in
theorem w_425 : (Jvm.Cond.instanceMethod ({ cls := "TaskTurns", name := "stop", desc := "(I)I" } : Jvm.MethodName)) ∈ xTB := xmem 425 (by decide +kernel) (by decide +kernel)
set_option maxRecDepth 20000 in
theorem w_426 : (Jvm.Cond.selects "TaskTurns" ({ cls := "TaskTurns", name := "stop", desc := "(I)I" } : Jvm.MethodName) ({ cls := "TaskTurns", name := "stop", desc := "(I)I" } : Jvm.MethodName)) ∈ xTB := xmem 426 (by decide +kernel) (by decide +kernel)
set_option maxRecDepth 20000 in
theorem w_427 : (Jvm.Cond.code ({ cls := "TaskTurns", name := "stop", desc := "(I)I" } : Jvm.MethodName) prog_1_method_7_code (3 : Nat) (Option.some Jvm.ClassFile.FieldType.int)) ∈ xTB := xmem 427 (by decide +kernel) (by decide +kernel)
set_option maxRecDepth 20000 in
theorem w_428 : (Jvm.Cond.methodLink "TaskTurnsLaw" (40 : Nat) ({ cls := "TaskTurns", name := "again", desc := "(I)I" } : Jvm.MethodName)) ∈ xTB := xmem 428 (by decide +kernel) (by decide +kernel)
set_option maxRecDepth 20000 in
theorem w_429 : (Jvm.Cond.instanceMethod ({ cls := "TaskTurns", name := "again", desc := "(I)I" } : Jvm.MethodName)) ∈ xTB := xmem 429 (by decide +kernel) (by decide +kernel)
set_option maxRecDepth 20000 in
theorem w_430 : (Jvm.Cond.selects "TaskTurns" ({ cls := "TaskTurns", name := "again", desc := "(I)I" } : Jvm.MethodName) ({ cls := "TaskTurns", name := "again", desc := "(I)I" } : Jvm.MethodName)) ∈ xTB := xmem 430 (by decide +kernel) (by decide +kernel)
set_option maxRecDepth 20000 in
theorem w_431 : (Jvm.Cond.code ({ cls := "TaskTurns", name := "again", desc := "(I)I" } : Jvm.MethodName) prog_1_method_8_code (3 : Nat) (Option.some Jvm.ClassFile.FieldType.int)) ∈ xTB := xmem 431 (by decide +kernel) (by decide +kernel)
set_option maxRecDepth 20000 in
theorem w_432 : (Jvm.Cond.methodLink "TaskTurns" (75 : Nat) ({ cls := "TaskTurns$Task", name := "goBack", desc := "()V" } : Jvm.MethodName)) ∈ xTB := xmem 432 (by decide +kernel) (by decide +kernel)
set_option maxRecDepth 20000 in
theorem w_433 : (Jvm.Cond.methodLink "TaskTurnsLaw" (44 : Nat) ({ cls := "TaskTurns", name := "of", desc := "(II)I" } : Jvm.MethodName)) ∈ xTB := xmem 433 (by decide +kernel) (by decide +kernel)
set_option maxRecDepth 20000 in
theorem w_434 : (Jvm.Cond.instanceMethod ({ cls := "TaskTurns", name := "of", desc := "(II)I" } : Jvm.MethodName)) ∈ xTB := xmem 434 (by decide +kernel) (by decide +kernel)
set_option maxRecDepth 20000 in
theorem w_435 : (Jvm.Cond.selects "TaskTurns" ({ cls := "TaskTurns", name := "of", desc := "(II)I" } : Jvm.MethodName) ({ cls := "TaskTurns", name := "of", desc := "(II)I" } : Jvm.MethodName)) ∈ xTB := xmem 435 (by decide +kernel) (by decide +kernel)
set_option maxRecDepth 20000 in
theorem w_436 : (Jvm.Cond.code ({ cls := "TaskTurns", name := "of", desc := "(II)I" } : Jvm.MethodName) prog_1_method_9_code (4 : Nat) (Option.some Jvm.ClassFile.FieldType.int)) ∈ xTB := xmem 436 (by decide +kernel) (by decide +kernel)
set_option maxRecDepth 20000 in
theorem w_437 : (Jvm.Cond.methodLink "TaskTurns" (78 : Nat) ({ cls := "TaskTurns$Task", name := "tell", desc := "(I)I" } : Jvm.MethodName)) ∈ xTB := xmem 437 (by decide +kernel) (by decide +kernel)
set_option maxRecDepth 20000 in
theorem w_438 : (Jvm.Cond.instanceMethod ({ cls := "TaskTurns$Task", name := "tell", desc := "(I)I" } : Jvm.MethodName)) ∈ xTB := xmem 438 (by decide +kernel) (by decide +kernel)
set_option maxRecDepth 20000 in
theorem w_439 : (Jvm.Cond.selects "TaskTurns$Task" ({ cls := "TaskTurns$Task", name := "tell", desc := "(I)I" } : Jvm.MethodName) ({ cls := "TaskTurns$Task", name := "tell", desc := "(I)I" } : Jvm.MethodName)) ∈ xTB := xmem 439 (by decide +kernel) (by decide +kernel)
set_option maxRecDepth 20000 in
theorem w_440 : (Jvm.Cond.code ({ cls := "TaskTurns$Task", name := "tell", desc := "(I)I" } : Jvm.MethodName) prog_7_method_4_code (2 : Nat) (Option.some Jvm.ClassFile.FieldType.int)) ∈ xTB := xmem 440 (by decide +kernel) (by decide +kernel)
set_option maxRecDepth 20000 in
theorem w_441 : (Jvm.Cond.methodLink "TaskTurnsLaw" (48 : Nat) ({ cls := "TaskTurns", name := "at", desc := "(IZI)I" } : Jvm.MethodName)) ∈ xTB := xmem 441 (by decide +kernel) (by decide +kernel)
set_option maxRecDepth 20000 in
theorem w_442 : (Jvm.Cond.instanceMethod ({ cls := "TaskTurns", name := "at", desc := "(IZI)I" } : Jvm.MethodName)) ∈ xTB := xmem 442 (by decide +kernel) (by decide +kernel)
set_option maxRecDepth 20000 in
theorem w_443 : (Jvm.Cond.selects "TaskTurns" ({ cls := "TaskTurns", name := "at", desc := "(IZI)I" } : Jvm.MethodName) ({ cls := "TaskTurns", name := "at", desc := "(IZI)I" } : Jvm.MethodName)) ∈ xTB := xmem 443 (by decide +kernel) (by decide +kernel)
set_option maxRecDepth 20000 in
theorem w_444 : (Jvm.Cond.code ({ cls := "TaskTurns", name := "at", desc := "(IZI)I" } : Jvm.MethodName) prog_1_method_10_code (5 : Nat) (Option.some Jvm.ClassFile.FieldType.int)) ∈ xTB := xmem 444 (by decide +kernel) (by decide +kernel)
set_option maxRecDepth 20000 in
theorem w_445 : (Jvm.Cond.methodLink "TaskTurns" (86 : Nat) ({ cls := "TaskTurns$Box", name := "has", desc := "(I)Z" } : Jvm.MethodName)) ∈ xTB := xmem 445 (by decide +kernel) (by decide +kernel)
set_option maxRecDepth 20000 in
theorem w_446 : (Jvm.Cond.instanceMethod ({ cls := "TaskTurns$Box", name := "has", desc := "(I)Z" } : Jvm.MethodName)) ∈ xTB := xmem 446 (by decide +kernel) (by decide +kernel)
set_option maxRecDepth 20000 in
theorem w_447 : (Jvm.Cond.selects "TaskTurns$Box" ({ cls := "TaskTurns$Box", name := "has", desc := "(I)Z" } : Jvm.MethodName) ({ cls := "TaskTurns$Box", name := "has", desc := "(I)Z" } : Jvm.MethodName)) ∈ xTB := xmem 447 (by decide +kernel) (by decide +kernel)
set_option maxRecDepth 20000 in
theorem w_448 : (Jvm.Cond.code ({ cls := "TaskTurns$Box", name := "has", desc := "(I)Z" } : Jvm.MethodName) prog_3_method_3_code (2 : Nat) (Option.some Jvm.ClassFile.FieldType.boolean)) ∈ xTB := xmem 448 (by decide +kernel) (by decide +kernel)
set_option maxRecDepth 20000 in
theorem w_449 : (Jvm.Cond.methodLink "TaskTurns" (99 : Nat) ({ cls := "TaskTurns$Row", name := "has", desc := "(I)Z" } : Jvm.MethodName)) ∈ xTB := xmem 449 (by decide +kernel) (by decide +kernel)
set_option maxRecDepth 20000 in
theorem w_450 : (Jvm.Cond.methodLink "TaskTurnsLaw" (53 : Nat) ({ cls := "TaskTurns", name := "letterAt", desc := "(II)I" } : Jvm.MethodName)) ∈ xTB := xmem 450 (by decide +kernel) (by decide +kernel)
set_option maxRecDepth 20000 in
theorem w_451 : (Jvm.Cond.instanceMethod ({ cls := "TaskTurns", name := "letterAt", desc := "(II)I" } : Jvm.MethodName)) ∈ xTB := xmem 451 (by decide +kernel) (by decide +kernel)
set_option maxRecDepth 20000 in
theorem w_452 : (Jvm.Cond.selects "TaskTurns" ({ cls := "TaskTurns", name := "letterAt", desc := "(II)I" } : Jvm.MethodName) ({ cls := "TaskTurns", name := "letterAt", desc := "(II)I" } : Jvm.MethodName)) ∈ xTB := xmem 452 (by decide +kernel) (by decide +kernel)
set_option maxRecDepth 20000 in
theorem w_453 : (Jvm.Cond.code ({ cls := "TaskTurns", name := "letterAt", desc := "(II)I" } : Jvm.MethodName) prog_1_method_11_code (4 : Nat) (Option.some Jvm.ClassFile.FieldType.int)) ∈ xTB := xmem 453 (by decide +kernel) (by decide +kernel)
set_option maxRecDepth 20000 in
theorem w_454 : (Jvm.Cond.methodLink "TaskTurns" (105 : Nat) ({ cls := "TaskTurns$Letters", name := "has", desc := "(I)Z" } : Jvm.MethodName)) ∈ xTB := xmem 454 (by decide +kernel) (by decide +kernel)
set_option maxRecDepth 20000 in
theorem w_455 : (Jvm.Cond.instanceMethod ({ cls := "TaskTurns$Letters", name := "has", desc := "(I)Z" } : Jvm.MethodName)) ∈ xTB := xmem 455 (by decide +kernel) (by decide +kernel)
set_option maxRecDepth 20000 in
theorem w_456 : (Jvm.Cond.selects "TaskTurns$Letters" ({ cls := "TaskTurns$Letters", name := "has", desc := "(I)Z" } : Jvm.MethodName) ({ cls := "TaskTurns$Letters", name := "has", desc := "(I)Z" } : Jvm.MethodName)) ∈ xTB := xmem 456 (by decide +kernel) (by decide +kernel)
set_option maxRecDepth 20000 in
theorem w_457 : (Jvm.Cond.code ({ cls := "TaskTurns$Letters", name := "has", desc := "(I)Z" } : Jvm.MethodName) prog_4_method_3_code (2 : Nat) (Option.some Jvm.ClassFile.FieldType.boolean)) ∈ xTB := xmem 457 (by decide +kernel) (by decide +kernel)
set_option maxRecDepth 20000 in
theorem w_458 : (Jvm.Cond.methodLink "TaskTurnsLaw" (57 : Nat) ({ cls := "TaskTurns", name := "count", desc := "(I)I" } : Jvm.MethodName)) ∈ xTB := xmem 458 (by decide +kernel) (by decide +kernel)
set_option maxRecDepth 20000 in
theorem w_459 : (Jvm.Cond.instanceMethod ({ cls := "TaskTurns", name := "count", desc := "(I)I" } : Jvm.MethodName)) ∈ xTB := xmem 459 (by decide +kernel) (by decide +kernel)
set_option maxRecDepth 20000 in
theorem w_460 : (Jvm.Cond.selects "TaskTurns" ({ cls := "TaskTurns", name := "count", desc := "(I)I" } : Jvm.MethodName) ({ cls := "TaskTurns", name := "count", desc := "(I)I" } : Jvm.MethodName)) ∈ xTB := xmem 460 (by decide +kernel) (by decide +kernel)
set_option maxRecDepth 20000 in
theorem w_461 : (Jvm.Cond.code ({ cls := "TaskTurns", name := "count", desc := "(I)I" } : Jvm.MethodName) prog_1_method_12_code (2 : Nat) (Option.some Jvm.ClassFile.FieldType.int)) ∈ xTB := xmem 461 (by decide +kernel) (by decide +kernel)
set_option maxRecDepth 20000 in
theorem w_462 : (Jvm.Cond.methodLink "TaskTurns" (121 : Nat) ({ cls := "TaskTurns", name := "countGoingOn", desc := "()I" } : Jvm.MethodName)) ∈ xTB := xmem 462 (by decide +kernel) (by decide +kernel)
set_option maxRecDepth 20000 in
theorem w_464 : (Jvm.Cond.instanceMethod ({ cls := "TaskTurns", name := "countGoingOn", desc := "()I" } : Jvm.MethodName)) ∈ xTB := xmem 464 (by decide +kernel) (by decide +kernel)
set_option maxRecDepth 20000 in
theorem w_465 : (Jvm.Cond.code ({ cls := "TaskTurns", name := "countGoingOn", desc := "()I" } : Jvm.MethodName) prog_1_method_15_code (4 : Nat) (Option.some Jvm.ClassFile.FieldType.int)) ∈ xTB := xmem 465 (by decide +kernel) (by decide +kernel)
set_option maxRecDepth 20000 in
theorem w_466 : (Jvm.Cond.methodLink "TaskTurnsLaw" (61 : Nat) ({ cls := "TaskTurns", name := "done", desc := "(I)I" } : Jvm.MethodName)) ∈ xTB := xmem 466 (by decide +kernel) (by decide +kernel)
set_option maxRecDepth 20000 in
theorem w_467 : (Jvm.Cond.instanceMethod ({ cls := "TaskTurns", name := "done", desc := "(I)I" } : Jvm.MethodName)) ∈ xTB := xmem 467 (by decide +kernel) (by decide +kernel)
set_option maxRecDepth 20000 in
theorem w_468 : (Jvm.Cond.selects "TaskTurns" ({ cls := "TaskTurns", name := "done", desc := "(I)I" } : Jvm.MethodName) ({ cls := "TaskTurns", name := "done", desc := "(I)I" } : Jvm.MethodName)) ∈ xTB := xmem 468 (by decide +kernel) (by decide +kernel)
set_option maxRecDepth 20000 in
theorem w_469 : (Jvm.Cond.code ({ cls := "TaskTurns", name := "done", desc := "(I)I" } : Jvm.MethodName) prog_1_method_13_code (2 : Nat) (Option.some Jvm.ClassFile.FieldType.int)) ∈ xTB := xmem 469 (by decide +kernel) (by decide +kernel)
set_option maxRecDepth 20000 in
theorem w_470 : (Jvm.Cond.classLink "TaskTurnsLaw" (10 : Nat) "TaskTurnsModel") ∈ xTB := xmem 470 (by decide +kernel) (by decide +kernel)
set_option maxRecDepth 20000 in
theorem w_471 : (Jvm.Cond.instantiable "TaskTurnsModel" (38 : Nat)) ∈ xTB := xmem 471 (by decide +kernel) (by decide +kernel)
set_option maxRecDepth 20000 in
theorem w_472 : (Jvm.Cond.methodLink "TaskTurnsLaw" (12 : Nat) ({ cls := "TaskTurnsModel", name := "<init>", desc := "()V" } : Jvm.MethodName)) ∈ xTB := xmem 472 (by decide +kernel) (by decide +kernel)
set_option maxRecDepth 20000 in
theorem w_473 : (Jvm.Cond.instanceMethod ({ cls := "TaskTurnsModel", name := "<init>", desc := "()V" } : Jvm.MethodName)) ∈ xTB := xmem 473 (by decide +kernel) (by decide +kernel)
set_option maxRecDepth 20000 in
theorem w_474 : (Jvm.Cond.code ({ cls := "TaskTurnsModel", name := "<init>", desc := "()V" } : Jvm.MethodName) prog_9_method_1_code (1 : Nat) (Option.none : Option Jvm.ClassFile.FieldType)) ∈ xTB := xmem 474 (by decide +kernel) (by decide +kernel)
set_option maxRecDepth 20000 in
theorem w_475 : (Jvm.Cond.methodLink "TaskTurnsModel" (1 : Nat) ({ cls := "java/lang/Object", name := "<init>", desc := "()V" } : Jvm.MethodName)) ∈ xTB := xmem 475 (by decide +kernel) (by decide +kernel)
set_option maxRecDepth 20000 in
theorem w_476 : (Jvm.Cond.fieldLink "TaskTurnsModel" (103 : Nat) "TaskTurnsModel" "tasks" "I") ∈ xTB := xmem 476 (by decide +kernel) (by decide +kernel)
set_option maxRecDepth 20000 in
theorem w_477 : (Jvm.Cond.fieldLink "TaskTurnsModel" (7 : Nat) "TaskTurnsModel" "sort" "[I") ∈ xTB := xmem 477 (by decide +kernel) (by decide +kernel)
set_option maxRecDepth 20000 in
theorem w_478 : (Jvm.Cond.fieldLink "TaskTurnsModel" (13 : Nat) "TaskTurnsModel" "rank" "[I") ∈ xTB := xmem 478 (by decide +kernel) (by decide +kernel)
set_option maxRecDepth 20000 in
theorem w_479 : (Jvm.Cond.fieldLink "TaskTurnsModel" (16 : Nat) "TaskTurnsModel" "age" "[I") ∈ xTB := xmem 479 (by decide +kernel) (by decide +kernel)
set_option maxRecDepth 20000 in
theorem w_480 : (Jvm.Cond.fieldLink "TaskTurnsModel" (19 : Nat) "TaskTurnsModel" "state" "[I") ∈ xTB := xmem 480 (by decide +kernel) (by decide +kernel)
set_option maxRecDepth 20000 in
theorem w_481 : (Jvm.Cond.fieldLink "TaskTurnsModel" (22 : Nat) "TaskTurnsModel" "actMany" "[I") ∈ xTB := xmem 481 (by decide +kernel) (by decide +kernel)
set_option maxRecDepth 20000 in
theorem w_482 : (Jvm.Cond.fieldLink "TaskTurnsModel" (25 : Nat) "TaskTurnsModel" "kind" "[I") ∈ xTB := xmem 482 (by decide +kernel) (by decide +kernel)
set_option maxRecDepth 20000 in
theorem w_483 : (Jvm.Cond.fieldLink "TaskTurnsModel" (28 : Nat) "TaskTurnsModel" "first" "[I") ∈ xTB := xmem 483 (by decide +kernel) (by decide +kernel)
set_option maxRecDepth 20000 in
theorem w_484 : (Jvm.Cond.fieldLink "TaskTurnsModel" (31 : Nat) "TaskTurnsModel" "second" "[I") ∈ xTB := xmem 484 (by decide +kernel) (by decide +kernel)
set_option maxRecDepth 20000 in
theorem w_485 : (Jvm.Cond.fieldLink "TaskTurnsModel" (34 : Nat) "TaskTurnsModel" "next" "[I") ∈ xTB := xmem 485 (by decide +kernel) (by decide +kernel)
set_option maxRecDepth 20000 in
theorem w_486 : (Jvm.Cond.fieldLink "TaskTurnsModel" (37 : Nat) "TaskTurnsModel" "sum" "[I") ∈ xTB := xmem 486 (by decide +kernel) (by decide +kernel)
set_option maxRecDepth 20000 in
theorem w_487 : (Jvm.Cond.fieldLink "TaskTurnsModel" (40 : Nat) "TaskTurnsModel" "rowSize" "[I") ∈ xTB := xmem 487 (by decide +kernel) (by decide +kernel)
set_option maxRecDepth 20000 in
theorem w_488 : (Jvm.Cond.fieldLink "TaskTurnsModel" (43 : Nat) "TaskTurnsModel" "row" "[I") ∈ xTB := xmem 488 (by decide +kernel) (by decide +kernel)
set_option maxRecDepth 20000 in
theorem w_489 : (Jvm.Cond.fieldLink "TaskTurnsModel" (46 : Nat) "TaskTurnsModel" "markSum" "[I") ∈ xTB := xmem 489 (by decide +kernel) (by decide +kernel)
set_option maxRecDepth 20000 in
theorem w_490 : (Jvm.Cond.fieldLink "TaskTurnsModel" (49 : Nat) "TaskTurnsModel" "markNext" "[I") ∈ xTB := xmem 490 (by decide +kernel) (by decide +kernel)
set_option maxRecDepth 20000 in
theorem w_491 : (Jvm.Cond.fieldLink "TaskTurnsModel" (52 : Nat) "TaskTurnsModel" "markSize" "[I") ∈ xTB := xmem 491 (by decide +kernel) (by decide +kernel)
set_option maxRecDepth 20000 in
theorem w_492 : (Jvm.Cond.fieldLink "TaskTurnsModel" (55 : Nat) "TaskTurnsModel" "markRow" "[I") ∈ xTB := xmem 492 (by decide +kernel) (by decide +kernel)
set_option maxRecDepth 20000 in
theorem w_493 : (Jvm.Cond.fieldLink "TaskTurnsModel" (58 : Nat) "TaskTurnsModel" "boxSort" "[I") ∈ xTB := xmem 493 (by decide +kernel) (by decide +kernel)
set_option maxRecDepth 20000 in
theorem w_494 : (Jvm.Cond.fieldLink "TaskTurnsModel" (61 : Nat) "TaskTurnsModel" "box" "[I") ∈ xTB := xmem 494 (by decide +kernel) (by decide +kernel)
set_option maxRecDepth 20000 in
theorem w_495 : (Jvm.Cond.fieldLink "TaskTurnsModel" (64 : Nat) "TaskTurnsModel" "letterMany" "[I") ∈ xTB := xmem 495 (by decide +kernel) (by decide +kernel)
set_option maxRecDepth 20000 in
theorem w_496 : (Jvm.Cond.fieldLink "TaskTurnsModel" (67 : Nat) "TaskTurnsModel" "letters" "[I") ∈ xTB := xmem 496 (by decide +kernel) (by decide +kernel)
set_option maxRecDepth 20000 in
theorem w_497 : (Jvm.Cond.fieldLink "TaskTurnsModel" (70 : Nat) "TaskTurnsModel" "wakes" "[J") ∈ xTB := xmem 497 (by decide +kernel) (by decide +kernel)
set_option maxRecDepth 20000 in
theorem w_498 : (Jvm.Cond.fieldLink "TaskTurnsModel" (74 : Nat) "TaskTurnsModel" "failures" "[I") ∈ xTB := xmem 498 (by decide +kernel) (by decide +kernel)
set_option maxRecDepth 20000 in
theorem w_499 : (Jvm.Cond.fieldLink "TaskTurnsModel" (77 : Nat) "TaskTurnsModel" "latest" "[I") ∈ xTB := xmem 499 (by decide +kernel) (by decide +kernel)
set_option maxRecDepth 20000 in
theorem w_500 : (Jvm.Cond.fieldLink "TaskTurnsModel" (80 : Nat) "TaskTurnsModel" "latestAct" "[I") ∈ xTB := xmem 500 (by decide +kernel) (by decide +kernel)
set_option maxRecDepth 20000 in
theorem w_501 : (Jvm.Cond.fieldLink "TaskTurnsModel" (83 : Nat) "TaskTurnsModel" "backs" "[I") ∈ xTB := xmem 501 (by decide +kernel) (by decide +kernel)
set_option maxRecDepth 20000 in
theorem w_502 : (Jvm.Cond.fieldLink "TaskTurnsModel" (86 : Nat) "TaskTurnsModel" "hasActed" "[Z") ∈ xTB := xmem 502 (by decide +kernel) (by decide +kernel)
set_option maxRecDepth 20000 in
theorem w_503 : (Jvm.Cond.fieldLink "TaskTurnsModel" (90 : Nat) "TaskTurnsModel" "hadTurn" "[Z") ∈ xTB := xmem 503 (by decide +kernel) (by decide +kernel)
set_option maxRecDepth 20000 in
theorem w_504 : (Jvm.Cond.fieldLink "TaskTurnsModel" (93 : Nat) "TaskTurnsModel" "doneRow" "[I") ∈ xTB := xmem 504 (by decide +kernel) (by decide +kernel)
set_option maxRecDepth 20000 in
theorem w_505 : (Jvm.Cond.fieldLink "TaskTurnsModel" (172 : Nat) "TaskTurnsModel" "dones" "I") ∈ xTB := xmem 505 (by decide +kernel) (by decide +kernel)
set_option maxRecDepth 20000 in
theorem w_506 : (Jvm.Cond.fieldLink "TaskTurnsModel" (96 : Nat) "TaskTurnsModel" "workers" "I") ∈ xTB := xmem 506 (by decide +kernel) (by decide +kernel)
set_option maxRecDepth 20000 in
theorem w_507 : (Jvm.Cond.fieldLink "TaskTurnsModel" (100 : Nat) "TaskTurnsModel" "turns" "I") ∈ xTB := xmem 507 (by decide +kernel) (by decide +kernel)
set_option maxRecDepth 20000 in
theorem w_508 : (Jvm.Cond.fieldLink "TaskTurnsModel" (150 : Nat) "TaskTurnsModel" "acts" "I") ∈ xTB := xmem 508 (by decide +kernel) (by decide +kernel)
set_option maxRecDepth 20000 in
theorem w_509 : (Jvm.Cond.fieldLink "TaskTurnsModel" (121 : Nat) "TaskTurnsModel" "lost" "I") ∈ xTB := xmem 509 (by decide +kernel) (by decide +kernel)
set_option maxRecDepth 20000 in
theorem w_510 : (Jvm.Cond.fieldLink "TaskTurnsModel" (156 : Nat) "TaskTurnsModel" "left" "I") ∈ xTB := xmem 510 (by decide +kernel) (by decide +kernel)
set_option maxRecDepth 20000 in
theorem w_511 : (Jvm.Cond.fieldLink "TaskTurnsModel" (159 : Nat) "TaskTurnsModel" "allFailures" "I") ∈ xTB := xmem 511 (by decide +kernel) (by decide +kernel)
set_option maxRecDepth 20000 in
theorem w_512 : (Jvm.Cond.fieldLink "TaskTurnsModel" (135 : Nat) "TaskTurnsModel" "waitTold" "I") ∈ xTB := xmem 512 (by decide +kernel) (by decide +kernel)
set_option maxRecDepth 20000 in
theorem w_513 : (Jvm.Cond.fieldLink "TaskTurnsModel" (114 : Nat) "TaskTurnsModel" "isGuarded" "Z") ∈ xTB := xmem 513 (by decide +kernel) (by decide +kernel)
set_option maxRecDepth 20000 in
theorem w_591 : (Jvm.Cond.arrayClass Jvm.ClassFile.FieldType.long) ∈ xTB := xmem 591 (by decide +kernel) (by decide +kernel)
set_option maxRecDepth 20000 in
theorem w_592 : (Jvm.Cond.arrayClass Jvm.ClassFile.FieldType.boolean) ∈ xTB := xmem 592 (by decide +kernel) (by decide +kernel)
set_option maxRecDepth 20000 in
theorem w_593 : (Jvm.Cond.methodLink "TaskTurnsLaw" (17 : Nat) ({ cls := "TaskTurnsModel", name := "task", desc := "(II)I" } : Jvm.MethodName)) ∈ xTB := xmem 593 (by decide +kernel) (by decide +kernel)
set_option maxRecDepth 20000 in
theorem w_594 : (Jvm.Cond.instanceMethod ({ cls := "TaskTurnsModel", name := "task", desc := "(II)I" } : Jvm.MethodName)) ∈ xTB := xmem 594 (by decide +kernel) (by decide +kernel)
set_option maxRecDepth 20000 in
theorem w_595 : (Jvm.Cond.selects "TaskTurnsModel" ({ cls := "TaskTurnsModel", name := "task", desc := "(II)I" } : Jvm.MethodName) ({ cls := "TaskTurnsModel", name := "task", desc := "(II)I" } : Jvm.MethodName)) ∈ xTB := xmem 595 (by decide +kernel) (by decide +kernel)
set_option maxRecDepth 20000 in
theorem w_596 : (Jvm.Cond.code ({ cls := "TaskTurnsModel", name := "task", desc := "(II)I" } : Jvm.MethodName) prog_9_method_5_code (4 : Nat) (Option.some Jvm.ClassFile.FieldType.int)) ∈ xTB := xmem 596 (by decide +kernel) (by decide +kernel)
set_option maxRecDepth 20000 in
theorem w_597 : (Jvm.Cond.methodLink "TaskTurnsModel" (106 : Nat) ({ cls := "TaskTurnsModel", name := "in", desc := "(III)Z" } : Jvm.MethodName)) ∈ xTB := xmem 597 (by decide +kernel) (by decide +kernel)
set_option maxRecDepth 20000 in
theorem w_598 : (Jvm.Cond.static ({ cls := "TaskTurnsModel", name := "in", desc := "(III)Z" } : Jvm.MethodName)) ∈ xTB := xmem 598 (by decide +kernel) (by decide +kernel)
set_option maxRecDepth 20000 in
theorem w_599 : (Jvm.Cond.code ({ cls := "TaskTurnsModel", name := "in", desc := "(III)Z" } : Jvm.MethodName) prog_9_method_2_code (3 : Nat) (Option.some Jvm.ClassFile.FieldType.boolean)) ∈ xTB := xmem 599 (by decide +kernel) (by decide +kernel)
set_option maxRecDepth 20000 in
theorem w_600 : (Jvm.Cond.methodLink "TaskTurnsLaw" (22 : Nat) ({ cls := "TaskTurnsModel", name := "act", desc := "(IIII)I" } : Jvm.MethodName)) ∈ xTB := xmem 600 (by decide +kernel) (by decide +kernel)
set_option maxRecDepth 20000 in
theorem w_601 : (Jvm.Cond.instanceMethod ({ cls := "TaskTurnsModel", name := "act", desc := "(IIII)I" } : Jvm.MethodName)) ∈ xTB := xmem 601 (by decide +kernel) (by decide +kernel)
set_option maxRecDepth 20000 in
theorem w_602 : (Jvm.Cond.selects "TaskTurnsModel" ({ cls := "TaskTurnsModel", name := "act", desc := "(IIII)I" } : Jvm.MethodName) ({ cls := "TaskTurnsModel", name := "act", desc := "(IIII)I" } : Jvm.MethodName)) ∈ xTB := xmem 602 (by decide +kernel) (by decide +kernel)
set_option maxRecDepth 20000 in
theorem w_603 : (Jvm.Cond.code ({ cls := "TaskTurnsModel", name := "act", desc := "(IIII)I" } : Jvm.MethodName) prog_9_method_6_code (6 : Nat) (Option.some Jvm.ClassFile.FieldType.int)) ∈ xTB := xmem 603 (by decide +kernel) (by decide +kernel)
set_option maxRecDepth 20000 in
theorem w_604 : (Jvm.Cond.methodLink "TaskTurnsModel" (110 : Nat) ({ cls := "TaskTurnsModel", name := "isTask", desc := "(I)Z" } : Jvm.MethodName)) ∈ xTB := xmem 604 (by decide +kernel) (by decide +kernel)
set_option maxRecDepth 20000 in
theorem w_606 : (Jvm.Cond.instanceMethod ({ cls := "TaskTurnsModel", name := "isTask", desc := "(I)Z" } : Jvm.MethodName)) ∈ xTB := xmem 606 (by decide +kernel) (by decide +kernel)
set_option maxRecDepth 20000 in
theorem w_607 : (Jvm.Cond.code ({ cls := "TaskTurnsModel", name := "isTask", desc := "(I)Z" } : Jvm.MethodName) prog_9_method_3_code (2 : Nat) (Option.some Jvm.ClassFile.FieldType.boolean)) ∈ xTB := xmem 607 (by decide +kernel) (by decide +kernel)
set_option maxRecDepth 20000 in
theorem w_608 : (Jvm.Cond.methodLink "TaskTurnsLaw" (27 : Nat) ({ cls := "TaskTurnsModel", name := "workers", desc := "(I)I" } : Jvm.MethodName)) ∈ xTB := xmem 608 (by decide +kernel) (by decide +kernel)
set_option maxRecDepth 20000 in
theorem w_609 : (Jvm.Cond.instanceMethod ({ cls := "TaskTurnsModel", name := "workers", desc := "(I)I" } : Jvm.MethodName)) ∈ xTB := xmem 609 (by decide +kernel) (by decide +kernel)
set_option maxRecDepth 20000 in
theorem w_610 : (Jvm.Cond.selects "TaskTurnsModel" ({ cls := "TaskTurnsModel", name := "workers", desc := "(I)I" } : Jvm.MethodName) ({ cls := "TaskTurnsModel", name := "workers", desc := "(I)I" } : Jvm.MethodName)) ∈ xTB := xmem 610 (by decide +kernel) (by decide +kernel)
set_option maxRecDepth 20000 in
theorem w_611 : (Jvm.Cond.code ({ cls := "TaskTurnsModel", name := "workers", desc := "(I)I" } : Jvm.MethodName) prog_9_method_7_code (3 : Nat) (Option.some Jvm.ClassFile.FieldType.int)) ∈ xTB := xmem 611 (by decide +kernel) (by decide +kernel)
set_option maxRecDepth 20000 in
theorem w_612 : (Jvm.Cond.methodLink "TaskTurnsLaw" (31 : Nat) ({ cls := "TaskTurnsModel", name := "turn", desc := "(I)I" } : Jvm.MethodName)) ∈ xTB := xmem 612 (by decide +kernel) (by decide +kernel)
set_option maxRecDepth 20000 in
theorem w_613 : (Jvm.Cond.instanceMethod ({ cls := "TaskTurnsModel", name := "turn", desc := "(I)I" } : Jvm.MethodName)) ∈ xTB := xmem 613 (by decide +kernel) (by decide +kernel)
set_option maxRecDepth 20000 in
theorem w_614 : (Jvm.Cond.selects "TaskTurnsModel" ({ cls := "TaskTurnsModel", name := "turn", desc := "(I)I" } : Jvm.MethodName) ({ cls := "TaskTurnsModel", name := "turn", desc := "(I)I" } : Jvm.MethodName)) ∈ xTB := xmem 614 (by decide +kernel) (by decide +kernel)
set_option maxRecDepth 20000 in
theorem w_615 : (Jvm.Cond.code ({ cls := "TaskTurnsModel", name := "turn", desc := "(I)I" } : Jvm.MethodName) prog_9_method_22_code (6 : Nat) (Option.some Jvm.ClassFile.FieldType.int)) ∈ xTB := xmem 615 (by decide +kernel) (by decide +kernel)
set_option maxRecDepth 20000 in
theorem w_616 : (Jvm.Cond.methodLink "TaskTurnsModel" (184 : Nat) ({ cls := "TaskTurnsModel", name := "oneTurn", desc := "()V" } : Jvm.MethodName)) ∈ xTB := xmem 616 (by decide +kernel) (by decide +kernel)
set_option maxRecDepth 20000 in
theorem w_618 : (Jvm.Cond.instanceMethod ({ cls := "TaskTurnsModel", name := "oneTurn", desc := "()V" } : Jvm.MethodName)) ∈ xTB := xmem 618 (by decide +kernel) (by decide +kernel)
set_option maxRecDepth 20000 in
theorem w_619 : (Jvm.Cond.code ({ cls := "TaskTurnsModel", name := "oneTurn", desc := "()V" } : Jvm.MethodName) prog_9_method_21_code (3 : Nat) (Option.none : Option Jvm.ClassFile.FieldType)) ∈ xTB := xmem 619 (by decide +kernel) (by decide +kernel)
set_option maxRecDepth 20000 in
theorem w_620 : (Jvm.Cond.methodLink "TaskTurnsModel" (175 : Nat) ({ cls := "TaskTurnsModel", name := "pick", desc := "()I" } : Jvm.MethodName)) ∈ xTB := xmem 620 (by decide +kernel) (by decide +kernel)
set_option maxRecDepth 20000 in
theorem w_622 : (Jvm.Cond.instanceMethod ({ cls := "TaskTurnsModel", name := "pick", desc := "()I" } : Jvm.MethodName)) ∈ xTB := xmem 622 (by decide +kernel) (by decide +kernel)
set_option maxRecDepth 20000 in
theorem w_623 : (Jvm.Cond.code ({ cls := "TaskTurnsModel", name := "pick", desc := "()I" } : Jvm.MethodName) prog_9_method_20_code (4 : Nat) (Option.some Jvm.ClassFile.FieldType.int)) ∈ xTB := xmem 623 (by decide +kernel) (by decide +kernel)
set_option maxRecDepth 20000 in
theorem w_624 : (Jvm.Cond.methodLink "TaskTurnsModel" (179 : Nat) ({ cls := "TaskTurnsModel", name := "acts", desc := "(I)V" } : Jvm.MethodName)) ∈ xTB := xmem 624 (by decide +kernel) (by decide +kernel)
set_option maxRecDepth 20000 in
theorem w_626 : (Jvm.Cond.instanceMethod ({ cls := "TaskTurnsModel", name := "acts", desc := "(I)V" } : Jvm.MethodName)) ∈ xTB := xmem 626 (by decide +kernel) (by decide +kernel)
set_option maxRecDepth 20000 in
theorem w_627 : (Jvm.Cond.code ({ cls := "TaskTurnsModel", name := "acts", desc := "(I)V" } : Jvm.MethodName) prog_9_method_18_code (4 : Nat) (Option.none : Option Jvm.ClassFile.FieldType)) ∈ xTB := xmem 627 (by decide +kernel) (by decide +kernel)
set_option maxRecDepth 20000 in
theorem w_628 : (Jvm.Cond.methodLink "TaskTurnsModel" (165 : Nat) ({ cls := "TaskTurnsModel", name := "guard", desc := "(II)I" } : Jvm.MethodName)) ∈ xTB := xmem 628 (by decide +kernel) (by decide +kernel)
set_option maxRecDepth 20000 in
theorem w_630 : (Jvm.Cond.instanceMethod ({ cls := "TaskTurnsModel", name := "guard", desc := "(II)I" } : Jvm.MethodName)) ∈ xTB := xmem 630 (by decide +kernel) (by decide +kernel)
set_option maxRecDepth 20000 in
theorem w_631 : (Jvm.Cond.code ({ cls := "TaskTurnsModel", name := "guard", desc := "(II)I" } : Jvm.MethodName) prog_9_method_16_code (6 : Nat) (Option.some Jvm.ClassFile.FieldType.int)) ∈ xTB := xmem 631 (by decide +kernel) (by decide +kernel)
set_option maxRecDepth 20000 in
theorem w_632 : (Jvm.Cond.methodLink "TaskTurnsModel" (153 : Nat) ({ cls := "TaskTurnsModel", name := "simple", desc := "(II)I" } : Jvm.MethodName)) ∈ xTB := xmem 632 (by decide +kernel) (by decide +kernel)
set_option maxRecDepth 20000 in
theorem w_634 : (Jvm.Cond.instanceMethod ({ cls := "TaskTurnsModel", name := "simple", desc := "(II)I" } : Jvm.MethodName)) ∈ xTB := xmem 634 (by decide +kernel) (by decide +kernel)
set_option maxRecDepth 20000 in
theorem w_635 : (Jvm.Cond.code ({ cls := "TaskTurnsModel", name := "simple", desc := "(II)I" } : Jvm.MethodName) prog_9_method_15_code (6 : Nat) (Option.some Jvm.ClassFile.FieldType.int)) ∈ xTB := xmem 635 (by decide +kernel) (by decide +kernel)
set_option maxRecDepth 20000 in
theorem w_636 : (Jvm.Cond.methodLink "TaskTurnsModel" (124 : Nat) ({ cls := "TaskTurnsModel", name := "rowAct", desc := "(III)I" } : Jvm.MethodName)) ∈ xTB := xmem 636 (by decide +kernel) (by decide +kernel)
set_option maxRecDepth 20000 in
theorem w_638 : (Jvm.Cond.instanceMethod ({ cls := "TaskTurnsModel", name := "rowAct", desc := "(III)I" } : Jvm.MethodName)) ∈ xTB := xmem 638 (by decide +kernel) (by decide +kernel)
set_option maxRecDepth 20000 in
theorem w_639 : (Jvm.Cond.code ({ cls := "TaskTurnsModel", name := "rowAct", desc := "(III)I" } : Jvm.MethodName) prog_9_method_8_code (5 : Nat) (Option.some Jvm.ClassFile.FieldType.int)) ∈ xTB := xmem 639 (by decide +kernel) (by decide +kernel)
set_option maxRecDepth 20000 in
theorem w_640 : (Jvm.Cond.methodLink "TaskTurnsModel" (128 : Nat) ({ cls := "TaskTurnsModel", name := "takeAct", desc := "(I)I" } : Jvm.MethodName)) ∈ xTB := xmem 640 (by decide +kernel) (by decide +kernel)
set_option maxRecDepth 20000 in
theorem w_642 : (Jvm.Cond.instanceMethod ({ cls := "TaskTurnsModel", name := "takeAct", desc := "(I)I" } : Jvm.MethodName)) ∈ xTB := xmem 642 (by decide +kernel) (by decide +kernel)
set_option maxRecDepth 20000 in
theorem w_643 : (Jvm.Cond.code ({ cls := "TaskTurnsModel", name := "takeAct", desc := "(I)I" } : Jvm.MethodName) prog_9_method_9_code (3 : Nat) (Option.some Jvm.ClassFile.FieldType.int)) ∈ xTB := xmem 643 (by decide +kernel) (by decide +kernel)
set_option maxRecDepth 20000 in
theorem w_644 : (Jvm.Cond.methodLink "TaskTurnsModel" (132 : Nat) ({ cls := "TaskTurnsModel", name := "sendAct", desc := "(III)I" } : Jvm.MethodName)) ∈ xTB := xmem 644 (by decide +kernel) (by decide +kernel)
set_option maxRecDepth 20000 in
theorem w_646 : (Jvm.Cond.instanceMethod ({ cls := "TaskTurnsModel", name := "sendAct", desc := "(III)I" } : Jvm.MethodName)) ∈ xTB := xmem 646 (by decide +kernel) (by decide +kernel)
set_option maxRecDepth 20000 in
theorem w_647 : (Jvm.Cond.code ({ cls := "TaskTurnsModel", name := "sendAct", desc := "(III)I" } : Jvm.MethodName) prog_9_method_10_code (4 : Nat) (Option.some Jvm.ClassFile.FieldType.int)) ∈ xTB := xmem 647 (by decide +kernel) (by decide +kernel)
set_option maxRecDepth 20000 in
theorem w_648 : (Jvm.Cond.methodLink "TaskTurnsModel" (118 : Nat) ({ cls := "TaskTurnsModel", name := "isOver", desc := "(I)Z" } : Jvm.MethodName)) ∈ xTB := xmem 648 (by decide +kernel) (by decide +kernel)
set_option maxRecDepth 20000 in
theorem w_649 : (Jvm.Cond.static ({ cls := "TaskTurnsModel", name := "isOver", desc := "(I)Z" } : Jvm.MethodName)) ∈ xTB := xmem 649 (by decide +kernel) (by decide +kernel)
set_option maxRecDepth 20000 in
theorem w_650 : (Jvm.Cond.code ({ cls := "TaskTurnsModel", name := "isOver", desc := "(I)Z" } : Jvm.MethodName) prog_9_method_4_code (1 : Nat) (Option.some Jvm.ClassFile.FieldType.boolean)) ∈ xTB := xmem 650 (by decide +kernel) (by decide +kernel)
set_option maxRecDepth 20000 in
theorem w_651 : (Jvm.Cond.methodLink "TaskTurnsModel" (138 : Nat) ({ cls := "TaskTurnsModel", name := "mark", desc := "(I)V" } : Jvm.MethodName)) ∈ xTB := xmem 651 (by decide +kernel) (by decide +kernel)
set_option maxRecDepth 20000 in
theorem w_653 : (Jvm.Cond.instanceMethod ({ cls := "TaskTurnsModel", name := "mark", desc := "(I)V" } : Jvm.MethodName)) ∈ xTB := xmem 653 (by decide +kernel) (by decide +kernel)
set_option maxRecDepth 20000 in
theorem w_654 : (Jvm.Cond.code ({ cls := "TaskTurnsModel", name := "mark", desc := "(I)V" } : Jvm.MethodName) prog_9_method_11_code (3 : Nat) (Option.none : Option Jvm.ClassFile.FieldType)) ∈ xTB := xmem 654 (by decide +kernel) (by decide +kernel)
set_option maxRecDepth 20000 in
theorem w_655 : (Jvm.Cond.methodLink "TaskTurnsModel" (142 : Nat) ({ cls := "TaskTurnsModel", name := "copyAct", desc := "(II)I" } : Jvm.MethodName)) ∈ xTB := xmem 655 (by decide +kernel) (by decide +kernel)
set_option maxRecDepth 20000 in
theorem w_657 : (Jvm.Cond.instanceMethod ({ cls := "TaskTurnsModel", name := "copyAct", desc := "(II)I" } : Jvm.MethodName)) ∈ xTB := xmem 657 (by decide +kernel) (by decide +kernel)
set_option maxRecDepth 20000 in
theorem w_658 : (Jvm.Cond.code ({ cls := "TaskTurnsModel", name := "copyAct", desc := "(II)I" } : Jvm.MethodName) prog_9_method_14_code (4 : Nat) (Option.some Jvm.ClassFile.FieldType.int)) ∈ xTB := xmem 658 (by decide +kernel) (by decide +kernel)
set_option maxRecDepth 20000 in
theorem w_659 : (Jvm.Cond.methodLink "TaskTurnsModel" (146 : Nat) ({ cls := "TaskTurnsModel", name := "boxAct", desc := "(IIII)I" } : Jvm.MethodName)) ∈ xTB := xmem 659 (by decide +kernel) (by decide +kernel)
set_option maxRecDepth 20000 in
theorem w_661 : (Jvm.Cond.instanceMethod ({ cls := "TaskTurnsModel", name := "boxAct", desc := "(IIII)I" } : Jvm.MethodName)) ∈ xTB := xmem 661 (by decide +kernel) (by decide +kernel)
set_option maxRecDepth 20000 in
theorem w_662 : (Jvm.Cond.code ({ cls := "TaskTurnsModel", name := "boxAct", desc := "(IIII)I" } : Jvm.MethodName) prog_9_method_13_code (7 : Nat) (Option.some Jvm.ClassFile.FieldType.int)) ∈ xTB := xmem 662 (by decide +kernel) (by decide +kernel)
set_option maxRecDepth 20000 in
theorem w_663 : (Jvm.Cond.methodLink "TaskTurnsModel" (168 : Nat) ({ cls := "TaskTurnsModel", name := "fails", desc := "(II)V" } : Jvm.MethodName)) ∈ xTB := xmem 663 (by decide +kernel) (by decide +kernel)
set_option maxRecDepth 20000 in
theorem w_665 : (Jvm.Cond.instanceMethod ({ cls := "TaskTurnsModel", name := "fails", desc := "(II)V" } : Jvm.MethodName)) ∈ xTB := xmem 665 (by decide +kernel) (by decide +kernel)
set_option maxRecDepth 20000 in
theorem w_666 : (Jvm.Cond.code ({ cls := "TaskTurnsModel", name := "fails", desc := "(II)V" } : Jvm.MethodName) prog_9_method_17_code (4 : Nat) (Option.none : Option Jvm.ClassFile.FieldType)) ∈ xTB := xmem 666 (by decide +kernel) (by decide +kernel)
set_option maxRecDepth 20000 in
theorem w_667 : (Jvm.Cond.methodLink "TaskTurnsModel" (162 : Nat) ({ cls := "TaskTurnsModel", name := "back", desc := "(I)V" } : Jvm.MethodName)) ∈ xTB := xmem 667 (by decide +kernel) (by decide +kernel)
set_option maxRecDepth 20000 in
theorem w_669 : (Jvm.Cond.instanceMethod ({ cls := "TaskTurnsModel", name := "back", desc := "(I)V" } : Jvm.MethodName)) ∈ xTB := xmem 669 (by decide +kernel) (by decide +kernel)
set_option maxRecDepth 20000 in
theorem w_670 : (Jvm.Cond.code ({ cls := "TaskTurnsModel", name := "back", desc := "(I)V" } : Jvm.MethodName) prog_9_method_12_code (3 : Nat) (Option.none : Option Jvm.ClassFile.FieldType)) ∈ xTB := xmem 670 (by decide +kernel) (by decide +kernel)
set_option maxRecDepth 20000 in
theorem w_671 : (Jvm.Cond.methodLink "TaskTurnsModel" (181 : Nat) ({ cls := "TaskTurnsModel", name := "maybeDone", desc := "(I)V" } : Jvm.MethodName)) ∈ xTB := xmem 671 (by decide +kernel) (by decide +kernel)
set_option maxRecDepth 20000 in
theorem w_673 : (Jvm.Cond.instanceMethod ({ cls := "TaskTurnsModel", name := "maybeDone", desc := "(I)V" } : Jvm.MethodName)) ∈ xTB := xmem 673 (by decide +kernel) (by decide +kernel)
set_option maxRecDepth 20000 in
theorem w_674 : (Jvm.Cond.code ({ cls := "TaskTurnsModel", name := "maybeDone", desc := "(I)V" } : Jvm.MethodName) prog_9_method_19_code (2 : Nat) (Option.none : Option Jvm.ClassFile.FieldType)) ∈ xTB := xmem 674 (by decide +kernel) (by decide +kernel)
set_option maxRecDepth 20000 in
theorem w_675 : (Jvm.Cond.methodLink "TaskTurnsLaw" (35 : Nat) ({ cls := "TaskTurnsModel", name := "letter", desc := "(II)I" } : Jvm.MethodName)) ∈ xTB := xmem 675 (by decide +kernel) (by decide +kernel)
set_option maxRecDepth 20000 in
theorem w_676 : (Jvm.Cond.instanceMethod ({ cls := "TaskTurnsModel", name := "letter", desc := "(II)I" } : Jvm.MethodName)) ∈ xTB := xmem 676 (by decide +kernel) (by decide +kernel)
set_option maxRecDepth 20000 in
theorem w_677 : (Jvm.Cond.selects "TaskTurnsModel" ({ cls := "TaskTurnsModel", name := "letter", desc := "(II)I" } : Jvm.MethodName) ({ cls := "TaskTurnsModel", name := "letter", desc := "(II)I" } : Jvm.MethodName)) ∈ xTB := xmem 677 (by decide +kernel) (by decide +kernel)
set_option maxRecDepth 20000 in
theorem w_678 : (Jvm.Cond.code ({ cls := "TaskTurnsModel", name := "letter", desc := "(II)I" } : Jvm.MethodName) prog_9_method_23_code (3 : Nat) (Option.some Jvm.ClassFile.FieldType.int)) ∈ xTB := xmem 678 (by decide +kernel) (by decide +kernel)
set_option maxRecDepth 20000 in
theorem w_679 : (Jvm.Cond.methodLink "TaskTurnsLaw" (39 : Nat) ({ cls := "TaskTurnsModel", name := "stop", desc := "(I)I" } : Jvm.MethodName)) ∈ xTB := xmem 679 (by decide +kernel) (by decide +kernel)
set_option maxRecDepth 20000 in
theorem w_680 : (Jvm.Cond.instanceMethod ({ cls := "TaskTurnsModel", name := "stop", desc := "(I)I" } : Jvm.MethodName)) ∈ xTB := xmem 680 (by decide +kernel) (by decide +kernel)
set_option maxRecDepth 20000 in
theorem w_681 : (Jvm.Cond.selects "TaskTurnsModel" ({ cls := "TaskTurnsModel", name := "stop", desc := "(I)I" } : Jvm.MethodName) ({ cls := "TaskTurnsModel", name := "stop", desc := "(I)I" } : Jvm.MethodName)) ∈ xTB := xmem 681 (by decide +kernel) (by decide +kernel)
set_option maxRecDepth 20000 in
theorem w_682 : (Jvm.Cond.code ({ cls := "TaskTurnsModel", name := "stop", desc := "(I)I" } : Jvm.MethodName) prog_9_method_24_code (2 : Nat) (Option.some Jvm.ClassFile.FieldType.int)) ∈ xTB := xmem 682 (by decide +kernel) (by decide +kernel)
set_option maxRecDepth 20000 in
theorem w_683 : (Jvm.Cond.methodLink "TaskTurnsLaw" (43 : Nat) ({ cls := "TaskTurnsModel", name := "again", desc := "(I)I" } : Jvm.MethodName)) ∈ xTB := xmem 683 (by decide +kernel) (by decide +kernel)
set_option maxRecDepth 20000 in
theorem w_684 : (Jvm.Cond.instanceMethod ({ cls := "TaskTurnsModel", name := "again", desc := "(I)I" } : Jvm.MethodName)) ∈ xTB := xmem 684 (by decide +kernel) (by decide +kernel)
set_option maxRecDepth 20000 in
theorem w_685 : (Jvm.Cond.selects "TaskTurnsModel" ({ cls := "TaskTurnsModel", name := "again", desc := "(I)I" } : Jvm.MethodName) ({ cls := "TaskTurnsModel", name := "again", desc := "(I)I" } : Jvm.MethodName)) ∈ xTB := xmem 685 (by decide +kernel) (by decide +kernel)
set_option maxRecDepth 20000 in
theorem w_686 : (Jvm.Cond.code ({ cls := "TaskTurnsModel", name := "again", desc := "(I)I" } : Jvm.MethodName) prog_9_method_25_code (2 : Nat) (Option.some Jvm.ClassFile.FieldType.int)) ∈ xTB := xmem 686 (by decide +kernel) (by decide +kernel)
set_option maxRecDepth 20000 in
theorem w_687 : (Jvm.Cond.methodLink "TaskTurnsLaw" (47 : Nat) ({ cls := "TaskTurnsModel", name := "of", desc := "(II)I" } : Jvm.MethodName)) ∈ xTB := xmem 687 (by decide +kernel) (by decide +kernel)
set_option maxRecDepth 20000 in
theorem w_688 : (Jvm.Cond.instanceMethod ({ cls := "TaskTurnsModel", name := "of", desc := "(II)I" } : Jvm.MethodName)) ∈ xTB := xmem 688 (by decide +kernel) (by decide +kernel)
set_option maxRecDepth 20000 in
theorem w_689 : (Jvm.Cond.selects "TaskTurnsModel" ({ cls := "TaskTurnsModel", name := "of", desc := "(II)I" } : Jvm.MethodName) ({ cls := "TaskTurnsModel", name := "of", desc := "(II)I" } : Jvm.MethodName)) ∈ xTB := xmem 689 (by decide +kernel) (by decide +kernel)
set_option maxRecDepth 20000 in
theorem w_690 : (Jvm.Cond.code ({ cls := "TaskTurnsModel", name := "of", desc := "(II)I" } : Jvm.MethodName) prog_9_method_26_code (3 : Nat) (Option.some Jvm.ClassFile.FieldType.int)) ∈ xTB := xmem 690 (by decide +kernel) (by decide +kernel)
set_option maxRecDepth 20000 in
theorem w_691 : (Jvm.Cond.methodLink "TaskTurnsLaw" (52 : Nat) ({ cls := "TaskTurnsModel", name := "at", desc := "(IZI)I" } : Jvm.MethodName)) ∈ xTB := xmem 691 (by decide +kernel) (by decide +kernel)
set_option maxRecDepth 20000 in
theorem w_692 : (Jvm.Cond.instanceMethod ({ cls := "TaskTurnsModel", name := "at", desc := "(IZI)I" } : Jvm.MethodName)) ∈ xTB := xmem 692 (by decide +kernel) (by decide +kernel)
set_option maxRecDepth 20000 in
theorem w_693 : (Jvm.Cond.selects "TaskTurnsModel" ({ cls := "TaskTurnsModel", name := "at", desc := "(IZI)I" } : Jvm.MethodName) ({ cls := "TaskTurnsModel", name := "at", desc := "(IZI)I" } : Jvm.MethodName)) ∈ xTB := xmem 693 (by decide +kernel) (by decide +kernel)
set_option maxRecDepth 20000 in
theorem w_694 : (Jvm.Cond.code ({ cls := "TaskTurnsModel", name := "at", desc := "(IZI)I" } : Jvm.MethodName) prog_9_method_27_code (4 : Nat) (Option.some Jvm.ClassFile.FieldType.int)) ∈ xTB := xmem 694 (by decide +kernel) (by decide +kernel)
set_option maxRecDepth 20000 in
theorem w_695 : (Jvm.Cond.methodLink "TaskTurnsLaw" (56 : Nat) ({ cls := "TaskTurnsModel", name := "letterAt", desc := "(II)I" } : Jvm.MethodName)) ∈ xTB := xmem 695 (by decide +kernel) (by decide +kernel)
set_option maxRecDepth 20000 in
theorem w_696 : (Jvm.Cond.instanceMethod ({ cls := "TaskTurnsModel", name := "letterAt", desc := "(II)I" } : Jvm.MethodName)) ∈ xTB := xmem 696 (by decide +kernel) (by decide +kernel)
set_option maxRecDepth 20000 in
theorem w_697 : (Jvm.Cond.selects "TaskTurnsModel" ({ cls := "TaskTurnsModel", name := "letterAt", desc := "(II)I" } : Jvm.MethodName) ({ cls := "TaskTurnsModel", name := "letterAt", desc := "(II)I" } : Jvm.MethodName)) ∈ xTB := xmem 697 (by decide +kernel) (by decide +kernel)
set_option maxRecDepth 20000 in
theorem w_698 : (Jvm.Cond.code ({ cls := "TaskTurnsModel", name := "letterAt", desc := "(II)I" } : Jvm.MethodName) prog_9_method_28_code (3 : Nat) (Option.some Jvm.ClassFile.FieldType.int)) ∈ xTB := xmem 698 (by decide +kernel) (by decide +kernel)
set_option maxRecDepth 20000 in
theorem w_699 : (Jvm.Cond.methodLink "TaskTurnsLaw" (60 : Nat) ({ cls := "TaskTurnsModel", name := "count", desc := "(I)I" } : Jvm.MethodName)) ∈ xTB := xmem 699 (by decide +kernel) (by decide +kernel)
set_option maxRecDepth 20000 in
theorem w_700 : (Jvm.Cond.instanceMethod ({ cls := "TaskTurnsModel", name := "count", desc := "(I)I" } : Jvm.MethodName)) ∈ xTB := xmem 700 (by decide +kernel) (by decide +kernel)
set_option maxRecDepth 20000 in
theorem w_701 : (Jvm.Cond.selects "TaskTurnsModel" ({ cls := "TaskTurnsModel", name := "count", desc := "(I)I" } : Jvm.MethodName) ({ cls := "TaskTurnsModel", name := "count", desc := "(I)I" } : Jvm.MethodName)) ∈ xTB := xmem 701 (by decide +kernel) (by decide +kernel)
set_option maxRecDepth 20000 in
theorem w_702 : (Jvm.Cond.code ({ cls := "TaskTurnsModel", name := "count", desc := "(I)I" } : Jvm.MethodName) prog_9_method_29_code (4 : Nat) (Option.some Jvm.ClassFile.FieldType.int)) ∈ xTB := xmem 702 (by decide +kernel) (by decide +kernel)
set_option maxRecDepth 20000 in
theorem w_703 : (Jvm.Cond.methodLink "TaskTurnsLaw" (64 : Nat) ({ cls := "TaskTurnsModel", name := "done", desc := "(I)I" } : Jvm.MethodName)) ∈ xTB := xmem 703 (by decide +kernel) (by decide +kernel)
set_option maxRecDepth 20000 in
theorem w_704 : (Jvm.Cond.instanceMethod ({ cls := "TaskTurnsModel", name := "done", desc := "(I)I" } : Jvm.MethodName)) ∈ xTB := xmem 704 (by decide +kernel) (by decide +kernel)
set_option maxRecDepth 20000 in
theorem w_705 : (Jvm.Cond.selects "TaskTurnsModel" ({ cls := "TaskTurnsModel", name := "done", desc := "(I)I" } : Jvm.MethodName) ({ cls := "TaskTurnsModel", name := "done", desc := "(I)I" } : Jvm.MethodName)) ∈ xTB := xmem 705 (by decide +kernel) (by decide +kernel)
set_option maxRecDepth 20000 in
theorem w_706 : (Jvm.Cond.code ({ cls := "TaskTurnsModel", name := "done", desc := "(I)I" } : Jvm.MethodName) prog_9_method_30_code (2 : Nat) (Option.some Jvm.ClassFile.FieldType.int)) ∈ xTB := xmem 706 (by decide +kernel) (by decide +kernel)
