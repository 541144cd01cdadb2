/-! names: field tables, classes, methods; the words of the tables that stay, by their places -/
def WS : List Cond := lw_tbl.filter goodWord
theorem WS_mem {w : Cond} (i : Nat) (h : lw_tbl[i]? = some w) (hg : goodWord w = true) : w ∈ WS := List.mem_filter.mpr ⟨List.mem_of_getElem? h, hg⟩
theorem WS_ok : px_Ok WS := fun w h => good_of_word (List.mem_filter.mp h).2
theorem WS_hts {args : Array Value} {s : State} (h : ∀ w ∈ lw_tbl, w.before args s = true) : ∀ w ∈ WS, w.before args s = true := fun w hw => h w (List.mem_filter.mp hw).1
def T_Cp : u_T := fun k => match k with
  | 0 => ("ReplayMachine$Checkpoints", "kept", "[LReplayMachine$State;", true)
  | 1 => ("ReplayMachine$Checkpoints", "size", "I", false)
  | _ => ("ReplayMachine$Checkpoints", "every", "I", false)
def t_Cp : Nat → FieldType := fun k => match k with
  | 0 => .array (.object "ReplayMachine$State")
  | 1 => .int
  | _ => .int
theorem nm_Cp : ∀ a, a < 3 → ∀ b, b < 3 → a ≠ b → (T_Cp a).2.1 ≠ (T_Cp b).2.1 := by decide +kernel
theorem ty_Cp : ∀ k, k < 3 → parseFieldDescriptor (T_Cp k).2.2.1 = some (t_Cp k) := by decide +kernel
def T_Ma : u_T := fun k => match k with
  | 0 => ("ReplayMachine$Machine", "code", "[I", true)
  | 1 => ("ReplayMachine$Machine", "inputs", "[I", true)
  | 2 => ("ReplayMachine$Machine", "now", "LReplayMachine$State;", true)
  | 3 => ("ReplayMachine$Machine", "undo", "LReplayMachine$Undo;", true)
  | 4 => ("ReplayMachine$Machine", "inputCount", "I", false)
  | _ => ("ReplayMachine$Machine", "note", "LReplayMachine$Note;", false)
def t_Ma : Nat → FieldType := fun k => match k with
  | 0 => .array .int
  | 1 => .array .int
  | 2 => .object "ReplayMachine$State"
  | 3 => .object "ReplayMachine$Undo"
  | 4 => .int
  | _ => .object "ReplayMachine$Note"
theorem nm_Ma : ∀ a, a < 6 → ∀ b, b < 6 → a ≠ b → (T_Ma a).2.1 ≠ (T_Ma b).2.1 := by decide +kernel
theorem ty_Ma : ∀ k, k < 6 → parseFieldDescriptor (T_Ma k).2.2.1 = some (t_Ma k) := by decide +kernel
def T_Nt : u_T := fun k => match k with
  | 0 => ("ReplayMachine$Registers", "time", "I", false)
  | 1 => ("ReplayMachine$Registers", "pc", "I", false)
  | 2 => ("ReplayMachine$Registers", "frame", "I", false)
  | 3 => ("ReplayMachine$Registers", "x", "I", false)
  | 4 => ("ReplayMachine$Registers", "taken", "I", false)
  | 5 => ("ReplayMachine$Registers", "height", "I", false)
  | 6 => ("ReplayMachine$Registers", "changed", "I", false)
  | 7 => ("ReplayMachine$Note", "places", "[I", true)
  | 8 => ("ReplayMachine$Note", "words", "[I", true)
  | _ => ("ReplayMachine$Note", "size", "I", false)
def t_Nt : Nat → FieldType := fun k => match k with
  | 0 => .int
  | 1 => .int
  | 2 => .int
  | 3 => .int
  | 4 => .int
  | 5 => .int
  | 6 => .int
  | 7 => .array .int
  | 8 => .array .int
  | _ => .int
theorem nm_Nt : ∀ a, a < 10 → ∀ b, b < 10 → a ≠ b → (T_Nt a).2.1 ≠ (T_Nt b).2.1 := by decide +kernel
theorem ty_Nt : ∀ k, k < 10 → parseFieldDescriptor (T_Nt k).2.2.1 = some (t_Nt k) := by decide +kernel
def T_St : u_T := fun k => match k with
  | 0 => ("ReplayMachine$Registers", "time", "I", false)
  | 1 => ("ReplayMachine$Registers", "pc", "I", false)
  | 2 => ("ReplayMachine$Registers", "frame", "I", false)
  | 3 => ("ReplayMachine$Registers", "x", "I", false)
  | 4 => ("ReplayMachine$Registers", "taken", "I", false)
  | 5 => ("ReplayMachine$Registers", "height", "I", false)
  | 6 => ("ReplayMachine$Registers", "changed", "I", false)
  | _ => ("ReplayMachine$State", "memory", "[I", true)
def t_St : Nat → FieldType := fun k => match k with
  | 0 => .int
  | 1 => .int
  | 2 => .int
  | 3 => .int
  | 4 => .int
  | 5 => .int
  | 6 => .int
  | _ => .array .int
theorem nm_St : ∀ a, a < 8 → ∀ b, b < 8 → a ≠ b → (T_St a).2.1 ≠ (T_St b).2.1 := by decide +kernel
theorem ty_St : ∀ k, k < 8 → parseFieldDescriptor (T_St k).2.2.1 = some (t_St k) := by decide +kernel
def T_Un : u_T := fun k => match k with
  | 0 => ("ReplayMachine$Undo", "notes", "[LReplayMachine$Note;", true)
  | 1 => ("ReplayMachine$Undo", "newest", "I", false)
  | _ => ("ReplayMachine$Undo", "size", "I", false)
def t_Un : Nat → FieldType := fun k => match k with
  | 0 => .array (.object "ReplayMachine$Note")
  | 1 => .int
  | _ => .int
theorem nm_Un : ∀ a, a < 3 → ∀ b, b < 3 → a ≠ b → (T_Un a).2.1 ≠ (T_Un b).2.1 := by decide +kernel
theorem ty_Un : ∀ k, k < 3 → parseFieldDescriptor (T_Un k).2.2.1 = some (t_Un k) := by decide +kernel
def T_RM : u_T := fun k => match k with
  | 0 => ("ReplayMachine", "machine", "LReplayMachine$Machine;", true)
  | 1 => ("ReplayMachine", "checkpoints", "LReplayMachine$Checkpoints;", true)
  | 2 => ("ReplayMachine", "breaks", "[Z", true)
  | 3 => ("ReplayMachine", "watches", "[Z", true)
  | 4 => ("ReplayMachine", "greatest", "I", false)
  | _ => ("ReplayMachine", "cost", "I", false)
def t_RM : Nat → FieldType := fun k => match k with
  | 0 => .object "ReplayMachine$Machine"
  | 1 => .object "ReplayMachine$Checkpoints"
  | 2 => .array .boolean
  | 3 => .array .boolean
  | 4 => .int
  | _ => .int
theorem nm_RM : ∀ a, a < 6 → ∀ b, b < 6 → a ≠ b → (T_RM a).2.1 ≠ (T_RM b).2.1 := by decide +kernel
theorem ty_RM : ∀ k, k < 6 → parseFieldDescriptor (T_RM k).2.2.1 = some (t_RM k) := by decide +kernel
def T_Mo : u_T := fun k => match k with
  | 0 => ("ReplayMachineModel", "program", "[I", true)
  | 1 => ("ReplayMachineModel", "inputs", "[I", true)
  | 2 => ("ReplayMachineModel", "breaks", "[Z", true)
  | 3 => ("ReplayMachineModel", "watches", "[Z", true)
  | 4 => ("ReplayMachineModel", "cells", "[I", true)
  | 5 => ("ReplayMachineModel", "stack", "[I", true)
  | 6 => ("ReplayMachineModel", "were", "[I", true)
  | 7 => ("ReplayMachineModel", "markWords", "[I", true)
  | 8 => ("ReplayMachineModel", "markOthers", "[I", true)
  | 9 => ("ReplayMachineModel", "keptAt", "[I", true)
  | 10 => ("ReplayMachineModel", "code", "I", false)
  | 11 => ("ReplayMachineModel", "given", "I", false)
  | 12 => ("ReplayMachineModel", "time", "I", false)
  | 13 => ("ReplayMachineModel", "pc", "I", false)
  | 14 => ("ReplayMachineModel", "frame", "I", false)
  | 15 => ("ReplayMachineModel", "x", "I", false)
  | 16 => ("ReplayMachineModel", "taken", "I", false)
  | 17 => ("ReplayMachineModel", "height", "I", false)
  | 18 => ("ReplayMachineModel", "reached", "I", false)
  | 19 => ("ReplayMachineModel", "undo", "I", false)
  | 20 => ("ReplayMachineModel", "cost", "I", false)
  | 21 => ("ReplayMachineModel", "every", "I", false)
  | _ => ("ReplayMachineModel", "kept", "I", false)
def t_Mo : Nat → FieldType := fun k => match k with
  | 0 => .array .int
  | 1 => .array .int
  | 2 => .array .boolean
  | 3 => .array .boolean
  | 4 => .array .int
  | 5 => .array .int
  | 6 => .array .int
  | 7 => .array .int
  | 8 => .array .int
  | 9 => .array .int
  | 10 => .int
  | 11 => .int
  | 12 => .int
  | 13 => .int
  | 14 => .int
  | 15 => .int
  | 16 => .int
  | 17 => .int
  | 18 => .int
  | 19 => .int
  | 20 => .int
  | 21 => .int
  | _ => .int
theorem nm_Mo : ∀ a, a < 23 → ∀ b, b < 23 → a ≠ b → (T_Mo a).2.1 ≠ (T_Mo b).2.1 := by decide +kernel
theorem ty_Mo : ∀ k, k < 23 → parseFieldDescriptor (T_Mo k).2.2.1 = some (t_Mo k) := by decide +kernel
abbrev CLS : List vw_C := [("ReplayMachine$Checkpoints", T_Cp, 3), ("ReplayMachine$Machine", T_Ma, 6), ("ReplayMachine$Note", T_Nt, 10), ("ReplayMachine$State", T_St, 8), ("ReplayMachine$Undo", T_Un, 3), ("ReplayMachine", T_RM, 6), ("ReplayMachineModel", T_Mo, 23)]
abbrev b_RM_init : ByteArray := prog_1_method_1_code
def y_RM_init : MethodName := ⟨"ReplayMachine", "<init>", "(I)V"⟩
abbrev b_Ma_init : ByteArray := prog_3_method_1_code
def y_Ma_init : MethodName := ⟨"ReplayMachine$Machine", "<init>", "(I)V"⟩
abbrev b_St_init : ByteArray := prog_6_method_1_code
def y_St_init : MethodName := ⟨"ReplayMachine$State", "<init>", "(I)V"⟩
abbrev b_Rg_init : ByteArray := prog_5_method_1_code
def y_Rg_init : MethodName := ⟨"ReplayMachine$Registers", "<init>", "()V"⟩
abbrev b_Un_init : ByteArray := prog_7_method_1_code
def y_Un_init : MethodName := ⟨"ReplayMachine$Undo", "<init>", "()V"⟩
abbrev b_Nt_init : ByteArray := prog_4_method_1_code
def y_Nt_init : MethodName := ⟨"ReplayMachine$Note", "<init>", "()V"⟩
abbrev b_Cp_init : ByteArray := prog_2_method_1_code
def y_Cp_init : MethodName := ⟨"ReplayMachine$Checkpoints", "<init>", "(I)V"⟩
abbrev b_RM_input : ByteArray := prog_1_method_3_code
def y_RM_input : MethodName := ⟨"ReplayMachine", "input", "(I)I"⟩
abbrev b_Ma_addInput : ByteArray := prog_3_method_2_code
def y_Ma_addInput : MethodName := ⟨"ReplayMachine$Machine", "addInput", "(I)I"⟩
abbrev b_RM_step : ByteArray := prog_1_method_4_code
def y_RM_step : MethodName := ⟨"ReplayMachine", "step", "()I"⟩
abbrev b_RM_advance : ByteArray := prog_1_method_19_code
def y_RM_advance : MethodName := ⟨"ReplayMachine", "advance", "()I"⟩
abbrev b_Ma_obstacle : ByteArray := prog_3_method_3_code
def y_Ma_obstacle : MethodName := ⟨"ReplayMachine$Machine", "obstacle", "()I"⟩
abbrev b_RM_within : ByteArray := prog_1_method_16_code
def y_RM_within : MethodName := ⟨"ReplayMachine", "within", "(II)Z"⟩
abbrev b_Ma_hasTooFew : ByteArray := prog_3_method_4_code
def y_Ma_hasTooFew : MethodName := ⟨"ReplayMachine$Machine", "hasTooFew", "(II)Z"⟩
abbrev b_Ma_argumentPlace : ByteArray := prog_3_method_5_code
def y_Ma_argumentPlace : MethodName := ⟨"ReplayMachine$Machine", "argumentPlace", "(I)I"⟩
abbrev b_Ma_fromTop : ByteArray := prog_3_method_6_code
def y_Ma_fromTop : MethodName := ⟨"ReplayMachine$Machine", "fromTop", "(I)I"⟩
abbrev b_St_number : ByteArray := prog_6_method_3_code
def y_St_number : MethodName := ⟨"ReplayMachine$State", "number", "(I)I"⟩
abbrev b_Ma_perform : ByteArray := prog_3_method_7_code
def y_Ma_perform : MethodName := ⟨"ReplayMachine$Machine", "perform", "()V"⟩
abbrev b_Un_begin : ByteArray := prog_7_method_2_code
def y_Un_begin : MethodName := ⟨"ReplayMachine$Undo", "begin", "(LReplayMachine$State;)LReplayMachine$Note;"⟩
abbrev b_Nt_begin : ByteArray := prog_4_method_2_code
def y_Nt_begin : MethodName := ⟨"ReplayMachine$Note", "begin", "(LReplayMachine$State;)V"⟩
abbrev b_Rg_copyRegisters : ByteArray := prog_5_method_2_code
def y_Rg_copyRegisters : MethodName := ⟨"ReplayMachine$Registers", "copyRegisters", "(LReplayMachine$Registers;)V"⟩
abbrev b_Ma_push : ByteArray := prog_3_method_9_code
def y_Ma_push : MethodName := ⟨"ReplayMachine$Machine", "push", "(I)V"⟩
abbrev b_Ma_put : ByteArray := prog_3_method_8_code
def y_Ma_put : MethodName := ⟨"ReplayMachine$Machine", "put", "(II)V"⟩
abbrev b_Nt_keepWord : ByteArray := prog_4_method_3_code
def y_Nt_keepWord : MethodName := ⟨"ReplayMachine$Note", "keepWord", "(II)V"⟩
abbrev b_Ma_exchange : ByteArray := prog_3_method_11_code
def y_Ma_exchange : MethodName := ⟨"ReplayMachine$Machine", "exchange", "()V"⟩
abbrev b_Ma_result : ByteArray := prog_3_method_12_code
def y_Ma_result : MethodName := ⟨"ReplayMachine$Machine", "result", "(III)I"⟩
abbrev b_Ma_replaceTwo : ByteArray := prog_3_method_10_code
def y_Ma_replaceTwo : MethodName := ⟨"ReplayMachine$Machine", "replaceTwo", "(I)V"⟩
abbrev b_Ma_load : ByteArray := prog_3_method_13_code
def y_Ma_load : MethodName := ⟨"ReplayMachine$Machine", "load", "()V"⟩
abbrev b_Ma_store : ByteArray := prog_3_method_14_code
def y_Ma_store : MethodName := ⟨"ReplayMachine$Machine", "store", "()V"⟩
abbrev b_Ma_jumpIf : ByteArray := prog_3_method_15_code
def y_Ma_jumpIf : MethodName := ⟨"ReplayMachine$Machine", "jumpIf", "(ZI)V"⟩
abbrev b_Ma_enter : ByteArray := prog_3_method_16_code
def y_Ma_enter : MethodName := ⟨"ReplayMachine$Machine", "enter", "(I)V"⟩
abbrev b_Ma_leave : ByteArray := prog_3_method_17_code
def y_Ma_leave : MethodName := ⟨"ReplayMachine$Machine", "leave", "()V"⟩
abbrev b_Ma_takeInput : ByteArray := prog_3_method_18_code
def y_Ma_takeInput : MethodName := ⟨"ReplayMachine$Machine", "takeInput", "()V"⟩
abbrev b_Ma_pushRandom : ByteArray := prog_3_method_19_code
def y_Ma_pushRandom : MethodName := ⟨"ReplayMachine$Machine", "pushRandom", "(I)V"⟩
abbrev b_Cp_offer : ByteArray := prog_2_method_2_code
def y_Cp_offer : MethodName := ⟨"ReplayMachine$Checkpoints", "offer", "(LReplayMachine$State;)V"⟩
abbrev b_Cp_isMultiple : ByteArray := prog_2_method_3_code
def y_Cp_isMultiple : MethodName := ⟨"ReplayMachine$Checkpoints", "isMultiple", "(I)Z"⟩
abbrev b_Cp_thinOut : ByteArray := prog_2_method_4_code
def y_Cp_thinOut : MethodName := ⟨"ReplayMachine$Checkpoints", "thinOut", "()V"⟩
abbrev b_St_copyState : ByteArray := prog_6_method_2_code
def y_St_copyState : MethodName := ⟨"ReplayMachine$State", "copyState", "(LReplayMachine$State;)V"⟩
abbrev b_RM_cell : ByteArray := prog_1_method_13_code
def y_RM_cell : MethodName := ⟨"ReplayMachine", "cell", "(I)I"⟩
abbrev b_La_cell : ByteArray := method_2_code
def y_La_cell : MethodName := ⟨"ReplayMachineLaw", "cell", "([II)I"⟩
abbrev b_La_poke : ByteArray := method_3_code
def y_La_poke : MethodName := ⟨"ReplayMachineLaw", "poke", "(LReplayMachine;II)I"⟩
abbrev b_RM_poke : ByteArray := prog_1_method_2_code
def y_RM_poke : MethodName := ⟨"ReplayMachine", "poke", "(II)V"⟩
abbrev b_La_forth : ByteArray := method_4_code
def y_La_forth : MethodName := ⟨"ReplayMachineLaw", "forth", "(LReplayMachine;I[J)I"⟩
abbrev b_RM_forth : ByteArray := prog_1_method_5_code
def y_RM_forth : MethodName := ⟨"ReplayMachine", "forth", "(I)I"⟩
abbrev b_RM_isFuel : ByteArray := prog_1_method_17_code
def y_RM_isFuel : MethodName := ⟨"ReplayMachine", "isFuel", "(I)Z"⟩
abbrev b_RM_stopHere : ByteArray := prog_1_method_20_code
def y_RM_stopHere : MethodName := ⟨"ReplayMachine", "stopHere", "()I"⟩
abbrev b_La_back : ByteArray := method_5_code
def y_La_back : MethodName := ⟨"ReplayMachineLaw", "back", "(LReplayMachine;I[J)I"⟩
abbrev b_RM_back : ByteArray := prog_1_method_6_code
def y_RM_back : MethodName := ⟨"ReplayMachine", "back", "(I)I"⟩
abbrev b_RM_travel : ByteArray := prog_1_method_21_code
def y_RM_travel : MethodName := ⟨"ReplayMachine", "travel", "(I)V"⟩
abbrev b_Un_takeBack : ByteArray := prog_7_method_3_code
def y_Un_takeBack : MethodName := ⟨"ReplayMachine$Undo", "takeBack", "(ILReplayMachine$State;)V"⟩
abbrev b_Nt_restore : ByteArray := prog_4_method_4_code
def y_Nt_restore : MethodName := ⟨"ReplayMachine$Note", "restore", "(LReplayMachine$State;)V"⟩
abbrev b_Cp_latestUpTo : ByteArray := prog_2_method_5_code
def y_Cp_latestUpTo : MethodName := ⟨"ReplayMachine$Checkpoints", "latestUpTo", "(I)LReplayMachine$State;"⟩
abbrev b_La_go : ByteArray := method_6_code
def y_La_go : MethodName := ⟨"ReplayMachineLaw", "go", "(LReplayMachine;I)I"⟩
abbrev b_RM_go : ByteArray := prog_1_method_7_code
def y_RM_go : MethodName := ⟨"ReplayMachine", "go", "(I)V"⟩
abbrev b_La_setBreak : ByteArray := method_7_code
def y_La_setBreak : MethodName := ⟨"ReplayMachineLaw", "setBreak", "(LReplayMachine;I[J)I"⟩
abbrev b_RM_setBreak : ByteArray := prog_1_method_8_code
def y_RM_setBreak : MethodName := ⟨"ReplayMachine", "setBreak", "(I)Z"⟩
abbrev b_RM_mark : ByteArray := prog_1_method_18_code
def y_RM_mark : MethodName := ⟨"ReplayMachine", "mark", "([ZIZ)Z"⟩
abbrev b_La_clearBreak : ByteArray := method_8_code
def y_La_clearBreak : MethodName := ⟨"ReplayMachineLaw", "clearBreak", "(LReplayMachine;I[J)I"⟩
abbrev b_RM_clearBreak : ByteArray := prog_1_method_9_code
def y_RM_clearBreak : MethodName := ⟨"ReplayMachine", "clearBreak", "(I)Z"⟩
abbrev b_La_setWatch : ByteArray := method_9_code
def y_La_setWatch : MethodName := ⟨"ReplayMachineLaw", "setWatch", "(LReplayMachine;I[J)I"⟩
abbrev b_RM_setWatch : ByteArray := prog_1_method_10_code
def y_RM_setWatch : MethodName := ⟨"ReplayMachine", "setWatch", "(I)Z"⟩
abbrev b_La_clearWatch : ByteArray := method_10_code
def y_La_clearWatch : MethodName := ⟨"ReplayMachineLaw", "clearWatch", "(LReplayMachine;I[J)I"⟩
abbrev b_RM_clearWatch : ByteArray := prog_1_method_11_code
def y_RM_clearWatch : MethodName := ⟨"ReplayMachine", "clearWatch", "(I)Z"⟩
abbrev b_La_state : ByteArray := method_11_code
def y_La_state : MethodName := ⟨"ReplayMachineLaw", "state", "(LReplayMachine;I[J)I"⟩
abbrev b_RM_state : ByteArray := prog_1_method_12_code
def y_RM_state : MethodName := ⟨"ReplayMachine", "state", "(I)I"⟩
abbrev b_La_stack : ByteArray := method_12_code
def y_La_stack : MethodName := ⟨"ReplayMachineLaw", "stack", "(LReplayMachine;I[J)I"⟩
abbrev b_RM_stack : ByteArray := prog_1_method_14_code
def y_RM_stack : MethodName := ⟨"ReplayMachine", "stack", "(I)I"⟩
abbrev b_La_checkpoint : ByteArray := method_13_code
def y_La_checkpoint : MethodName := ⟨"ReplayMachineLaw", "checkpoint", "(LReplayMachine;I[J)I"⟩
abbrev b_RM_checkpoint : ByteArray := prog_1_method_15_code
def y_RM_checkpoint : MethodName := ⟨"ReplayMachine", "checkpoint", "(I)I"⟩
abbrev b_Mo_init : ByteArray := prog_9_method_1_code
def y_Mo_init : MethodName := ⟨"ReplayMachineModel", "<init>", "(I)V"⟩
abbrev b_Mo_mark : ByteArray := prog_9_method_6_code
def y_Mo_mark : MethodName := ⟨"ReplayMachineModel", "mark", "()V"⟩
abbrev b_Mo_thrown : ByteArray := prog_9_method_2_code
def y_Mo_thrown : MethodName := ⟨"ReplayMachineModel", "thrown", "()I"⟩
abbrev b_Mo_poke : ByteArray := prog_9_method_4_code
def y_Mo_poke : MethodName := ⟨"ReplayMachineModel", "poke", "(II)V"⟩
abbrev b_Mo_input : ByteArray := prog_9_method_5_code
def y_Mo_input : MethodName := ⟨"ReplayMachineModel", "input", "(I)I"⟩
abbrev b_Mo_step : ByteArray := prog_9_method_22_code
def y_Mo_step : MethodName := ⟨"ReplayMachineModel", "step", "()I"⟩
abbrev b_Mo_advance : ByteArray := prog_9_method_20_code
def y_Mo_advance : MethodName := ⟨"ReplayMachineModel", "advance", "()I"⟩
abbrev b_Mo_check : ByteArray := prog_9_method_11_code
def y_Mo_check : MethodName := ⟨"ReplayMachineModel", "check", "()I"⟩
abbrev b_Mo_needs : ByteArray := prog_9_method_8_code
def y_Mo_needs : MethodName := ⟨"ReplayMachineModel", "needs", "(I)I"⟩
abbrev b_Mo_isArgument : ByteArray := prog_9_method_10_code
def y_Mo_isArgument : MethodName := ⟨"ReplayMachineModel", "isArgument", "(I)Z"⟩
abbrev b_Mo_grows : ByteArray := prog_9_method_9_code
def y_Mo_grows : MethodName := ⟨"ReplayMachineModel", "grows", "(I)I"⟩
abbrev b_Mo_perform : ByteArray := prog_9_method_19_code
def y_Mo_perform : MethodName := ⟨"ReplayMachineModel", "perform", "()V"⟩
abbrev b_Mo_push : ByteArray := prog_9_method_12_code
def y_Mo_push : MethodName := ⟨"ReplayMachineModel", "push", "(I)V"⟩
abbrev b_Mo_pop : ByteArray := prog_9_method_13_code
def y_Mo_pop : MethodName := ⟨"ReplayMachineModel", "pop", "()I"⟩
abbrev b_Mo_branch : ByteArray := prog_9_method_15_code
def y_Mo_branch : MethodName := ⟨"ReplayMachineModel", "branch", "(II)V"⟩
abbrev b_Mo_call : ByteArray := prog_9_method_17_code
def y_Mo_call : MethodName := ⟨"ReplayMachineModel", "call", "(I)V"⟩
abbrev b_Mo_giveBack : ByteArray := prog_9_method_16_code
def y_Mo_giveBack : MethodName := ⟨"ReplayMachineModel", "giveBack", "()V"⟩
abbrev b_Mo_draw : ByteArray := prog_9_method_18_code
def y_Mo_draw : MethodName := ⟨"ReplayMachineModel", "draw", "(I)I"⟩
abbrev b_Mo_reckon : ByteArray := prog_9_method_14_code
def y_Mo_reckon : MethodName := ⟨"ReplayMachineModel", "reckon", "(III)I"⟩
abbrev b_Mo_grow : ByteArray := prog_9_method_21_code
def y_Mo_grow : MethodName := ⟨"ReplayMachineModel", "grow", "()V"⟩
abbrev b_Mo_forth : ByteArray := prog_9_method_25_code
def y_Mo_forth : MethodName := ⟨"ReplayMachineModel", "forth", "(I)I"⟩
abbrev b_Mo_remember : ByteArray := prog_9_method_23_code
def y_Mo_remember : MethodName := ⟨"ReplayMachineModel", "remember", "()V"⟩
abbrev b_Mo_stop : ByteArray := prog_9_method_24_code
def y_Mo_stop : MethodName := ⟨"ReplayMachineModel", "stop", "()I"⟩
abbrev b_Mo_go : ByteArray := prog_9_method_27_code
def y_Mo_go : MethodName := ⟨"ReplayMachineModel", "go", "(I)V"⟩
abbrev b_Mo_account : ByteArray := prog_9_method_26_code
def y_Mo_account : MethodName := ⟨"ReplayMachineModel", "account", "(I)V"⟩
abbrev b_Mo_seek : ByteArray := prog_9_method_7_code
def y_Mo_seek : MethodName := ⟨"ReplayMachineModel", "seek", "(I)V"⟩
abbrev b_Mo_back : ByteArray := prog_9_method_29_code
def y_Mo_back : MethodName := ⟨"ReplayMachineModel", "back", "(I)I"⟩
abbrev b_Mo_backOne : ByteArray := prog_9_method_28_code
def y_Mo_backOne : MethodName := ⟨"ReplayMachineModel", "backOne", "()I"⟩
abbrev b_Mo_setBreak : ByteArray := prog_9_method_31_code
def y_Mo_setBreak : MethodName := ⟨"ReplayMachineModel", "setBreak", "(I)Z"⟩
abbrev b_Mo_outside : ByteArray := prog_9_method_30_code
def y_Mo_outside : MethodName := ⟨"ReplayMachineModel", "outside", "(II)Z"⟩
abbrev b_Mo_clearBreak : ByteArray := prog_9_method_32_code
def y_Mo_clearBreak : MethodName := ⟨"ReplayMachineModel", "clearBreak", "(I)Z"⟩
abbrev b_Mo_setWatch : ByteArray := prog_9_method_33_code
def y_Mo_setWatch : MethodName := ⟨"ReplayMachineModel", "setWatch", "(I)Z"⟩
abbrev b_Mo_clearWatch : ByteArray := prog_9_method_34_code
def y_Mo_clearWatch : MethodName := ⟨"ReplayMachineModel", "clearWatch", "(I)Z"⟩
abbrev b_Mo_state : ByteArray := prog_9_method_35_code
def y_Mo_state : MethodName := ⟨"ReplayMachineModel", "state", "(I)I"⟩
abbrev b_Mo_fail : ByteArray := prog_9_method_3_code
def y_Mo_fail : MethodName := ⟨"ReplayMachineModel", "fail", "(I)I"⟩
abbrev b_Mo_cell : ByteArray := prog_9_method_36_code
def y_Mo_cell : MethodName := ⟨"ReplayMachineModel", "cell", "(I)I"⟩
abbrev b_Mo_stack : ByteArray := prog_9_method_37_code
def y_Mo_stack : MethodName := ⟨"ReplayMachineModel", "stack", "(I)I"⟩
abbrev b_Mo_checkpoint : ByteArray := prog_9_method_38_code
def y_Mo_checkpoint : MethodName := ⟨"ReplayMachineModel", "checkpoint", "(I)I"⟩
set_option maxRecDepth 20000 in
theorem mw_1 : Cond.initialized "ReplayMachine" ∈ WS := WS_mem 39 (by decide +kernel) (by decide +kernel)
set_option maxRecDepth 20000 in
theorem mw_2 : Cond.initialized "ReplayMachine$Machine" ∈ WS := WS_mem 40 (by decide +kernel) (by decide +kernel)
set_option maxRecDepth 20000 in
theorem mw_4 : Cond.initialized "ReplayMachine$State" ∈ WS := WS_mem 42 (by decide +kernel) (by decide +kernel)
set_option maxRecDepth 20000 in
theorem mw_40 : Cond.fieldLink "ReplayMachine$State" 18 "ReplayMachine$State" "memory" "[I" ∈ WS := WS_mem 78 (by decide +kernel) (by decide +kernel)
set_option maxRecDepth 20000 in
theorem mw_50 : Cond.fieldLink "ReplayMachine$Machine" 46 "ReplayMachine$State" "pc" "I" ∈ WS := WS_mem 88 (by decide +kernel) (by decide +kernel)
set_option maxRecDepth 20000 in
theorem mw_51 : Cond.sameField "ReplayMachine$State" "ReplayMachine$Registers" "pc" "I" ∈ WS := WS_mem 89 (by decide +kernel) (by decide +kernel)
set_option maxRecDepth 20000 in
theorem mw_54 : Cond.fieldLink "ReplayMachine$Machine" 69 "ReplayMachine$State" "frame" "I" ∈ WS := WS_mem 92 (by decide +kernel) (by decide +kernel)
set_option maxRecDepth 20000 in
theorem mw_55 : Cond.sameField "ReplayMachine$State" "ReplayMachine$Registers" "frame" "I" ∈ WS := WS_mem 93 (by decide +kernel) (by decide +kernel)
set_option maxRecDepth 20000 in
theorem mw_63 : Cond.fieldLink "ReplayMachine$Machine" 60 "ReplayMachine$State" "taken" "I" ∈ WS := WS_mem 101 (by decide +kernel) (by decide +kernel)
set_option maxRecDepth 20000 in
theorem mw_64 : Cond.sameField "ReplayMachine$State" "ReplayMachine$Registers" "taken" "I" ∈ WS := WS_mem 102 (by decide +kernel) (by decide +kernel)
set_option maxRecDepth 20000 in
theorem mw_67 : Cond.fieldLink "ReplayMachine$Machine" 63 "ReplayMachine$State" "height" "I" ∈ WS := WS_mem 105 (by decide +kernel) (by decide +kernel)
set_option maxRecDepth 20000 in
theorem mw_68 : Cond.sameField "ReplayMachine$State" "ReplayMachine$Registers" "height" "I" ∈ WS := WS_mem 106 (by decide +kernel) (by decide +kernel)
set_option maxRecDepth 20000 in
theorem mw_75 : Cond.laysFinal "ReplayMachine$State" "ReplayMachine$State" "memory" "[I" ∈ WS := WS_mem 113 (by decide +kernel) (by decide +kernel)
set_option maxRecDepth 20000 in
theorem mw_77 : Cond.lays "ReplayMachine$State" "ReplayMachine$Registers" "time" "I" ∈ WS := WS_mem 115 (by decide +kernel) (by decide +kernel)
set_option maxRecDepth 20000 in
theorem mw_79 : Cond.lays "ReplayMachine$State" "ReplayMachine$Registers" "pc" "I" ∈ WS := WS_mem 117 (by decide +kernel) (by decide +kernel)
set_option maxRecDepth 20000 in
theorem mw_81 : Cond.lays "ReplayMachine$State" "ReplayMachine$Registers" "frame" "I" ∈ WS := WS_mem 119 (by decide +kernel) (by decide +kernel)
set_option maxRecDepth 20000 in
theorem mw_83 : Cond.lays "ReplayMachine$State" "ReplayMachine$Registers" "x" "I" ∈ WS := WS_mem 121 (by decide +kernel) (by decide +kernel)
set_option maxRecDepth 20000 in
theorem mw_85 : Cond.lays "ReplayMachine$State" "ReplayMachine$Registers" "taken" "I" ∈ WS := WS_mem 123 (by decide +kernel) (by decide +kernel)
set_option maxRecDepth 20000 in
theorem mw_87 : Cond.lays "ReplayMachine$State" "ReplayMachine$Registers" "height" "I" ∈ WS := WS_mem 125 (by decide +kernel) (by decide +kernel)
set_option maxRecDepth 20000 in
theorem mw_89 : Cond.lays "ReplayMachine$State" "ReplayMachine$Registers" "changed" "I" ∈ WS := WS_mem 127 (by decide +kernel) (by decide +kernel)
set_option maxRecDepth 20000 in
theorem mw_109 : Cond.laysFinal "ReplayMachine$Note" "ReplayMachine$Note" "places" "[I" ∈ WS := WS_mem 147 (by decide +kernel) (by decide +kernel)
set_option maxRecDepth 20000 in
theorem mw_111 : Cond.laysFinal "ReplayMachine$Note" "ReplayMachine$Note" "words" "[I" ∈ WS := WS_mem 149 (by decide +kernel) (by decide +kernel)
set_option maxRecDepth 20000 in
theorem mw_113 : Cond.lays "ReplayMachine$Note" "ReplayMachine$Note" "size" "I" ∈ WS := WS_mem 151 (by decide +kernel) (by decide +kernel)
set_option maxRecDepth 20000 in
theorem mw_115 : Cond.lays "ReplayMachine$Note" "ReplayMachine$Registers" "time" "I" ∈ WS := WS_mem 153 (by decide +kernel) (by decide +kernel)
set_option maxRecDepth 20000 in
theorem mw_116 : Cond.lays "ReplayMachine$Note" "ReplayMachine$Registers" "pc" "I" ∈ WS := WS_mem 154 (by decide +kernel) (by decide +kernel)
set_option maxRecDepth 20000 in
theorem mw_117 : Cond.lays "ReplayMachine$Note" "ReplayMachine$Registers" "frame" "I" ∈ WS := WS_mem 155 (by decide +kernel) (by decide +kernel)
set_option maxRecDepth 20000 in
theorem mw_118 : Cond.lays "ReplayMachine$Note" "ReplayMachine$Registers" "x" "I" ∈ WS := WS_mem 156 (by decide +kernel) (by decide +kernel)
set_option maxRecDepth 20000 in
theorem mw_119 : Cond.lays "ReplayMachine$Note" "ReplayMachine$Registers" "taken" "I" ∈ WS := WS_mem 157 (by decide +kernel) (by decide +kernel)
set_option maxRecDepth 20000 in
theorem mw_120 : Cond.lays "ReplayMachine$Note" "ReplayMachine$Registers" "height" "I" ∈ WS := WS_mem 158 (by decide +kernel) (by decide +kernel)
set_option maxRecDepth 20000 in
theorem mw_121 : Cond.lays "ReplayMachine$Note" "ReplayMachine$Registers" "changed" "I" ∈ WS := WS_mem 159 (by decide +kernel) (by decide +kernel)
set_option maxRecDepth 20000 in
theorem mw_128 : Cond.laysFinal "ReplayMachine$Undo" "ReplayMachine$Undo" "notes" "[LReplayMachine$Note;" ∈ WS := WS_mem 166 (by decide +kernel) (by decide +kernel)
set_option maxRecDepth 20000 in
theorem mw_130 : Cond.lays "ReplayMachine$Undo" "ReplayMachine$Undo" "newest" "I" ∈ WS := WS_mem 168 (by decide +kernel) (by decide +kernel)
set_option maxRecDepth 20000 in
theorem mw_132 : Cond.lays "ReplayMachine$Undo" "ReplayMachine$Undo" "size" "I" ∈ WS := WS_mem 170 (by decide +kernel) (by decide +kernel)
set_option maxRecDepth 20000 in
theorem mw_135 : Cond.fieldLink "ReplayMachine$Machine" 9 "ReplayMachine$Machine" "code" "[I" ∈ WS := WS_mem 173 (by decide +kernel) (by decide +kernel)
set_option maxRecDepth 20000 in
theorem mw_138 : Cond.fieldLink "ReplayMachine$Machine" 23 "ReplayMachine$Machine" "now" "LReplayMachine$State;" ∈ WS := WS_mem 176 (by decide +kernel) (by decide +kernel)
set_option maxRecDepth 20000 in
theorem mw_142 : Cond.fieldLink "ReplayMachine$Machine" 42 "ReplayMachine$Machine" "inputCount" "I" ∈ WS := WS_mem 180 (by decide +kernel) (by decide +kernel)
set_option maxRecDepth 20000 in
theorem mw_144 : Cond.laysFinal "ReplayMachine$Machine" "ReplayMachine$Machine" "code" "[I" ∈ WS := WS_mem 182 (by decide +kernel) (by decide +kernel)
set_option maxRecDepth 20000 in
theorem mw_146 : Cond.laysFinal "ReplayMachine$Machine" "ReplayMachine$Machine" "inputs" "[I" ∈ WS := WS_mem 184 (by decide +kernel) (by decide +kernel)
set_option maxRecDepth 20000 in
theorem mw_148 : Cond.laysFinal "ReplayMachine$Machine" "ReplayMachine$Machine" "now" "LReplayMachine$State;" ∈ WS := WS_mem 186 (by decide +kernel) (by decide +kernel)
set_option maxRecDepth 20000 in
theorem mw_150 : Cond.laysFinal "ReplayMachine$Machine" "ReplayMachine$Machine" "undo" "LReplayMachine$Undo;" ∈ WS := WS_mem 188 (by decide +kernel) (by decide +kernel)
set_option maxRecDepth 20000 in
theorem mw_152 : Cond.lays "ReplayMachine$Machine" "ReplayMachine$Machine" "inputCount" "I" ∈ WS := WS_mem 190 (by decide +kernel) (by decide +kernel)
set_option maxRecDepth 20000 in
theorem mw_154 : Cond.lays "ReplayMachine$Machine" "ReplayMachine$Machine" "note" "LReplayMachine$Note;" ∈ WS := WS_mem 192 (by decide +kernel) (by decide +kernel)
set_option maxRecDepth 20000 in
theorem mw_172 : Cond.laysFinal "ReplayMachine$Checkpoints" "ReplayMachine$Checkpoints" "kept" "[LReplayMachine$State;" ∈ WS := WS_mem 210 (by decide +kernel) (by decide +kernel)
set_option maxRecDepth 20000 in
theorem mw_174 : Cond.lays "ReplayMachine$Checkpoints" "ReplayMachine$Checkpoints" "size" "I" ∈ WS := WS_mem 212 (by decide +kernel) (by decide +kernel)
set_option maxRecDepth 20000 in
theorem mw_176 : Cond.lays "ReplayMachine$Checkpoints" "ReplayMachine$Checkpoints" "every" "I" ∈ WS := WS_mem 214 (by decide +kernel) (by decide +kernel)
set_option maxRecDepth 20000 in
theorem mw_185 : Cond.laysFinal "ReplayMachine" "ReplayMachine" "machine" "LReplayMachine$Machine;" ∈ WS := WS_mem 223 (by decide +kernel) (by decide +kernel)
set_option maxRecDepth 20000 in
theorem mw_187 : Cond.laysFinal "ReplayMachine" "ReplayMachine" "checkpoints" "LReplayMachine$Checkpoints;" ∈ WS := WS_mem 225 (by decide +kernel) (by decide +kernel)
set_option maxRecDepth 20000 in
theorem mw_189 : Cond.laysFinal "ReplayMachine" "ReplayMachine" "breaks" "[Z" ∈ WS := WS_mem 227 (by decide +kernel) (by decide +kernel)
set_option maxRecDepth 20000 in
theorem mw_191 : Cond.laysFinal "ReplayMachine" "ReplayMachine" "watches" "[Z" ∈ WS := WS_mem 229 (by decide +kernel) (by decide +kernel)
set_option maxRecDepth 20000 in
theorem mw_193 : Cond.lays "ReplayMachine" "ReplayMachine" "greatest" "I" ∈ WS := WS_mem 231 (by decide +kernel) (by decide +kernel)
set_option maxRecDepth 20000 in
theorem mw_195 : Cond.lays "ReplayMachine" "ReplayMachine" "cost" "I" ∈ WS := WS_mem 233 (by decide +kernel) (by decide +kernel)
set_option maxRecDepth 20000 in
theorem mw_216 : Cond.instanceMethod y_Ma_obstacle ∈ WS := WS_mem 254 (by decide +kernel) (by decide +kernel)
set_option maxRecDepth 20000 in
theorem mw_217 : Cond.selects "ReplayMachine$Machine" y_Ma_obstacle y_Ma_obstacle ∈ WS := WS_mem 255 (by decide +kernel) (by decide +kernel)
set_option maxRecDepth 20000 in
theorem mw_218 : Cond.code y_Ma_obstacle prog_3_method_3_code 3 (some FieldType.int) ∈ WS := WS_mem 256 (by decide +kernel) (by decide +kernel)
set_option maxRecDepth 20000 in
theorem mw_220 : Cond.static y_RM_within ∈ WS := WS_mem 258 (by decide +kernel) (by decide +kernel)
set_option maxRecDepth 20000 in
theorem mw_221 : Cond.code y_RM_within prog_1_method_16_code 2 (some FieldType.boolean) ∈ WS := WS_mem 259 (by decide +kernel) (by decide +kernel)
set_option maxRecDepth 20000 in
theorem mw_222 : Cond.methodLink "ReplayMachine$Machine" 53 y_Ma_hasTooFew ∈ WS := WS_mem 260 (by decide +kernel) (by decide +kernel)
set_option maxRecDepth 20000 in
theorem mw_224 : Cond.instanceMethod y_Ma_hasTooFew ∈ WS := WS_mem 262 (by decide +kernel) (by decide +kernel)
set_option maxRecDepth 20000 in
theorem mw_225 : Cond.code y_Ma_hasTooFew prog_3_method_4_code 3 (some FieldType.boolean) ∈ WS := WS_mem 263 (by decide +kernel) (by decide +kernel)
set_option maxRecDepth 20000 in
theorem mw_226 : Cond.methodLink "ReplayMachine$Machine" 72 y_Ma_argumentPlace ∈ WS := WS_mem 264 (by decide +kernel) (by decide +kernel)
set_option maxRecDepth 20000 in
theorem mw_228 : Cond.instanceMethod y_Ma_argumentPlace ∈ WS := WS_mem 266 (by decide +kernel) (by decide +kernel)
set_option maxRecDepth 20000 in
theorem mw_229 : Cond.code y_Ma_argumentPlace prog_3_method_5_code 2 (some FieldType.int) ∈ WS := WS_mem 267 (by decide +kernel) (by decide +kernel)
set_option maxRecDepth 20000 in
theorem mw_230 : Cond.fieldLink "ReplayMachine$Machine" 75 "ReplayMachine$Machine" "NEEDS" "[I" ∈ WS := WS_mem 268 (by decide +kernel) (by decide +kernel)
set_option maxRecDepth 20000 in
theorem mw_232 : Cond.methodLink "ReplayMachine$Machine" 56 y_Ma_fromTop ∈ WS := WS_mem 270 (by decide +kernel) (by decide +kernel)
set_option maxRecDepth 20000 in
theorem mw_234 : Cond.instanceMethod y_Ma_fromTop ∈ WS := WS_mem 272 (by decide +kernel) (by decide +kernel)
set_option maxRecDepth 20000 in
theorem mw_235 : Cond.code y_Ma_fromTop prog_3_method_6_code 2 (some FieldType.int) ∈ WS := WS_mem 273 (by decide +kernel) (by decide +kernel)
set_option maxRecDepth 20000 in
theorem mw_236 : Cond.methodLink "ReplayMachine$Machine" 78 y_St_number ∈ WS := WS_mem 274 (by decide +kernel) (by decide +kernel)
set_option maxRecDepth 20000 in
theorem mw_237 : Cond.instanceMethod y_St_number ∈ WS := WS_mem 275 (by decide +kernel) (by decide +kernel)
set_option maxRecDepth 20000 in
theorem mw_238 : Cond.selects "ReplayMachine$State" y_St_number y_St_number ∈ WS := WS_mem 276 (by decide +kernel) (by decide +kernel)
set_option maxRecDepth 20000 in
theorem mw_239 : Cond.code y_St_number prog_6_method_3_code 2 (some FieldType.int) ∈ WS := WS_mem 277 (by decide +kernel) (by decide +kernel)
set_option maxRecDepth 20000 in
theorem mw_241 : Cond.fieldLink "ReplayMachine$Machine" 66 "ReplayMachine$Machine" "GROWS" "[I" ∈ WS := WS_mem 279 (by decide +kernel) (by decide +kernel)
set_option maxRecDepth 20000 in
theorem mw_281 : Cond.static y_Ma_result ∈ WS := WS_mem 319 (by decide +kernel) (by decide +kernel)
set_option maxRecDepth 20000 in
theorem mw_282 : Cond.code y_Ma_result prog_3_method_12_code 3 (some FieldType.int) ∈ WS := WS_mem 320 (by decide +kernel) (by decide +kernel)
set_option maxRecDepth 20000 in
theorem mw_448 : Cond.static y_RM_isFuel ∈ WS := WS_mem 486 (by decide +kernel) (by decide +kernel)
set_option maxRecDepth 20000 in
theorem mw_449 : Cond.code y_RM_isFuel prog_1_method_17_code 1 (some FieldType.boolean) ∈ WS := WS_mem 487 (by decide +kernel) (by decide +kernel)
set_option maxRecDepth 20000 in
theorem mw_593 : Cond.lays "ReplayMachineModel" "ReplayMachineModel" "code" "I" ∈ WS := WS_mem 631 (by decide +kernel) (by decide +kernel)
set_option maxRecDepth 20000 in
theorem mw_595 : Cond.laysFinal "ReplayMachineModel" "ReplayMachineModel" "program" "[I" ∈ WS := WS_mem 633 (by decide +kernel) (by decide +kernel)
set_option maxRecDepth 20000 in
theorem mw_597 : Cond.laysFinal "ReplayMachineModel" "ReplayMachineModel" "inputs" "[I" ∈ WS := WS_mem 635 (by decide +kernel) (by decide +kernel)
set_option maxRecDepth 20000 in
theorem mw_599 : Cond.lays "ReplayMachineModel" "ReplayMachineModel" "given" "I" ∈ WS := WS_mem 637 (by decide +kernel) (by decide +kernel)
set_option maxRecDepth 20000 in
theorem mw_601 : Cond.laysFinal "ReplayMachineModel" "ReplayMachineModel" "breaks" "[Z" ∈ WS := WS_mem 639 (by decide +kernel) (by decide +kernel)
set_option maxRecDepth 20000 in
theorem mw_603 : Cond.laysFinal "ReplayMachineModel" "ReplayMachineModel" "watches" "[Z" ∈ WS := WS_mem 641 (by decide +kernel) (by decide +kernel)
set_option maxRecDepth 20000 in
theorem mw_605 : Cond.lays "ReplayMachineModel" "ReplayMachineModel" "time" "I" ∈ WS := WS_mem 643 (by decide +kernel) (by decide +kernel)
set_option maxRecDepth 20000 in
theorem mw_607 : Cond.lays "ReplayMachineModel" "ReplayMachineModel" "pc" "I" ∈ WS := WS_mem 645 (by decide +kernel) (by decide +kernel)
set_option maxRecDepth 20000 in
theorem mw_609 : Cond.lays "ReplayMachineModel" "ReplayMachineModel" "frame" "I" ∈ WS := WS_mem 647 (by decide +kernel) (by decide +kernel)
set_option maxRecDepth 20000 in
theorem mw_611 : Cond.lays "ReplayMachineModel" "ReplayMachineModel" "x" "I" ∈ WS := WS_mem 649 (by decide +kernel) (by decide +kernel)
set_option maxRecDepth 20000 in
theorem mw_613 : Cond.lays "ReplayMachineModel" "ReplayMachineModel" "taken" "I" ∈ WS := WS_mem 651 (by decide +kernel) (by decide +kernel)
set_option maxRecDepth 20000 in
theorem mw_615 : Cond.lays "ReplayMachineModel" "ReplayMachineModel" "height" "I" ∈ WS := WS_mem 653 (by decide +kernel) (by decide +kernel)
set_option maxRecDepth 20000 in
theorem mw_617 : Cond.laysFinal "ReplayMachineModel" "ReplayMachineModel" "cells" "[I" ∈ WS := WS_mem 655 (by decide +kernel) (by decide +kernel)
set_option maxRecDepth 20000 in
theorem mw_619 : Cond.laysFinal "ReplayMachineModel" "ReplayMachineModel" "stack" "[I" ∈ WS := WS_mem 657 (by decide +kernel) (by decide +kernel)
set_option maxRecDepth 20000 in
theorem mw_621 : Cond.laysFinal "ReplayMachineModel" "ReplayMachineModel" "were" "[I" ∈ WS := WS_mem 659 (by decide +kernel) (by decide +kernel)
set_option maxRecDepth 20000 in
theorem mw_623 : Cond.laysFinal "ReplayMachineModel" "ReplayMachineModel" "markWords" "[I" ∈ WS := WS_mem 661 (by decide +kernel) (by decide +kernel)
set_option maxRecDepth 20000 in
theorem mw_625 : Cond.laysFinal "ReplayMachineModel" "ReplayMachineModel" "markOthers" "[I" ∈ WS := WS_mem 663 (by decide +kernel) (by decide +kernel)
set_option maxRecDepth 20000 in
theorem mw_627 : Cond.lays "ReplayMachineModel" "ReplayMachineModel" "reached" "I" ∈ WS := WS_mem 665 (by decide +kernel) (by decide +kernel)
set_option maxRecDepth 20000 in
theorem mw_629 : Cond.lays "ReplayMachineModel" "ReplayMachineModel" "undo" "I" ∈ WS := WS_mem 667 (by decide +kernel) (by decide +kernel)
set_option maxRecDepth 20000 in
theorem mw_631 : Cond.lays "ReplayMachineModel" "ReplayMachineModel" "cost" "I" ∈ WS := WS_mem 669 (by decide +kernel) (by decide +kernel)
set_option maxRecDepth 20000 in
theorem mw_633 : Cond.lays "ReplayMachineModel" "ReplayMachineModel" "every" "I" ∈ WS := WS_mem 671 (by decide +kernel) (by decide +kernel)
set_option maxRecDepth 20000 in
theorem mw_635 : Cond.lays "ReplayMachineModel" "ReplayMachineModel" "kept" "I" ∈ WS := WS_mem 673 (by decide +kernel) (by decide +kernel)
set_option maxRecDepth 20000 in
theorem mw_637 : Cond.laysFinal "ReplayMachineModel" "ReplayMachineModel" "keptAt" "[I" ∈ WS := WS_mem 675 (by decide +kernel) (by decide +kernel)
set_option maxRecDepth 20000 in
theorem in_Cp : ∀ w ∈ u_ws "ReplayMachine$Checkpoints" T_Cp 3, w ∈ WS := by
  intro w h
  have h2 : w ∈ ([.laysFinal "ReplayMachine$Checkpoints" "ReplayMachine$Checkpoints" "kept" "[LReplayMachine$State;", .lays "ReplayMachine$Checkpoints" "ReplayMachine$Checkpoints" "size" "I", .lays "ReplayMachine$Checkpoints" "ReplayMachine$Checkpoints" "every" "I"] : List Cond) := h
  simp only [List.mem_cons, List.not_mem_nil, or_false] at h2
  rcases h2 with rfl | rfl | rfl
  · exact mw_172
  · exact mw_174
  · exact mw_176
set_option maxRecDepth 20000 in
theorem in_Ma : ∀ w ∈ u_ws "ReplayMachine$Machine" T_Ma 6, w ∈ WS := by
  intro w h
  have h2 : w ∈ ([.laysFinal "ReplayMachine$Machine" "ReplayMachine$Machine" "code" "[I", .laysFinal "ReplayMachine$Machine" "ReplayMachine$Machine" "inputs" "[I", .laysFinal "ReplayMachine$Machine" "ReplayMachine$Machine" "now" "LReplayMachine$State;", .laysFinal "ReplayMachine$Machine" "ReplayMachine$Machine" "undo" "LReplayMachine$Undo;", .lays "ReplayMachine$Machine" "ReplayMachine$Machine" "inputCount" "I", .lays "ReplayMachine$Machine" "ReplayMachine$Machine" "note" "LReplayMachine$Note;"] : List Cond) := h
  simp only [List.mem_cons, List.not_mem_nil, or_false] at h2
  rcases h2 with rfl | rfl | rfl | rfl | rfl | rfl
  · exact mw_144
  · exact mw_146
  · exact mw_148
  · exact mw_150
  · exact mw_152
  · exact mw_154
set_option maxRecDepth 20000 in
theorem in_Nt : ∀ w ∈ u_ws "ReplayMachine$Note" T_Nt 10, w ∈ WS := by
  intro w h
  have h2 : w ∈ ([.lays "ReplayMachine$Note" "ReplayMachine$Registers" "time" "I", .lays "ReplayMachine$Note" "ReplayMachine$Registers" "pc" "I", .lays "ReplayMachine$Note" "ReplayMachine$Registers" "frame" "I", .lays "ReplayMachine$Note" "ReplayMachine$Registers" "x" "I", .lays "ReplayMachine$Note" "ReplayMachine$Registers" "taken" "I", .lays "ReplayMachine$Note" "ReplayMachine$Registers" "height" "I", .lays "ReplayMachine$Note" "ReplayMachine$Registers" "changed" "I", .laysFinal "ReplayMachine$Note" "ReplayMachine$Note" "places" "[I", .laysFinal "ReplayMachine$Note" "ReplayMachine$Note" "words" "[I", .lays "ReplayMachine$Note" "ReplayMachine$Note" "size" "I"] : List Cond) := h
  simp only [List.mem_cons, List.not_mem_nil, or_false] at h2
  rcases h2 with rfl | rfl | rfl | rfl | rfl | rfl | rfl | rfl | rfl | rfl
  · exact mw_115
  · exact mw_116
  · exact mw_117
  · exact mw_118
  · exact mw_119
  · exact mw_120
  · exact mw_121
  · exact mw_109
  · exact mw_111
  · exact mw_113
set_option maxRecDepth 20000 in
theorem in_St : ∀ w ∈ u_ws "ReplayMachine$State" T_St 8, w ∈ WS := by
  intro w h
  have h2 : w ∈ ([.lays "ReplayMachine$State" "ReplayMachine$Registers" "time" "I", .lays "ReplayMachine$State" "ReplayMachine$Registers" "pc" "I", .lays "ReplayMachine$State" "ReplayMachine$Registers" "frame" "I", .lays "ReplayMachine$State" "ReplayMachine$Registers" "x" "I", .lays "ReplayMachine$State" "ReplayMachine$Registers" "taken" "I", .lays "ReplayMachine$State" "ReplayMachine$Registers" "height" "I", .lays "ReplayMachine$State" "ReplayMachine$Registers" "changed" "I", .laysFinal "ReplayMachine$State" "ReplayMachine$State" "memory" "[I"] : List Cond) := h
  simp only [List.mem_cons, List.not_mem_nil, or_false] at h2
  rcases h2 with rfl | rfl | rfl | rfl | rfl | rfl | rfl | rfl
  · exact mw_77
  · exact mw_79
  · exact mw_81
  · exact mw_83
  · exact mw_85
  · exact mw_87
  · exact mw_89
  · exact mw_75
set_option maxRecDepth 20000 in
theorem in_Un : ∀ w ∈ u_ws "ReplayMachine$Undo" T_Un 3, w ∈ WS := by
  intro w h
  have h2 : w ∈ ([.laysFinal "ReplayMachine$Undo" "ReplayMachine$Undo" "notes" "[LReplayMachine$Note;", .lays "ReplayMachine$Undo" "ReplayMachine$Undo" "newest" "I", .lays "ReplayMachine$Undo" "ReplayMachine$Undo" "size" "I"] : List Cond) := h
  simp only [List.mem_cons, List.not_mem_nil, or_false] at h2
  rcases h2 with rfl | rfl | rfl
  · exact mw_128
  · exact mw_130
  · exact mw_132
set_option maxRecDepth 20000 in
theorem in_RM : ∀ w ∈ u_ws "ReplayMachine" T_RM 6, w ∈ WS := by
  intro w h
  have h2 : w ∈ ([.laysFinal "ReplayMachine" "ReplayMachine" "machine" "LReplayMachine$Machine;", .laysFinal "ReplayMachine" "ReplayMachine" "checkpoints" "LReplayMachine$Checkpoints;", .laysFinal "ReplayMachine" "ReplayMachine" "breaks" "[Z", .laysFinal "ReplayMachine" "ReplayMachine" "watches" "[Z", .lays "ReplayMachine" "ReplayMachine" "greatest" "I", .lays "ReplayMachine" "ReplayMachine" "cost" "I"] : List Cond) := h
  simp only [List.mem_cons, List.not_mem_nil, or_false] at h2
  rcases h2 with rfl | rfl | rfl | rfl | rfl | rfl
  · exact mw_185
  · exact mw_187
  · exact mw_189
  · exact mw_191
  · exact mw_193
  · exact mw_195
set_option maxRecDepth 20000 in
theorem in_Mo : ∀ w ∈ u_ws "ReplayMachineModel" T_Mo 23, w ∈ WS := by
  intro w h
  have h2 : w ∈ ([.laysFinal "ReplayMachineModel" "ReplayMachineModel" "program" "[I", .laysFinal "ReplayMachineModel" "ReplayMachineModel" "inputs" "[I", .laysFinal "ReplayMachineModel" "ReplayMachineModel" "breaks" "[Z", .laysFinal "ReplayMachineModel" "ReplayMachineModel" "watches" "[Z", .laysFinal "ReplayMachineModel" "ReplayMachineModel" "cells" "[I", .laysFinal "ReplayMachineModel" "ReplayMachineModel" "stack" "[I", .laysFinal "ReplayMachineModel" "ReplayMachineModel" "were" "[I", .laysFinal "ReplayMachineModel" "ReplayMachineModel" "markWords" "[I", .laysFinal "ReplayMachineModel" "ReplayMachineModel" "markOthers" "[I", .laysFinal "ReplayMachineModel" "ReplayMachineModel" "keptAt" "[I", .lays "ReplayMachineModel" "ReplayMachineModel" "code" "I", .lays "ReplayMachineModel" "ReplayMachineModel" "given" "I", .lays "ReplayMachineModel" "ReplayMachineModel" "time" "I", .lays "ReplayMachineModel" "ReplayMachineModel" "pc" "I", .lays "ReplayMachineModel" "ReplayMachineModel" "frame" "I", .lays "ReplayMachineModel" "ReplayMachineModel" "x" "I", .lays "ReplayMachineModel" "ReplayMachineModel" "taken" "I", .lays "ReplayMachineModel" "ReplayMachineModel" "height" "I", .lays "ReplayMachineModel" "ReplayMachineModel" "reached" "I", .lays "ReplayMachineModel" "ReplayMachineModel" "undo" "I", .lays "ReplayMachineModel" "ReplayMachineModel" "cost" "I", .lays "ReplayMachineModel" "ReplayMachineModel" "every" "I", .lays "ReplayMachineModel" "ReplayMachineModel" "kept" "I"] : List Cond) := h
  simp only [List.mem_cons, List.not_mem_nil, or_false] at h2
  rcases h2 with rfl | rfl | rfl | rfl | rfl | rfl | rfl | rfl | rfl | rfl | rfl | rfl | rfl | rfl | rfl | rfl | rfl | rfl | rfl | rfl | rfl | rfl | rfl
  · exact mw_595
  · exact mw_597
  · exact mw_601
  · exact mw_603
  · exact mw_617
  · exact mw_619
  · exact mw_621
  · exact mw_623
  · exact mw_625
  · exact mw_637
  · exact mw_593
  · exact mw_599
  · exact mw_605
  · exact mw_607
  · exact mw_609
  · exact mw_611
  · exact mw_613
  · exact mw_615
  · exact mw_627
  · exact mw_629
  · exact mw_631
  · exact mw_633
  · exact mw_635
