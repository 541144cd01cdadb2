/-! names: field tables, classes, methods; the words of the tables that stay, by their places -/
def WS : List Cond := lw_tbl.filter goodWord
theorem WS_mem {w : Cond} (i : Nat) (h : lw_tbl[i]? = some w) (hg : goodWord w = true) : w ∈ WS := List.mem_filter.mpr ⟨List.mem_of_getElem? h, hg⟩
theorem WS_ok : px_Ok WS := fun w h => good_of_word (List.mem_filter.mp h).2
theorem WS_hts {args : Array Value} {s : State} (h : ∀ w ∈ lw_tbl, w.before args s = true) : ∀ w ∈ WS, w.before args s = true := fun w hw => h w (List.mem_filter.mp hw).1
def T_Cp : u_T := fun k => match k with
  | 0 => ("ReplayMachine$Checkpoints", "kept", "[LReplayMachine$State;", true)
  | 1 => ("ReplayMachine$Checkpoints", "size", "I", false)
  | _ => ("ReplayMachine$Checkpoints", "every", "I", false)
def t_Cp : Nat → FieldType := fun k => match k with
  | 0 => .array (.object "ReplayMachine$State")
  | 1 => .int
  | _ => .int
theorem nm_Cp : ∀ a, a < 3 → ∀ b, b < 3 → a ≠ b → (T_Cp a).2.1 ≠ (T_Cp b).2.1 := by decide +kernel
theorem ty_Cp : ∀ k, k < 3 → parseFieldDescriptor (T_Cp k).2.2.1 = some (t_Cp k) := by decide +kernel
def T_Ma : u_T := fun k => match k with
  | 0 => ("ReplayMachine$Machine", "code", "[I", true)
  | 1 => ("ReplayMachine$Machine", "inputs", "[I", true)
  | 2 => ("ReplayMachine$Machine", "now", "LReplayMachine$State;", true)
  | 3 => ("ReplayMachine$Machine", "undo", "LReplayMachine$Undo;", true)
  | 4 => ("ReplayMachine$Machine", "inputCount", "I", false)
  | _ => ("ReplayMachine$Machine", "note", "LReplayMachine$Note;", false)
def t_Ma : Nat → FieldType := fun k => match k with
  | 0 => .array .int
  | 1 => .array .int
  | 2 => .object "ReplayMachine$State"
  | 3 => .object "ReplayMachine$Undo"
  | 4 => .int
  | _ => .object "ReplayMachine$Note"
theorem nm_Ma : ∀ a, a < 6 → ∀ b, b < 6 → a ≠ b → (T_Ma a).2.1 ≠ (T_Ma b).2.1 := by decide +kernel
theorem ty_Ma : ∀ k, k < 6 → parseFieldDescriptor (T_Ma k).2.2.1 = some (t_Ma k) := by decide +kernel
def T_Nt : u_T := fun k => match k with
  | 0 => ("ReplayMachine$Registers", "time", "I", false)
  | 1 => ("ReplayMachine$Registers", "pc", "I", false)
  | 2 => ("ReplayMachine$Registers", "frame", "I", false)
  | 3 => ("ReplayMachine$Registers", "x", "I", false)
  | 4 => ("ReplayMachine$Registers", "taken", "I", false)
  | 5 => ("ReplayMachine$Registers", "height", "I", false)
  | 6 => ("ReplayMachine$Registers", "changed", "I", false)
  | 7 => ("ReplayMachine$Note", "places", "[I", true)
  | 8 => ("ReplayMachine$Note", "words", "[I", true)
  | _ => ("ReplayMachine$Note", "size", "I", false)
def t_Nt : Nat → FieldType := fun k => match k with
  | 0 => .int
  | 1 => .int
  | 2 => .int
  | 3 => .int
  | 4 => .int
  | 5 => .int
  | 6 => .int
  | 7 => .array .int
  | 8 => .array .int
  | _ => .int
theorem nm_Nt : ∀ a, a < 10 → ∀ b, b < 10 → a ≠ b → (T_Nt a).2.1 ≠ (T_Nt b).2.1 := by decide +kernel
theorem ty_Nt : ∀ k, k < 10 → parseFieldDescriptor (T_Nt k).2.2.1 = some (t_Nt k) := by decide +kernel
def T_St : u_T := fun k => match k with
  | 0 => ("ReplayMachine$Registers", "time", "I", false)
  | 1 => ("ReplayMachine$Registers", "pc", "I", false)
  | 2 => ("ReplayMachine$Registers", "frame", "I", false)
  | 3 => ("ReplayMachine$Registers", "x", "I", false)
  | 4 => ("ReplayMachine$Registers", "taken", "I", false)
  | 5 => ("ReplayMachine$Registers", "height", "I", false)
  | 6 => ("ReplayMachine$Registers", "changed", "I", false)
  | _ => ("ReplayMachine$State", "memory", "[I", true)
def t_St : Nat → FieldType := fun k => match k with
  | 0 => .int
  | 1 => .int
  | 2 => .int
  | 3 => .int
  | 4 => .int
  | 5 => .int
  | 6 => .int
  | _ => .array .int
theorem nm_St : ∀ a, a < 8 → ∀ b, b < 8 → a ≠ b → (T_St a).2.1 ≠ (T_St b).2.1 := by decide +kernel
theorem ty_St : ∀ k, k < 8 → parseFieldDescriptor (T_St k).2.2.1 = some (t_St k) := by decide +kernel
def T_Un : u_T := fun k => match k with
  | 0 => ("ReplayMachine$Undo", "notes", "[LReplayMachine$Note;", true)
  | 1 => ("ReplayMachine$Undo", "newest", "I", false)
  | _ => ("ReplayMachine$Undo", "size", "I", false)
def t_Un : Nat → FieldType := fun k => match k with
  | 0 => .array (.object "ReplayMachine$Note")
  | 1 => .int
  | _ => .int
theorem nm_Un : ∀ a, a < 3 → ∀ b, b < 3 → a ≠ b → (T_Un a).2.1 ≠ (T_Un b).2.1 := by decide +kernel
theorem ty_Un : ∀ k, k < 3 → parseFieldDescriptor (T_Un k).2.2.1 = some (t_Un k) := by decide +kernel
def T_RM : u_T := fun k => match k with
  | 0 => ("ReplayMachine", "machine", "LReplayMachine$Machine;", true)
  | 1 => ("ReplayMachine", "checkpoints", "LReplayMachine$Checkpoints;", true)
  | 2 => ("ReplayMachine", "breaks", "[Z", true)
  | 3 => ("ReplayMachine", "watches", "[Z", true)
  | 4 => ("ReplayMachine", "greatest", "I", false)
  | _ => ("ReplayMachine", "cost", "I", false)
def t_RM : Nat → FieldType := fun k => match k with
  | 0 => .object "ReplayMachine$Machine"
  | 1 => .object "ReplayMachine$Checkpoints"
  | 2 => .array .boolean
  | 3 => .array .boolean
  | 4 => .int
  | _ => .int
theorem nm_RM : ∀ a, a < 6 → ∀ b, b < 6 → a ≠ b → (T_RM a).2.1 ≠ (T_RM b).2.1 := by decide +kernel
theorem ty_RM : ∀ k, k < 6 → parseFieldDescriptor (T_RM k).2.2.1 = some (t_RM k) := by decide +kernel
def T_Mo : u_T := fun k => match k with
  | 0 => ("ReplayMachineModel", "program", "[I", true)
  | 1 => ("ReplayMachineModel", "inputs", "[I", true)
  | 2 => ("ReplayMachineModel", "breaks", "[Z", true)
  | 3 => ("ReplayMachineModel", "watches", "[Z", true)
  | 4 => ("ReplayMachineModel", "cells", "[I", true)
  | 5 => ("ReplayMachineModel", "stack", "[I", true)
  | 6 => ("ReplayMachineModel", "were", "[I", true)
  | 7 => ("ReplayMachineModel", "markWords", "[I", true)
  | 8 => ("ReplayMachineModel", "markOthers", "[I", true)
  | 9 => ("ReplayMachineModel", "keptAt", "[I", true)
  | 10 => ("ReplayMachineModel", "code", "I", false)
  | 11 => ("ReplayMachineModel", "given", "I", false)
  | 12 => ("ReplayMachineModel", "time", "I", false)
  | 13 => ("ReplayMachineModel", "pc", "I", false)
  | 14 => ("ReplayMachineModel", "frame", "I", false)
  | 15 => ("ReplayMachineModel", "x", "I", false)
  | 16 => ("ReplayMachineModel", "taken", "I", false)
  | 17 => ("ReplayMachineModel", "height", "I", false)
  | 18 => ("ReplayMachineModel", "reached", "I", false)
  | 19 => ("ReplayMachineModel", "undo", "I", false)
  | 20 => ("ReplayMachineModel", "cost", "I", false)
  | 21 => ("ReplayMachineModel", "every", "I", false)
  | _ => ("ReplayMachineModel", "kept", "I", false)
def t_Mo : Nat → FieldType := fun k => match k with
  | 0 => .array .int
  | 1 => .array .int
  | 2 => .array .boolean
  | 3 => .array .boolean
  | 4 => .array .int
  | 5 => .array .int
  | 6 => .array .int
  | 7 => .array .int
  | 8 => .array .int
  | 9 => .array .int
  | 10 => .int
  | 11 => .int
  | 12 => .int
  | 13 => .int
  | 14 => .int
  | 15 => .int
  | 16 => .int
  | 17 => .int
  | 18 => .int
  | 19 => .int
  | 20 => .int
  | 21 => .int
  | _ => .int
theorem nm_Mo : ∀ a, a < 23 → ∀ b, b < 23 → a ≠ b → (T_Mo a).2.1 ≠ (T_Mo b).2.1 := by decide +kernel
theorem ty_Mo : ∀ k, k < 23 → parseFieldDescriptor (T_Mo k).2.2.1 = some (t_Mo k) := by decide +kernel
abbrev CLS : List vw_C := [("ReplayMachine$Checkpoints", T_Cp, 3), ("ReplayMachine$Machine", T_Ma, 6), ("ReplayMachine$Note", T_Nt, 10), ("ReplayMachine$State", T_St, 8), ("ReplayMachine$Undo", T_Un, 3), ("ReplayMachine", T_RM, 6), ("ReplayMachineModel", T_Mo, 23)]
abbrev b_RM_init : ByteArray := prog_1_method_1_code
def y_RM_init : MethodName := ⟨"ReplayMachine", "<init>", "(I)V"⟩
abbrev b_Ma_init : ByteArray := prog_3_method_1_code
def y_Ma_init : MethodName := ⟨"ReplayMachine$Machine", "<init>", "(I)V"⟩
abbrev b_St_init : ByteArray := prog_6_method_1_code
def y_St_init : MethodName := ⟨"ReplayMachine$State", "<init>", "(I)V"⟩
abbrev b_Rg_init : ByteArray := prog_5_method_1_code
def y_Rg_init : MethodName := ⟨"ReplayMachine$Registers", "<init>", "()V"⟩
abbrev b_Un_init : ByteArray := prog_7_method_1_code
def y_Un_init : MethodName := ⟨"ReplayMachine$Undo", "<init>", "()V"⟩
abbrev b_Nt_init : ByteArray := prog_4_method_1_code
def y_Nt_init : MethodName := ⟨"ReplayMachine$Note", "<init>", "()V"⟩
abbrev b_Cp_init : ByteArray := prog_2_method_1_code
def y_Cp_init : MethodName := ⟨"ReplayMachine$Checkpoints", "<init>", "(I)V"⟩
abbrev b_RM_input : ByteArray := prog_1_method_3_code
def y_RM_input : MethodName := ⟨"ReplayMachine", "input", "(I)I"⟩
abbrev b_Ma_addInput : ByteArray := prog_3_method_2_code
def y_Ma_addInput : MethodName := ⟨"ReplayMachine$Machine", "addInput", "(I)I"⟩
abbrev b_RM_step : ByteArray := prog_1_method_4_code
def y_RM_step : MethodName := ⟨"ReplayMachine", "step", "()I"⟩
abbrev b_RM_advance : ByteArray := prog_1_method_19_code
def y_RM_advance : MethodName := ⟨"ReplayMachine", "advance", "()I"⟩
abbrev b_Ma_obstacle : ByteArray := prog_3_method_3_code
def y_Ma_obstacle : MethodName := ⟨"ReplayMachine$Machine", "obstacle", "()I"⟩
abbrev b_RM_within : ByteArray := prog_1_method_16_code
def y_RM_within : MethodName := ⟨"ReplayMachine", "within", "(II)Z"⟩
abbrev b_Ma_hasTooFew : ByteArray := prog_3_method_4_code
def y_Ma_hasTooFew : MethodName := ⟨"ReplayMachine$Machine", "hasTooFew", "(II)Z"⟩
abbrev b_Ma_argumentPlace : ByteArray := prog_3_method_5_code
def y_Ma_argumentPlace : MethodName := ⟨"ReplayMachine$Machine", "argumentPlace", "(I)I"⟩
abbrev b_Ma_fromTop : ByteArray := prog_3_method_6_code
def y_Ma_fromTop : MethodName := ⟨"ReplayMachine$Machine", "fromTop", "(I)I"⟩
abbrev b_St_number : ByteArray := prog_6_method_3_code
def y_St_number : MethodName := ⟨"ReplayMachine$State", "number", "(I)I"⟩
abbrev b_Ma_perform : ByteArray := prog_3_method_7_code
def y_Ma_perform : MethodName := ⟨"ReplayMachine$Machine", "perform", "()V"⟩
abbrev b_Un_begin : ByteArray := prog_7_method_2_code
def y_Un_begin : MethodName := ⟨"ReplayMachine$Undo", "begin", "(LReplayMachine$State;)LReplayMachine$Note;"⟩
abbrev b_Nt_begin : ByteArray := prog_4_method_2_code
def y_Nt_begin : MethodName := ⟨"ReplayMachine$Note", "begin", "(LReplayMachine$State;)V"⟩
abbrev b_Rg_copyRegisters : ByteArray := prog_5_method_2_code
def y_Rg_copyRegisters : MethodName := ⟨"ReplayMachine$Registers", "copyRegisters", "(LReplayMachine$Registers;)V"⟩
abbrev b_Ma_push : ByteArray := prog_3_method_9_code
def y_Ma_push : MethodName := ⟨"ReplayMachine$Machine", "push", "(I)V"⟩
abbrev b_Ma_put : ByteArray := prog_3_method_8_code
def y_Ma_put : MethodName := ⟨"ReplayMachine$Machine", "put", "(II)V"⟩
abbrev b_Nt_keepWord : ByteArray := prog_4_method_3_code
def y_Nt_keepWord : MethodName := ⟨"ReplayMachine$Note", "keepWord", "(II)V"⟩
abbrev b_Ma_exchange : ByteArray := prog_3_method_11_code
def y_Ma_exchange : MethodName := ⟨"ReplayMachine$Machine", "exchange", "()V"⟩
abbrev b_Ma_result : ByteArray := prog_3_method_12_code
def y_Ma_result : MethodName := ⟨"ReplayMachine$Machine", "result", "(III)I"⟩
abbrev b_Ma_replaceTwo : ByteArray := prog_3_method_10_code
def y_Ma_replaceTwo : MethodName := ⟨"ReplayMachine$Machine", "replaceTwo", "(I)V"⟩
abbrev b_Ma_load : ByteArray := prog_3_method_13_code
def y_Ma_load : MethodName := ⟨"ReplayMachine$Machine", "load", "()V"⟩
abbrev b_Ma_store : ByteArray := prog_3_method_14_code
def y_Ma_store : MethodName := ⟨"ReplayMachine$Machine", "store", "()V"⟩
abbrev b_Ma_jumpIf : ByteArray := prog_3_method_15_code
def y_Ma_jumpIf : MethodName := ⟨"ReplayMachine$Machine", "jumpIf", "(ZI)V"⟩
abbrev b_Ma_enter : ByteArray := prog_3_method_16_code
def y_Ma_enter : MethodName := ⟨"ReplayMachine$Machine", "enter", "(I)V"⟩
abbrev b_Ma_leave : ByteArray := prog_3_method_17_code
def y_Ma_leave : MethodName := ⟨"ReplayMachine$Machine", "leave", "()V"⟩
abbrev b_Ma_takeInput : ByteArray := prog_3_method_18_code
def y_Ma_takeInput : MethodName := ⟨"ReplayMachine$Machine", "takeInput", "()V"⟩
abbrev b_Ma_pushRandom : ByteArray := prog_3_method_19_code
def y_Ma_pushRandom : MethodName := ⟨"ReplayMachine$Machine", "pushRandom", "(I)V"⟩
abbrev b_Cp_offer : ByteArray := prog_2_method_2_code
def y_Cp_offer : MethodName := ⟨"ReplayMachine$Checkpoints", "offer", "(LReplayMachine$State;)V"⟩
abbrev b_Cp_isMultiple : ByteArray := prog_2_method_3_code
def y_Cp_isMultiple : MethodName := ⟨"ReplayMachine$Checkpoints", "isMultiple", "(I)Z"⟩
abbrev b_Cp_thinOut : ByteArray := prog_2_method_4_code
def y_Cp_thinOut : MethodName := ⟨"ReplayMachine$Checkpoints", "thinOut", "()V"⟩
abbrev b_St_copyState : ByteArray := prog_6_method_2_code
def y_St_copyState : MethodName := ⟨"ReplayMachine$State", "copyState", "(LReplayMachine$State;)V"⟩
abbrev b_RM_cell : ByteArray := prog_1_method_13_code
def y_RM_cell : MethodName := ⟨"ReplayMachine", "cell", "(I)I"⟩
abbrev b_La_cell : ByteArray := method_2_code
def y_La_cell : MethodName := ⟨"ReplayMachineLaw", "cell", "([II)I"⟩
abbrev b_La_poke : ByteArray := method_3_code
def y_La_poke : MethodName := ⟨"ReplayMachineLaw", "poke", "(LReplayMachine;II)I"⟩
abbrev b_RM_poke : ByteArray := prog_1_method_2_code
def y_RM_poke : MethodName := ⟨"ReplayMachine", "poke", "(II)V"⟩
abbrev b_La_forth : ByteArray := method_4_code
def y_La_forth : MethodName := ⟨"ReplayMachineLaw", "forth", "(LReplayMachine;I[J)I"⟩
abbrev b_RM_forth : ByteArray := prog_1_method_5_code
def y_RM_forth : MethodName := ⟨"ReplayMachine", "forth", "(I)I"⟩
abbrev b_RM_isFuel : ByteArray := prog_1_method_17_code
def y_RM_isFuel : MethodName := ⟨"ReplayMachine", "isFuel", "(I)Z"⟩
abbrev b_RM_stopHere : ByteArray := prog_1_method_20_code
def y_RM_stopHere : MethodName := ⟨"ReplayMachine", "stopHere", "()I"⟩
abbrev b_La_back : ByteArray := method_5_code
def y_La_back : MethodName := ⟨"ReplayMachineLaw", "back", "(LReplayMachine;I[J)I"⟩
abbrev b_RM_back : ByteArray := prog_1_method_6_code
def y_RM_back : MethodName := ⟨"ReplayMachine", "back", "(I)I"⟩
abbrev b_RM_travel : ByteArray := prog_1_method_21_code
def y_RM_travel : MethodName := ⟨"ReplayMachine", "travel", "(I)V"⟩
abbrev b_Un_takeBack : ByteArray := prog_7_method_3_code
def y_Un_takeBack : MethodName := ⟨"ReplayMachine$Undo", "takeBack", "(ILReplayMachine$State;)V"⟩
abbrev b_Nt_restore : ByteArray := prog_4_method_4_code
def y_Nt_restore : MethodName := ⟨"ReplayMachine$Note", "restore", "(LReplayMachine$State;)V"⟩
abbrev b_Cp_latestUpTo : ByteArray := prog_2_method_5_code
def y_Cp_latestUpTo : MethodName := ⟨"ReplayMachine$Checkpoints", "latestUpTo", "(I)LReplayMachine$State;"⟩
abbrev b_La_go : ByteArray := method_6_code
def y_La_go : MethodName := ⟨"ReplayMachineLaw", "go", "(LReplayMachine;I)I"⟩
abbrev b_RM_go : ByteArray := prog_1_method_7_code
def y_RM_go : MethodName := ⟨"ReplayMachine", "go", "(I)V"⟩
abbrev b_La_setBreak : ByteArray := method_7_code
def y_La_setBreak : MethodName := ⟨"ReplayMachineLaw", "setBreak", "(LReplayMachine;I[J)I"⟩
abbrev b_RM_setBreak : ByteArray := prog_1_method_8_code
def y_RM_setBreak : MethodName := ⟨"ReplayMachine", "setBreak", "(I)Z"⟩
abbrev b_RM_mark : ByteArray := prog_1_method_18_code
def y_RM_mark : MethodName := ⟨"ReplayMachine", "mark", "([ZIZ)Z"⟩
abbrev b_La_clearBreak : ByteArray := method_8_code
def y_La_clearBreak : MethodName := ⟨"ReplayMachineLaw", "clearBreak", "(LReplayMachine;I[J)I"⟩
abbrev b_RM_clearBreak : ByteArray := prog_1_method_9_code
def y_RM_clearBreak : MethodName := ⟨"ReplayMachine", "clearBreak", "(I)Z"⟩
abbrev b_La_setWatch : ByteArray := method_9_code
def y_La_setWatch : MethodName := ⟨"ReplayMachineLaw", "setWatch", "(LReplayMachine;I[J)I"⟩
abbrev b_RM_setWatch : ByteArray := prog_1_method_10_code
def y_RM_setWatch : MethodName := ⟨"ReplayMachine", "setWatch", "(I)Z"⟩
abbrev b_La_clearWatch : ByteArray := method_10_code
def y_La_clearWatch : MethodName := ⟨"ReplayMachineLaw", "clearWatch", "(LReplayMachine;I[J)I"⟩
abbrev b_RM_clearWatch : ByteArray := prog_1_method_11_code
def y_RM_clearWatch : MethodName := ⟨"ReplayMachine", "clearWatch", "(I)Z"⟩
abbrev b_La_state : ByteArray := method_11_code
def y_La_state : MethodName := ⟨"ReplayMachineLaw", "state", "(LReplayMachine;I[J)I"⟩
abbrev b_RM_state : ByteArray := prog_1_method_12_code
def y_RM_state : MethodName := ⟨"ReplayMachine", "state", "(I)I"⟩
abbrev b_La_stack : ByteArray := method_12_code
def y_La_stack : MethodName := ⟨"ReplayMachineLaw", "stack", "(LReplayMachine;I[J)I"⟩
abbrev b_RM_stack : ByteArray := prog_1_method_14_code
def y_RM_stack : MethodName := ⟨"ReplayMachine", "stack", "(I)I"⟩
abbrev b_La_checkpoint : ByteArray := method_13_code
def y_La_checkpoint : MethodName := ⟨"ReplayMachineLaw", "checkpoint", "(LReplayMachine;I[J)I"⟩
abbrev b_RM_checkpoint : ByteArray := prog_1_method_15_code
def y_RM_checkpoint : MethodName := ⟨"ReplayMachine", "checkpoint", "(I)I"⟩
abbrev b_Mo_init : ByteArray := prog_9_method_1_code
def y_Mo_init : MethodName := ⟨"ReplayMachineModel", "<init>", "(I)V"⟩
abbrev b_Mo_mark : ByteArray := prog_9_method_6_code
def y_Mo_mark : MethodName := ⟨"ReplayMachineModel", "mark", "()V"⟩
abbrev b_Mo_thrown : ByteArray := prog_9_method_2_code
def y_Mo_thrown : MethodName := ⟨"ReplayMachineModel", "thrown", "()I"⟩
abbrev b_Mo_poke : ByteArray := prog_9_method_4_code
def y_Mo_poke : MethodName := ⟨"ReplayMachineModel", "poke", "(II)V"⟩
abbrev b_Mo_input : ByteArray := prog_9_method_5_code
def y_Mo_input : MethodName := ⟨"ReplayMachineModel", "input", "(I)I"⟩
abbrev b_Mo_step : ByteArray := prog_9_method_22_code
def y_Mo_step : MethodName := ⟨"ReplayMachineModel", "step", "()I"⟩
abbrev b_Mo_advance : ByteArray := prog_9_method_20_code
def y_Mo_advance : MethodName := ⟨"ReplayMachineModel", "advance", "()I"⟩
abbrev b_Mo_check : ByteArray := prog_9_method_11_code
def y_Mo_check : MethodName := ⟨"ReplayMachineModel", "check", "()I"⟩
abbrev b_Mo_needs : ByteArray := prog_9_method_8_code
def y_Mo_needs : MethodName := ⟨"ReplayMachineModel", "needs", "(I)I"⟩
abbrev b_Mo_isArgument : ByteArray := prog_9_method_10_code
def y_Mo_isArgument : MethodName := ⟨"ReplayMachineModel", "isArgument", "(I)Z"⟩
abbrev b_Mo_grows : ByteArray := prog_9_method_9_code
def y_Mo_grows : MethodName := ⟨"ReplayMachineModel", "grows", "(I)I"⟩
abbrev b_Mo_perform : ByteArray := prog_9_method_19_code
def y_Mo_perform : MethodName := ⟨"ReplayMachineModel", "perform", "()V"⟩
abbrev b_Mo_push : ByteArray := prog_9_method_12_code
def y_Mo_push : MethodName := ⟨"ReplayMachineModel", "push", "(I)V"⟩
abbrev b_Mo_pop : ByteArray := prog_9_method_13_code
def y_Mo_pop : MethodName := ⟨"ReplayMachineModel", "pop", "()I"⟩
abbrev b_Mo_branch : ByteArray := prog_9_method_15_code
def y_Mo_branch : MethodName := ⟨"ReplayMachineModel", "branch", "(II)V"⟩
abbrev b_Mo_call : ByteArray := prog_9_method_17_code
def y_Mo_call : MethodName := ⟨"ReplayMachineModel", "call", "(I)V"⟩
abbrev b_Mo_giveBack : ByteArray := prog_9_method_16_code
def y_Mo_giveBack : MethodName := ⟨"ReplayMachineModel", "giveBack", "()V"⟩
abbrev b_Mo_draw : ByteArray := prog_9_method_18_code
def y_Mo_draw : MethodName := ⟨"ReplayMachineModel", "draw", "(I)I"⟩
abbrev b_Mo_reckon : ByteArray := prog_9_method_14_code
def y_Mo_reckon : MethodName := ⟨"ReplayMachineModel", "reckon", "(III)I"⟩
abbrev b_Mo_grow : ByteArray := prog_9_method_21_code
def y_Mo_grow : MethodName := ⟨"ReplayMachineModel", "grow", "()V"⟩
abbrev b_Mo_forth : ByteArray := prog_9_method_25_code
def y_Mo_forth : MethodName := ⟨"ReplayMachineModel", "forth", "(I)I"⟩
abbrev b_Mo_remember : ByteArray := prog_9_method_23_code
def y_Mo_remember : MethodName := ⟨"ReplayMachineModel", "remember", "()V"⟩
abbrev b_Mo_stop : ByteArray := prog_9_method_24_code
def y_Mo_stop : MethodName := ⟨"ReplayMachineModel", "stop", "()I"⟩
abbrev b_Mo_go : ByteArray := prog_9_method_27_code
def y_Mo_go : MethodName := ⟨"ReplayMachineModel", "go", "(I)V"⟩
abbrev b_Mo_account : ByteArray := prog_9_method_26_code
def y_Mo_account : MethodName := ⟨"ReplayMachineModel", "account", "(I)V"⟩
abbrev b_Mo_seek : ByteArray := prog_9_method_7_code
def y_Mo_seek : MethodName := ⟨"ReplayMachineModel", "seek", "(I)V"⟩
abbrev b_Mo_back : ByteArray := prog_9_method_29_code
def y_Mo_back : MethodName := ⟨"ReplayMachineModel", "back", "(I)I"⟩
abbrev b_Mo_backOne : ByteArray := prog_9_method_28_code
def y_Mo_backOne : MethodName := ⟨"ReplayMachineModel", "backOne", "()I"⟩
abbrev b_Mo_setBreak : ByteArray := prog_9_method_31_code
def y_Mo_setBreak : MethodName := ⟨"ReplayMachineModel", "setBreak", "(I)Z"⟩
abbrev b_Mo_outside : ByteArray := prog_9_method_30_code
def y_Mo_outside : MethodName := ⟨"ReplayMachineModel", "outside", "(II)Z"⟩
abbrev b_Mo_clearBreak : ByteArray := prog_9_method_32_code
def y_Mo_clearBreak : MethodName := ⟨"ReplayMachineModel", "clearBreak", "(I)Z"⟩
abbrev b_Mo_setWatch : ByteArray := prog_9_method_33_code
def y_Mo_setWatch : MethodName := ⟨"ReplayMachineModel", "setWatch", "(I)Z"⟩
abbrev b_Mo_clearWatch : ByteArray := prog_9_method_34_code
def y_Mo_clearWatch : MethodName := ⟨"ReplayMachineModel", "clearWatch", "(I)Z"⟩
abbrev b_Mo_state : ByteArray := prog_9_method_35_code
def y_Mo_state : MethodName := ⟨"ReplayMachineModel", "state", "(I)I"⟩
abbrev b_Mo_fail : ByteArray := prog_9_method_3_code
def y_Mo_fail : MethodName := ⟨"ReplayMachineModel", "fail", "(I)I"⟩
abbrev b_Mo_cell : ByteArray := prog_9_method_36_code
def y_Mo_cell : MethodName := ⟨"ReplayMachineModel", "cell", "(I)I"⟩
abbrev b_Mo_stack : ByteArray := prog_9_method_37_code
def y_Mo_stack : MethodName := ⟨"ReplayMachineModel", "stack", "(I)I"⟩
abbrev b_Mo_checkpoint : ByteArray := prog_9_method_38_code
def y_Mo_checkpoint : MethodName := ⟨"ReplayMachineModel", "checkpoint", "(I)I"⟩
set_option maxRecDepth 20000 in
theorem mw_0 : Cond.initialized "ReplayMachineLaw" ∈ WS := WS_mem 38 (by decide +kernel) (by decide +kernel)
set_option maxRecDepth 20000 in
theorem mw_1 : Cond.initialized "ReplayMachine" ∈ WS := WS_mem 39 (by decide +kernel) (by decide +kernel)
set_option maxRecDepth 20000 in
theorem mw_2 : Cond.initialized "ReplayMachine$Machine" ∈ WS := WS_mem 40 (by decide +kernel) (by decide +kernel)
set_option maxRecDepth 20000 in
theorem mw_3 : Cond.initialized "ReplayMachine$Registers" ∈ WS := WS_mem 41 (by decide +kernel) (by decide +kernel)
set_option maxRecDepth 20000 in
theorem mw_4 : Cond.initialized "ReplayMachine$State" ∈ WS := WS_mem 42 (by decide +kernel) (by decide +kernel)
set_option maxRecDepth 20000 in
theorem mw_5 : Cond.initialized "ReplayMachine$Undo" ∈ WS := WS_mem 43 (by decide +kernel) (by decide +kernel)
set_option maxRecDepth 20000 in
theorem mw_6 : Cond.initialized "ReplayMachine$Note" ∈ WS := WS_mem 44 (by decide +kernel) (by decide +kernel)
set_option maxRecDepth 20000 in
theorem mw_7 : Cond.initialized "ReplayMachine$Checkpoints" ∈ WS := WS_mem 45 (by decide +kernel) (by decide +kernel)
set_option maxRecDepth 20000 in
theorem mw_8 : Cond.initialized "ReplayMachineModel" ∈ WS := WS_mem 46 (by decide +kernel) (by decide +kernel)
set_option maxRecDepth 20000 in
theorem mw_9 : Cond.initialized "java/lang/Throwable" ∈ WS := WS_mem 47 (by decide +kernel) (by decide +kernel)
set_option maxRecDepth 20000 in
theorem mw_10 : Cond.initialized "java/lang/Exception" ∈ WS := WS_mem 48 (by decide +kernel) (by decide +kernel)
set_option maxRecDepth 20000 in
theorem mw_11 : Cond.initialized "java/lang/RuntimeException" ∈ WS := WS_mem 49 (by decide +kernel) (by decide +kernel)
set_option maxRecDepth 20000 in
theorem mw_12 : Cond.initialized "java/lang/IndexOutOfBoundsException" ∈ WS := WS_mem 50 (by decide +kernel) (by decide +kernel)
set_option maxRecDepth 20000 in
theorem mw_13 : Cond.initialized "java/lang/IllegalStateException" ∈ WS := WS_mem 51 (by decide +kernel) (by decide +kernel)
set_option maxRecDepth 20000 in
theorem mw_14 : Cond.initialized "java/lang/Math" ∈ WS := WS_mem 52 (by decide +kernel) (by decide +kernel)
set_option maxRecDepth 20000 in
theorem mw_15 : Cond.initialized "java/lang/System" ∈ WS := WS_mem 53 (by decide +kernel) (by decide +kernel)
set_option maxRecDepth 20000 in
theorem mw_16 : Cond.initialized "java/lang/IllegalArgumentException" ∈ WS := WS_mem 54 (by decide +kernel) (by decide +kernel)
set_option maxRecDepth 20000 in
theorem mw_17 : Cond.classLink "ReplayMachineLaw" 8 "ReplayMachine" ∈ WS := WS_mem 55 (by decide +kernel) (by decide +kernel)
set_option maxRecDepth 20000 in
theorem mw_18 : Cond.instantiable "ReplayMachine" 6 ∈ WS := WS_mem 56 (by decide +kernel) (by decide +kernel)
set_option maxRecDepth 20000 in
theorem mw_19 : Cond.methodLink "ReplayMachineLaw" 58 y_RM_init ∈ WS := WS_mem 57 (by decide +kernel) (by decide +kernel)
set_option maxRecDepth 20000 in
theorem mw_20 : Cond.instanceMethod y_RM_init ∈ WS := WS_mem 58 (by decide +kernel) (by decide +kernel)
set_option maxRecDepth 20000 in
theorem mw_21 : Cond.code y_RM_init prog_1_method_1_code 2 none ∈ WS := WS_mem 59 (by decide +kernel) (by decide +kernel)
set_option maxRecDepth 20000 in
theorem mw_22 : Cond.methodLink "ReplayMachine" 3 (⟨"java/lang/Object", "<init>", "()V"⟩ : MethodName) ∈ WS := WS_mem 60 (by decide +kernel) (by decide +kernel)
set_option maxRecDepth 20000 in
theorem mw_23 : Cond.instanceMethod (⟨"java/lang/Object", "<init>", "()V"⟩ : MethodName) ∈ WS := WS_mem 61 (by decide +kernel) (by decide +kernel)
set_option maxRecDepth 20000 in
theorem mw_24 : Cond.code (⟨"java/lang/Object", "<init>", "()V"⟩ : MethodName) object_method_1_code 1 none ∈ WS := WS_mem 62 (by decide +kernel) (by decide +kernel)
set_option maxRecDepth 20000 in
theorem mw_25 : Cond.classLink "ReplayMachine" 9 "ReplayMachine$Machine" ∈ WS := WS_mem 63 (by decide +kernel) (by decide +kernel)
set_option maxRecDepth 20000 in
theorem mw_26 : Cond.instantiable "ReplayMachine$Machine" 6 ∈ WS := WS_mem 64 (by decide +kernel) (by decide +kernel)
set_option maxRecDepth 20000 in
theorem mw_27 : Cond.methodLink "ReplayMachine" 11 y_Ma_init ∈ WS := WS_mem 65 (by decide +kernel) (by decide +kernel)
set_option maxRecDepth 20000 in
theorem mw_28 : Cond.instanceMethod y_Ma_init ∈ WS := WS_mem 66 (by decide +kernel) (by decide +kernel)
set_option maxRecDepth 20000 in
theorem mw_29 : Cond.code y_Ma_init prog_3_method_1_code 2 none ∈ WS := WS_mem 67 (by decide +kernel) (by decide +kernel)
set_option maxRecDepth 20000 in
theorem mw_30 : Cond.methodLink "ReplayMachine$Machine" 3 (⟨"java/lang/Object", "<init>", "()V"⟩ : MethodName) ∈ WS := WS_mem 68 (by decide +kernel) (by decide +kernel)
set_option maxRecDepth 20000 in
theorem mw_31 : Cond.classLink "ReplayMachine$Machine" 18 "ReplayMachine$State" ∈ WS := WS_mem 69 (by decide +kernel) (by decide +kernel)
set_option maxRecDepth 20000 in
theorem mw_32 : Cond.instantiable "ReplayMachine$State" 8 ∈ WS := WS_mem 70 (by decide +kernel) (by decide +kernel)
set_option maxRecDepth 20000 in
theorem mw_33 : Cond.methodLink "ReplayMachine$Machine" 20 y_St_init ∈ WS := WS_mem 71 (by decide +kernel) (by decide +kernel)
set_option maxRecDepth 20000 in
theorem mw_34 : Cond.instanceMethod y_St_init ∈ WS := WS_mem 72 (by decide +kernel) (by decide +kernel)
set_option maxRecDepth 20000 in
theorem mw_35 : Cond.code y_St_init prog_6_method_1_code 2 none ∈ WS := WS_mem 73 (by decide +kernel) (by decide +kernel)
set_option maxRecDepth 20000 in
theorem mw_37 : Cond.instanceMethod y_Rg_init ∈ WS := WS_mem 75 (by decide +kernel) (by decide +kernel)
set_option maxRecDepth 20000 in
theorem mw_38 : Cond.code y_Rg_init prog_5_method_1_code 1 none ∈ WS := WS_mem 76 (by decide +kernel) (by decide +kernel)
set_option maxRecDepth 20000 in
theorem mw_39 : Cond.methodLink "ReplayMachine$Registers" 1 (⟨"java/lang/Object", "<init>", "()V"⟩ : MethodName) ∈ WS := WS_mem 77 (by decide +kernel) (by decide +kernel)
set_option maxRecDepth 20000 in
theorem mw_40 : Cond.fieldLink "ReplayMachine$State" 18 "ReplayMachine$State" "memory" "[I" ∈ WS := WS_mem 78 (by decide +kernel) (by decide +kernel)
set_option maxRecDepth 20000 in
theorem mw_41 : Cond.fieldLink "ReplayMachine$Note" 24 "ReplayMachine$State" "memory" "[I" ∈ WS := WS_mem 79 (by decide +kernel) (by decide +kernel)
set_option maxRecDepth 20000 in
theorem mw_42 : Cond.fieldLink "ReplayMachine$Machine" 126 "ReplayMachine$State" "memory" "[I" ∈ WS := WS_mem 80 (by decide +kernel) (by decide +kernel)
set_option maxRecDepth 20000 in
theorem mw_43 : Cond.fieldLink "ReplayMachine" 129 "ReplayMachine$State" "memory" "[I" ∈ WS := WS_mem 81 (by decide +kernel) (by decide +kernel)
set_option maxRecDepth 20000 in
theorem mw_44 : Cond.fieldLink "ReplayMachine$Registers" 7 "ReplayMachine$Registers" "time" "I" ∈ WS := WS_mem 82 (by decide +kernel) (by decide +kernel)
set_option maxRecDepth 20000 in
theorem mw_45 : Cond.fieldLink "ReplayMachine$Checkpoints" 27 "ReplayMachine$State" "time" "I" ∈ WS := WS_mem 83 (by decide +kernel) (by decide +kernel)
set_option maxRecDepth 20000 in
theorem mw_46 : Cond.sameField "ReplayMachine$State" "ReplayMachine$Registers" "time" "I" ∈ WS := WS_mem 84 (by decide +kernel) (by decide +kernel)
set_option maxRecDepth 20000 in
theorem mw_47 : Cond.fieldLink "ReplayMachine" 83 "ReplayMachine$State" "time" "I" ∈ WS := WS_mem 85 (by decide +kernel) (by decide +kernel)
set_option maxRecDepth 20000 in
theorem mw_48 : Cond.fieldLink "ReplayMachine$Machine" 85 "ReplayMachine$State" "time" "I" ∈ WS := WS_mem 86 (by decide +kernel) (by decide +kernel)
set_option maxRecDepth 20000 in
theorem mw_49 : Cond.fieldLink "ReplayMachine$Registers" 13 "ReplayMachine$Registers" "pc" "I" ∈ WS := WS_mem 87 (by decide +kernel) (by decide +kernel)
set_option maxRecDepth 20000 in
theorem mw_50 : Cond.fieldLink "ReplayMachine$Machine" 46 "ReplayMachine$State" "pc" "I" ∈ WS := WS_mem 88 (by decide +kernel) (by decide +kernel)
set_option maxRecDepth 20000 in
theorem mw_51 : Cond.sameField "ReplayMachine$State" "ReplayMachine$Registers" "pc" "I" ∈ WS := WS_mem 89 (by decide +kernel) (by decide +kernel)
set_option maxRecDepth 20000 in
theorem mw_52 : Cond.fieldLink "ReplayMachine" 99 "ReplayMachine$State" "pc" "I" ∈ WS := WS_mem 90 (by decide +kernel) (by decide +kernel)
set_option maxRecDepth 20000 in
theorem mw_53 : Cond.fieldLink "ReplayMachine$Registers" 16 "ReplayMachine$Registers" "frame" "I" ∈ WS := WS_mem 91 (by decide +kernel) (by decide +kernel)
set_option maxRecDepth 20000 in
theorem mw_54 : Cond.fieldLink "ReplayMachine$Machine" 69 "ReplayMachine$State" "frame" "I" ∈ WS := WS_mem 92 (by decide +kernel) (by decide +kernel)
set_option maxRecDepth 20000 in
theorem mw_55 : Cond.sameField "ReplayMachine$State" "ReplayMachine$Registers" "frame" "I" ∈ WS := WS_mem 93 (by decide +kernel) (by decide +kernel)
set_option maxRecDepth 20000 in
theorem mw_56 : Cond.fieldLink "ReplayMachine" 102 "ReplayMachine$State" "frame" "I" ∈ WS := WS_mem 94 (by decide +kernel) (by decide +kernel)
set_option maxRecDepth 20000 in
theorem mw_57 : Cond.fieldLink "ReplayMachine$State" 9 "ReplayMachine$State" "x" "I" ∈ WS := WS_mem 95 (by decide +kernel) (by decide +kernel)
set_option maxRecDepth 20000 in
theorem mw_58 : Cond.sameField "ReplayMachine$State" "ReplayMachine$Registers" "x" "I" ∈ WS := WS_mem 96 (by decide +kernel) (by decide +kernel)
set_option maxRecDepth 20000 in
theorem mw_59 : Cond.fieldLink "ReplayMachine$Registers" 19 "ReplayMachine$Registers" "x" "I" ∈ WS := WS_mem 97 (by decide +kernel) (by decide +kernel)
set_option maxRecDepth 20000 in
theorem mw_60 : Cond.fieldLink "ReplayMachine" 105 "ReplayMachine$State" "x" "I" ∈ WS := WS_mem 98 (by decide +kernel) (by decide +kernel)
set_option maxRecDepth 20000 in
theorem mw_61 : Cond.fieldLink "ReplayMachine$Machine" 139 "ReplayMachine$State" "x" "I" ∈ WS := WS_mem 99 (by decide +kernel) (by decide +kernel)
set_option maxRecDepth 20000 in
theorem mw_62 : Cond.fieldLink "ReplayMachine$Registers" 22 "ReplayMachine$Registers" "taken" "I" ∈ WS := WS_mem 100 (by decide +kernel) (by decide +kernel)
set_option maxRecDepth 20000 in
theorem mw_63 : Cond.fieldLink "ReplayMachine$Machine" 60 "ReplayMachine$State" "taken" "I" ∈ WS := WS_mem 101 (by decide +kernel) (by decide +kernel)
set_option maxRecDepth 20000 in
theorem mw_64 : Cond.sameField "ReplayMachine$State" "ReplayMachine$Registers" "taken" "I" ∈ WS := WS_mem 102 (by decide +kernel) (by decide +kernel)
set_option maxRecDepth 20000 in
theorem mw_65 : Cond.fieldLink "ReplayMachine" 108 "ReplayMachine$State" "taken" "I" ∈ WS := WS_mem 103 (by decide +kernel) (by decide +kernel)
set_option maxRecDepth 20000 in
theorem mw_66 : Cond.fieldLink "ReplayMachine$Registers" 25 "ReplayMachine$Registers" "height" "I" ∈ WS := WS_mem 104 (by decide +kernel) (by decide +kernel)
set_option maxRecDepth 20000 in
theorem mw_67 : Cond.fieldLink "ReplayMachine$Machine" 63 "ReplayMachine$State" "height" "I" ∈ WS := WS_mem 105 (by decide +kernel) (by decide +kernel)
set_option maxRecDepth 20000 in
theorem mw_68 : Cond.sameField "ReplayMachine$State" "ReplayMachine$Registers" "height" "I" ∈ WS := WS_mem 106 (by decide +kernel) (by decide +kernel)
set_option maxRecDepth 20000 in
theorem mw_69 : Cond.fieldLink "ReplayMachine" 111 "ReplayMachine$State" "height" "I" ∈ WS := WS_mem 107 (by decide +kernel) (by decide +kernel)
set_option maxRecDepth 20000 in
theorem mw_70 : Cond.fieldLink "ReplayMachine$State" 15 "ReplayMachine$State" "changed" "I" ∈ WS := WS_mem 108 (by decide +kernel) (by decide +kernel)
set_option maxRecDepth 20000 in
theorem mw_71 : Cond.sameField "ReplayMachine$State" "ReplayMachine$Registers" "changed" "I" ∈ WS := WS_mem 109 (by decide +kernel) (by decide +kernel)
set_option maxRecDepth 20000 in
theorem mw_72 : Cond.fieldLink "ReplayMachine$Registers" 28 "ReplayMachine$Registers" "changed" "I" ∈ WS := WS_mem 110 (by decide +kernel) (by decide +kernel)
set_option maxRecDepth 20000 in
theorem mw_73 : Cond.fieldLink "ReplayMachine$Machine" 88 "ReplayMachine$State" "changed" "I" ∈ WS := WS_mem 111 (by decide +kernel) (by decide +kernel)
set_option maxRecDepth 20000 in
theorem mw_74 : Cond.fieldLink "ReplayMachine" 153 "ReplayMachine$State" "changed" "I" ∈ WS := WS_mem 112 (by decide +kernel) (by decide +kernel)
set_option maxRecDepth 20000 in
theorem mw_75 : Cond.laysFinal "ReplayMachine$State" "ReplayMachine$State" "memory" "[I" ∈ WS := WS_mem 113 (by decide +kernel) (by decide +kernel)
set_option maxRecDepth 20000 in
theorem mw_77 : Cond.lays "ReplayMachine$State" "ReplayMachine$Registers" "time" "I" ∈ WS := WS_mem 115 (by decide +kernel) (by decide +kernel)
set_option maxRecDepth 20000 in
theorem mw_79 : Cond.lays "ReplayMachine$State" "ReplayMachine$Registers" "pc" "I" ∈ WS := WS_mem 117 (by decide +kernel) (by decide +kernel)
set_option maxRecDepth 20000 in
theorem mw_81 : Cond.lays "ReplayMachine$State" "ReplayMachine$Registers" "frame" "I" ∈ WS := WS_mem 119 (by decide +kernel) (by decide +kernel)
set_option maxRecDepth 20000 in
theorem mw_83 : Cond.lays "ReplayMachine$State" "ReplayMachine$Registers" "x" "I" ∈ WS := WS_mem 121 (by decide +kernel) (by decide +kernel)
set_option maxRecDepth 20000 in
theorem mw_85 : Cond.lays "ReplayMachine$State" "ReplayMachine$Registers" "taken" "I" ∈ WS := WS_mem 123 (by decide +kernel) (by decide +kernel)
set_option maxRecDepth 20000 in
theorem mw_87 : Cond.lays "ReplayMachine$State" "ReplayMachine$Registers" "height" "I" ∈ WS := WS_mem 125 (by decide +kernel) (by decide +kernel)
set_option maxRecDepth 20000 in
theorem mw_89 : Cond.lays "ReplayMachine$State" "ReplayMachine$Registers" "changed" "I" ∈ WS := WS_mem 127 (by decide +kernel) (by decide +kernel)
set_option maxRecDepth 20000 in
theorem mw_92 : Cond.arrayClass FieldType.int ∈ WS := WS_mem 130 (by decide +kernel) (by decide +kernel)
set_option maxRecDepth 20000 in
theorem mw_93 : Cond.classLink "ReplayMachine$Machine" 27 "ReplayMachine$Undo" ∈ WS := WS_mem 131 (by decide +kernel) (by decide +kernel)
set_option maxRecDepth 20000 in
theorem mw_94 : Cond.instantiable "ReplayMachine$Undo" 3 ∈ WS := WS_mem 132 (by decide +kernel) (by decide +kernel)
set_option maxRecDepth 20000 in
theorem mw_95 : Cond.methodLink "ReplayMachine$Machine" 29 y_Un_init ∈ WS := WS_mem 133 (by decide +kernel) (by decide +kernel)
set_option maxRecDepth 20000 in
theorem mw_96 : Cond.instanceMethod y_Un_init ∈ WS := WS_mem 134 (by decide +kernel) (by decide +kernel)
set_option maxRecDepth 20000 in
theorem mw_97 : Cond.code y_Un_init prog_7_method_1_code 2 none ∈ WS := WS_mem 135 (by decide +kernel) (by decide +kernel)
set_option maxRecDepth 20000 in
theorem mw_98 : Cond.methodLink "ReplayMachine$Undo" 3 (⟨"java/lang/Object", "<init>", "()V"⟩ : MethodName) ∈ WS := WS_mem 136 (by decide +kernel) (by decide +kernel)
set_option maxRecDepth 20000 in
theorem mw_99 : Cond.classLink "ReplayMachine$Undo" 9 "ReplayMachine$Note" ∈ WS := WS_mem 137 (by decide +kernel) (by decide +kernel)
set_option maxRecDepth 20000 in
theorem mw_101 : Cond.instantiable "ReplayMachine$Note" 10 ∈ WS := WS_mem 139 (by decide +kernel) (by decide +kernel)
set_option maxRecDepth 20000 in
theorem mw_102 : Cond.methodLink "ReplayMachine$Undo" 17 y_Nt_init ∈ WS := WS_mem 140 (by decide +kernel) (by decide +kernel)
set_option maxRecDepth 20000 in
theorem mw_103 : Cond.instanceMethod y_Nt_init ∈ WS := WS_mem 141 (by decide +kernel) (by decide +kernel)
set_option maxRecDepth 20000 in
theorem mw_104 : Cond.code y_Nt_init prog_4_method_1_code 1 none ∈ WS := WS_mem 142 (by decide +kernel) (by decide +kernel)
set_option maxRecDepth 20000 in
theorem mw_106 : Cond.fieldLink "ReplayMachine$Note" 9 "ReplayMachine$Note" "places" "[I" ∈ WS := WS_mem 144 (by decide +kernel) (by decide +kernel)
set_option maxRecDepth 20000 in
theorem mw_107 : Cond.fieldLink "ReplayMachine$Note" 13 "ReplayMachine$Note" "words" "[I" ∈ WS := WS_mem 145 (by decide +kernel) (by decide +kernel)
set_option maxRecDepth 20000 in
theorem mw_108 : Cond.fieldLink "ReplayMachine$Note" 20 "ReplayMachine$Note" "size" "I" ∈ WS := WS_mem 146 (by decide +kernel) (by decide +kernel)
set_option maxRecDepth 20000 in
theorem mw_109 : Cond.laysFinal "ReplayMachine$Note" "ReplayMachine$Note" "places" "[I" ∈ WS := WS_mem 147 (by decide +kernel) (by decide +kernel)
set_option maxRecDepth 20000 in
theorem mw_111 : Cond.laysFinal "ReplayMachine$Note" "ReplayMachine$Note" "words" "[I" ∈ WS := WS_mem 149 (by decide +kernel) (by decide +kernel)
set_option maxRecDepth 20000 in
theorem mw_113 : Cond.lays "ReplayMachine$Note" "ReplayMachine$Note" "size" "I" ∈ WS := WS_mem 151 (by decide +kernel) (by decide +kernel)
set_option maxRecDepth 20000 in
theorem mw_115 : Cond.lays "ReplayMachine$Note" "ReplayMachine$Registers" "time" "I" ∈ WS := WS_mem 153 (by decide +kernel) (by decide +kernel)
set_option maxRecDepth 20000 in
theorem mw_116 : Cond.lays "ReplayMachine$Note" "ReplayMachine$Registers" "pc" "I" ∈ WS := WS_mem 154 (by decide +kernel) (by decide +kernel)
set_option maxRecDepth 20000 in
theorem mw_117 : Cond.lays "ReplayMachine$Note" "ReplayMachine$Registers" "frame" "I" ∈ WS := WS_mem 155 (by decide +kernel) (by decide +kernel)
set_option maxRecDepth 20000 in
theorem mw_118 : Cond.lays "ReplayMachine$Note" "ReplayMachine$Registers" "x" "I" ∈ WS := WS_mem 156 (by decide +kernel) (by decide +kernel)
set_option maxRecDepth 20000 in
theorem mw_119 : Cond.lays "ReplayMachine$Note" "ReplayMachine$Registers" "taken" "I" ∈ WS := WS_mem 157 (by decide +kernel) (by decide +kernel)
set_option maxRecDepth 20000 in
theorem mw_120 : Cond.lays "ReplayMachine$Note" "ReplayMachine$Registers" "height" "I" ∈ WS := WS_mem 158 (by decide +kernel) (by decide +kernel)
set_option maxRecDepth 20000 in
theorem mw_121 : Cond.lays "ReplayMachine$Note" "ReplayMachine$Registers" "changed" "I" ∈ WS := WS_mem 159 (by decide +kernel) (by decide +kernel)
set_option maxRecDepth 20000 in
theorem mw_123 : Cond.fieldLink "ReplayMachine$Undo" 11 "ReplayMachine$Undo" "notes" "[LReplayMachine$Note;" ∈ WS := WS_mem 161 (by decide +kernel) (by decide +kernel)
set_option maxRecDepth 20000 in
theorem mw_124 : Cond.fieldLink "ReplayMachine$Machine" 34 "ReplayMachine$Undo" "notes" "[LReplayMachine$Note;" ∈ WS := WS_mem 162 (by decide +kernel) (by decide +kernel)
set_option maxRecDepth 20000 in
theorem mw_125 : Cond.fieldLink "ReplayMachine$Undo" 18 "ReplayMachine$Undo" "newest" "I" ∈ WS := WS_mem 163 (by decide +kernel) (by decide +kernel)
set_option maxRecDepth 20000 in
theorem mw_126 : Cond.fieldLink "ReplayMachine$Undo" 22 "ReplayMachine$Undo" "size" "I" ∈ WS := WS_mem 164 (by decide +kernel) (by decide +kernel)
set_option maxRecDepth 20000 in
theorem mw_127 : Cond.fieldLink "ReplayMachine" 118 "ReplayMachine$Undo" "size" "I" ∈ WS := WS_mem 165 (by decide +kernel) (by decide +kernel)
set_option maxRecDepth 20000 in
theorem mw_128 : Cond.laysFinal "ReplayMachine$Undo" "ReplayMachine$Undo" "notes" "[LReplayMachine$Note;" ∈ WS := WS_mem 166 (by decide +kernel) (by decide +kernel)
set_option maxRecDepth 20000 in
theorem mw_130 : Cond.lays "ReplayMachine$Undo" "ReplayMachine$Undo" "newest" "I" ∈ WS := WS_mem 168 (by decide +kernel) (by decide +kernel)
set_option maxRecDepth 20000 in
theorem mw_132 : Cond.lays "ReplayMachine$Undo" "ReplayMachine$Undo" "size" "I" ∈ WS := WS_mem 170 (by decide +kernel) (by decide +kernel)
set_option maxRecDepth 20000 in
theorem mw_135 : Cond.fieldLink "ReplayMachine$Machine" 9 "ReplayMachine$Machine" "code" "[I" ∈ WS := WS_mem 173 (by decide +kernel) (by decide +kernel)
set_option maxRecDepth 20000 in
theorem mw_136 : Cond.fieldLink "ReplayMachine" 52 "ReplayMachine$Machine" "code" "[I" ∈ WS := WS_mem 174 (by decide +kernel) (by decide +kernel)
set_option maxRecDepth 20000 in
theorem mw_137 : Cond.fieldLink "ReplayMachine$Machine" 15 "ReplayMachine$Machine" "inputs" "[I" ∈ WS := WS_mem 175 (by decide +kernel) (by decide +kernel)
set_option maxRecDepth 20000 in
theorem mw_138 : Cond.fieldLink "ReplayMachine$Machine" 23 "ReplayMachine$Machine" "now" "LReplayMachine$State;" ∈ WS := WS_mem 176 (by decide +kernel) (by decide +kernel)
set_option maxRecDepth 20000 in
theorem mw_139 : Cond.fieldLink "ReplayMachine" 79 "ReplayMachine$Machine" "now" "LReplayMachine$State;" ∈ WS := WS_mem 177 (by decide +kernel) (by decide +kernel)
set_option maxRecDepth 20000 in
theorem mw_140 : Cond.fieldLink "ReplayMachine$Machine" 30 "ReplayMachine$Machine" "undo" "LReplayMachine$Undo;" ∈ WS := WS_mem 178 (by decide +kernel) (by decide +kernel)
set_option maxRecDepth 20000 in
theorem mw_141 : Cond.fieldLink "ReplayMachine" 114 "ReplayMachine$Machine" "undo" "LReplayMachine$Undo;" ∈ WS := WS_mem 179 (by decide +kernel) (by decide +kernel)
set_option maxRecDepth 20000 in
theorem mw_142 : Cond.fieldLink "ReplayMachine$Machine" 42 "ReplayMachine$Machine" "inputCount" "I" ∈ WS := WS_mem 180 (by decide +kernel) (by decide +kernel)
set_option maxRecDepth 20000 in
theorem mw_143 : Cond.fieldLink "ReplayMachine$Machine" 38 "ReplayMachine$Machine" "note" "LReplayMachine$Note;" ∈ WS := WS_mem 181 (by decide +kernel) (by decide +kernel)
set_option maxRecDepth 20000 in
theorem mw_144 : Cond.laysFinal "ReplayMachine$Machine" "ReplayMachine$Machine" "code" "[I" ∈ WS := WS_mem 182 (by decide +kernel) (by decide +kernel)
set_option maxRecDepth 20000 in
theorem mw_146 : Cond.laysFinal "ReplayMachine$Machine" "ReplayMachine$Machine" "inputs" "[I" ∈ WS := WS_mem 184 (by decide +kernel) (by decide +kernel)
set_option maxRecDepth 20000 in
theorem mw_148 : Cond.laysFinal "ReplayMachine$Machine" "ReplayMachine$Machine" "now" "LReplayMachine$State;" ∈ WS := WS_mem 186 (by decide +kernel) (by decide +kernel)
set_option maxRecDepth 20000 in
theorem mw_150 : Cond.laysFinal "ReplayMachine$Machine" "ReplayMachine$Machine" "undo" "LReplayMachine$Undo;" ∈ WS := WS_mem 188 (by decide +kernel) (by decide +kernel)
set_option maxRecDepth 20000 in
theorem mw_152 : Cond.lays "ReplayMachine$Machine" "ReplayMachine$Machine" "inputCount" "I" ∈ WS := WS_mem 190 (by decide +kernel) (by decide +kernel)
set_option maxRecDepth 20000 in
theorem mw_154 : Cond.lays "ReplayMachine$Machine" "ReplayMachine$Machine" "note" "LReplayMachine$Note;" ∈ WS := WS_mem 192 (by decide +kernel) (by decide +kernel)
set_option maxRecDepth 20000 in
theorem mw_157 : Cond.classLink "ReplayMachine" 18 "ReplayMachine$Checkpoints" ∈ WS := WS_mem 195 (by decide +kernel) (by decide +kernel)
set_option maxRecDepth 20000 in
theorem mw_158 : Cond.instantiable "ReplayMachine$Checkpoints" 3 ∈ WS := WS_mem 196 (by decide +kernel) (by decide +kernel)
set_option maxRecDepth 20000 in
theorem mw_159 : Cond.methodLink "ReplayMachine" 20 y_Cp_init ∈ WS := WS_mem 197 (by decide +kernel) (by decide +kernel)
set_option maxRecDepth 20000 in
theorem mw_160 : Cond.instanceMethod y_Cp_init ∈ WS := WS_mem 198 (by decide +kernel) (by decide +kernel)
set_option maxRecDepth 20000 in
theorem mw_161 : Cond.code y_Cp_init prog_2_method_1_code 3 none ∈ WS := WS_mem 199 (by decide +kernel) (by decide +kernel)
set_option maxRecDepth 20000 in
theorem mw_162 : Cond.methodLink "ReplayMachine$Checkpoints" 3 (⟨"java/lang/Object", "<init>", "()V"⟩ : MethodName) ∈ WS := WS_mem 200 (by decide +kernel) (by decide +kernel)
set_option maxRecDepth 20000 in
theorem mw_163 : Cond.classLink "ReplayMachine$Checkpoints" 9 "ReplayMachine$State" ∈ WS := WS_mem 201 (by decide +kernel) (by decide +kernel)
set_option maxRecDepth 20000 in
theorem mw_165 : Cond.methodLink "ReplayMachine$Checkpoints" 17 y_St_init ∈ WS := WS_mem 203 (by decide +kernel) (by decide +kernel)
set_option maxRecDepth 20000 in
theorem mw_166 : Cond.fieldLink "ReplayMachine$Checkpoints" 11 "ReplayMachine$Checkpoints" "kept" "[LReplayMachine$State;" ∈ WS := WS_mem 204 (by decide +kernel) (by decide +kernel)
set_option maxRecDepth 20000 in
theorem mw_167 : Cond.fieldLink "ReplayMachine" 139 "ReplayMachine$Checkpoints" "kept" "[LReplayMachine$State;" ∈ WS := WS_mem 205 (by decide +kernel) (by decide +kernel)
set_option maxRecDepth 20000 in
theorem mw_168 : Cond.fieldLink "ReplayMachine$Checkpoints" 20 "ReplayMachine$Checkpoints" "size" "I" ∈ WS := WS_mem 206 (by decide +kernel) (by decide +kernel)
set_option maxRecDepth 20000 in
theorem mw_169 : Cond.fieldLink "ReplayMachine" 126 "ReplayMachine$Checkpoints" "size" "I" ∈ WS := WS_mem 207 (by decide +kernel) (by decide +kernel)
set_option maxRecDepth 20000 in
theorem mw_170 : Cond.fieldLink "ReplayMachine$Checkpoints" 24 "ReplayMachine$Checkpoints" "every" "I" ∈ WS := WS_mem 208 (by decide +kernel) (by decide +kernel)
set_option maxRecDepth 20000 in
theorem mw_171 : Cond.fieldLink "ReplayMachine" 123 "ReplayMachine$Checkpoints" "every" "I" ∈ WS := WS_mem 209 (by decide +kernel) (by decide +kernel)
set_option maxRecDepth 20000 in
theorem mw_172 : Cond.laysFinal "ReplayMachine$Checkpoints" "ReplayMachine$Checkpoints" "kept" "[LReplayMachine$State;" ∈ WS := WS_mem 210 (by decide +kernel) (by decide +kernel)
set_option maxRecDepth 20000 in
theorem mw_174 : Cond.lays "ReplayMachine$Checkpoints" "ReplayMachine$Checkpoints" "size" "I" ∈ WS := WS_mem 212 (by decide +kernel) (by decide +kernel)
set_option maxRecDepth 20000 in
theorem mw_176 : Cond.lays "ReplayMachine$Checkpoints" "ReplayMachine$Checkpoints" "every" "I" ∈ WS := WS_mem 214 (by decide +kernel) (by decide +kernel)
set_option maxRecDepth 20000 in
theorem mw_179 : Cond.fieldLink "ReplayMachine" 14 "ReplayMachine" "machine" "LReplayMachine$Machine;" ∈ WS := WS_mem 217 (by decide +kernel) (by decide +kernel)
set_option maxRecDepth 20000 in
theorem mw_180 : Cond.fieldLink "ReplayMachine" 21 "ReplayMachine" "checkpoints" "LReplayMachine$Checkpoints;" ∈ WS := WS_mem 218 (by decide +kernel) (by decide +kernel)
set_option maxRecDepth 20000 in
theorem mw_181 : Cond.fieldLink "ReplayMachine" 25 "ReplayMachine" "breaks" "[Z" ∈ WS := WS_mem 219 (by decide +kernel) (by decide +kernel)
set_option maxRecDepth 20000 in
theorem mw_182 : Cond.fieldLink "ReplayMachine" 29 "ReplayMachine" "watches" "[Z" ∈ WS := WS_mem 220 (by decide +kernel) (by decide +kernel)
set_option maxRecDepth 20000 in
theorem mw_183 : Cond.fieldLink "ReplayMachine" 43 "ReplayMachine" "greatest" "I" ∈ WS := WS_mem 221 (by decide +kernel) (by decide +kernel)
set_option maxRecDepth 20000 in
theorem mw_184 : Cond.fieldLink "ReplayMachine" 60 "ReplayMachine" "cost" "I" ∈ WS := WS_mem 222 (by decide +kernel) (by decide +kernel)
set_option maxRecDepth 20000 in
theorem mw_185 : Cond.laysFinal "ReplayMachine" "ReplayMachine" "machine" "LReplayMachine$Machine;" ∈ WS := WS_mem 223 (by decide +kernel) (by decide +kernel)
set_option maxRecDepth 20000 in
theorem mw_187 : Cond.laysFinal "ReplayMachine" "ReplayMachine" "checkpoints" "LReplayMachine$Checkpoints;" ∈ WS := WS_mem 225 (by decide +kernel) (by decide +kernel)
set_option maxRecDepth 20000 in
theorem mw_189 : Cond.laysFinal "ReplayMachine" "ReplayMachine" "breaks" "[Z" ∈ WS := WS_mem 227 (by decide +kernel) (by decide +kernel)
set_option maxRecDepth 20000 in
theorem mw_191 : Cond.laysFinal "ReplayMachine" "ReplayMachine" "watches" "[Z" ∈ WS := WS_mem 229 (by decide +kernel) (by decide +kernel)
set_option maxRecDepth 20000 in
theorem mw_193 : Cond.lays "ReplayMachine" "ReplayMachine" "greatest" "I" ∈ WS := WS_mem 231 (by decide +kernel) (by decide +kernel)
set_option maxRecDepth 20000 in
theorem mw_195 : Cond.lays "ReplayMachine" "ReplayMachine" "cost" "I" ∈ WS := WS_mem 233 (by decide +kernel) (by decide +kernel)
set_option maxRecDepth 20000 in
theorem mw_198 : Cond.arrayClass FieldType.boolean ∈ WS := WS_mem 236 (by decide +kernel) (by decide +kernel)
set_option maxRecDepth 20000 in
theorem mw_199 : Cond.methodLink "ReplayMachineLaw" 71 y_RM_input ∈ WS := WS_mem 237 (by decide +kernel) (by decide +kernel)
set_option maxRecDepth 20000 in
theorem mw_200 : Cond.instanceMethod y_RM_input ∈ WS := WS_mem 238 (by decide +kernel) (by decide +kernel)
set_option maxRecDepth 20000 in
theorem mw_201 : Cond.selects "ReplayMachine" y_RM_input y_RM_input ∈ WS := WS_mem 239 (by decide +kernel) (by decide +kernel)
set_option maxRecDepth 20000 in
theorem mw_202 : Cond.code y_RM_input prog_1_method_3_code 2 (some FieldType.int) ∈ WS := WS_mem 240 (by decide +kernel) (by decide +kernel)
set_option maxRecDepth 20000 in
theorem mw_203 : Cond.methodLink "ReplayMachine" 56 y_Ma_addInput ∈ WS := WS_mem 241 (by decide +kernel) (by decide +kernel)
set_option maxRecDepth 20000 in
theorem mw_204 : Cond.instanceMethod y_Ma_addInput ∈ WS := WS_mem 242 (by decide +kernel) (by decide +kernel)
set_option maxRecDepth 20000 in
theorem mw_205 : Cond.selects "ReplayMachine$Machine" y_Ma_addInput y_Ma_addInput ∈ WS := WS_mem 243 (by decide +kernel) (by decide +kernel)
set_option maxRecDepth 20000 in
theorem mw_206 : Cond.code y_Ma_addInput prog_3_method_2_code 2 (some FieldType.int) ∈ WS := WS_mem 244 (by decide +kernel) (by decide +kernel)
set_option maxRecDepth 20000 in
theorem mw_207 : Cond.methodLink "ReplayMachineLaw" 75 y_RM_step ∈ WS := WS_mem 245 (by decide +kernel) (by decide +kernel)
set_option maxRecDepth 20000 in
theorem mw_208 : Cond.instanceMethod y_RM_step ∈ WS := WS_mem 246 (by decide +kernel) (by decide +kernel)
set_option maxRecDepth 20000 in
theorem mw_209 : Cond.selects "ReplayMachine" y_RM_step y_RM_step ∈ WS := WS_mem 247 (by decide +kernel) (by decide +kernel)
set_option maxRecDepth 20000 in
theorem mw_210 : Cond.code y_RM_step prog_1_method_4_code 1 (some FieldType.int) ∈ WS := WS_mem 248 (by decide +kernel) (by decide +kernel)
set_option maxRecDepth 20000 in
theorem mw_211 : Cond.methodLink "ReplayMachine" 63 y_RM_advance ∈ WS := WS_mem 249 (by decide +kernel) (by decide +kernel)
set_option maxRecDepth 20000 in
theorem mw_213 : Cond.instanceMethod y_RM_advance ∈ WS := WS_mem 251 (by decide +kernel) (by decide +kernel)
set_option maxRecDepth 20000 in
theorem mw_214 : Cond.code y_RM_advance prog_1_method_19_code 2 (some FieldType.int) ∈ WS := WS_mem 252 (by decide +kernel) (by decide +kernel)
set_option maxRecDepth 20000 in
theorem mw_215 : Cond.methodLink "ReplayMachine" 143 y_Ma_obstacle ∈ WS := WS_mem 253 (by decide +kernel) (by decide +kernel)
set_option maxRecDepth 20000 in
theorem mw_216 : Cond.instanceMethod y_Ma_obstacle ∈ WS := WS_mem 254 (by decide +kernel) (by decide +kernel)
set_option maxRecDepth 20000 in
theorem mw_217 : Cond.selects "ReplayMachine$Machine" y_Ma_obstacle y_Ma_obstacle ∈ WS := WS_mem 255 (by decide +kernel) (by decide +kernel)
set_option maxRecDepth 20000 in
theorem mw_218 : Cond.code y_Ma_obstacle prog_3_method_3_code 3 (some FieldType.int) ∈ WS := WS_mem 256 (by decide +kernel) (by decide +kernel)
set_option maxRecDepth 20000 in
theorem mw_220 : Cond.static y_RM_within ∈ WS := WS_mem 258 (by decide +kernel) (by decide +kernel)
set_option maxRecDepth 20000 in
theorem mw_221 : Cond.code y_RM_within prog_1_method_16_code 2 (some FieldType.boolean) ∈ WS := WS_mem 259 (by decide +kernel) (by decide +kernel)
set_option maxRecDepth 20000 in
theorem mw_222 : Cond.methodLink "ReplayMachine$Machine" 53 y_Ma_hasTooFew ∈ WS := WS_mem 260 (by decide +kernel) (by decide +kernel)
set_option maxRecDepth 20000 in
theorem mw_224 : Cond.instanceMethod y_Ma_hasTooFew ∈ WS := WS_mem 262 (by decide +kernel) (by decide +kernel)
set_option maxRecDepth 20000 in
theorem mw_225 : Cond.code y_Ma_hasTooFew prog_3_method_4_code 3 (some FieldType.boolean) ∈ WS := WS_mem 263 (by decide +kernel) (by decide +kernel)
set_option maxRecDepth 20000 in
theorem mw_226 : Cond.methodLink "ReplayMachine$Machine" 72 y_Ma_argumentPlace ∈ WS := WS_mem 264 (by decide +kernel) (by decide +kernel)
set_option maxRecDepth 20000 in
theorem mw_228 : Cond.instanceMethod y_Ma_argumentPlace ∈ WS := WS_mem 266 (by decide +kernel) (by decide +kernel)
set_option maxRecDepth 20000 in
theorem mw_229 : Cond.code y_Ma_argumentPlace prog_3_method_5_code 2 (some FieldType.int) ∈ WS := WS_mem 267 (by decide +kernel) (by decide +kernel)
set_option maxRecDepth 20000 in
theorem mw_230 : Cond.fieldLink "ReplayMachine$Machine" 75 "ReplayMachine$Machine" "NEEDS" "[I" ∈ WS := WS_mem 268 (by decide +kernel) (by decide +kernel)
set_option maxRecDepth 20000 in
theorem mw_232 : Cond.methodLink "ReplayMachine$Machine" 56 y_Ma_fromTop ∈ WS := WS_mem 270 (by decide +kernel) (by decide +kernel)
set_option maxRecDepth 20000 in
theorem mw_234 : Cond.instanceMethod y_Ma_fromTop ∈ WS := WS_mem 272 (by decide +kernel) (by decide +kernel)
set_option maxRecDepth 20000 in
theorem mw_235 : Cond.code y_Ma_fromTop prog_3_method_6_code 2 (some FieldType.int) ∈ WS := WS_mem 273 (by decide +kernel) (by decide +kernel)
set_option maxRecDepth 20000 in
theorem mw_236 : Cond.methodLink "ReplayMachine$Machine" 78 y_St_number ∈ WS := WS_mem 274 (by decide +kernel) (by decide +kernel)
set_option maxRecDepth 20000 in
theorem mw_237 : Cond.instanceMethod y_St_number ∈ WS := WS_mem 275 (by decide +kernel) (by decide +kernel)
set_option maxRecDepth 20000 in
theorem mw_238 : Cond.selects "ReplayMachine$State" y_St_number y_St_number ∈ WS := WS_mem 276 (by decide +kernel) (by decide +kernel)
set_option maxRecDepth 20000 in
theorem mw_239 : Cond.code y_St_number prog_6_method_3_code 2 (some FieldType.int) ∈ WS := WS_mem 277 (by decide +kernel) (by decide +kernel)
set_option maxRecDepth 20000 in
theorem mw_241 : Cond.fieldLink "ReplayMachine$Machine" 66 "ReplayMachine$Machine" "GROWS" "[I" ∈ WS := WS_mem 279 (by decide +kernel) (by decide +kernel)
set_option maxRecDepth 20000 in
theorem mw_243 : Cond.methodLink "ReplayMachine" 146 y_Ma_perform ∈ WS := WS_mem 281 (by decide +kernel) (by decide +kernel)
set_option maxRecDepth 20000 in
theorem mw_244 : Cond.instanceMethod y_Ma_perform ∈ WS := WS_mem 282 (by decide +kernel) (by decide +kernel)
set_option maxRecDepth 20000 in
theorem mw_245 : Cond.selects "ReplayMachine$Machine" y_Ma_perform y_Ma_perform ∈ WS := WS_mem 283 (by decide +kernel) (by decide +kernel)
set_option maxRecDepth 20000 in
theorem mw_246 : Cond.code y_Ma_perform prog_3_method_7_code 3 none ∈ WS := WS_mem 284 (by decide +kernel) (by decide +kernel)
set_option maxRecDepth 20000 in
theorem mw_247 : Cond.methodLink "ReplayMachine$Machine" 81 y_Un_begin ∈ WS := WS_mem 285 (by decide +kernel) (by decide +kernel)
set_option maxRecDepth 20000 in
theorem mw_248 : Cond.instanceMethod y_Un_begin ∈ WS := WS_mem 286 (by decide +kernel) (by decide +kernel)
set_option maxRecDepth 20000 in
theorem mw_249 : Cond.selects "ReplayMachine$Undo" y_Un_begin y_Un_begin ∈ WS := WS_mem 287 (by decide +kernel) (by decide +kernel)
set_option maxRecDepth 20000 in
theorem mw_250 : Cond.code y_Un_begin prog_7_method_2_code 2 (some (FieldType.object "ReplayMachine$Note")) ∈ WS := WS_mem 288 (by decide +kernel) (by decide +kernel)
set_option maxRecDepth 20000 in
theorem mw_251 : Cond.methodLink "ReplayMachine$Undo" 25 (⟨"java/lang/Math", "min", "(II)I"⟩ : MethodName) ∈ WS := WS_mem 289 (by decide +kernel) (by decide +kernel)
set_option maxRecDepth 20000 in
theorem mw_252 : Cond.static (⟨"java/lang/Math", "min", "(II)I"⟩ : MethodName) ∈ WS := WS_mem 290 (by decide +kernel) (by decide +kernel)
set_option maxRecDepth 20000 in
theorem mw_253 : Cond.code (⟨"java/lang/Math", "min", "(II)I"⟩ : MethodName) prog_14_method_69_code 2 (some FieldType.int) ∈ WS := WS_mem 291 (by decide +kernel) (by decide +kernel)
set_option maxRecDepth 20000 in
theorem mw_254 : Cond.methodLink "ReplayMachine$Undo" 31 y_Nt_begin ∈ WS := WS_mem 292 (by decide +kernel) (by decide +kernel)
set_option maxRecDepth 20000 in
theorem mw_255 : Cond.instanceMethod y_Nt_begin ∈ WS := WS_mem 293 (by decide +kernel) (by decide +kernel)
set_option maxRecDepth 20000 in
theorem mw_256 : Cond.selects "ReplayMachine$Note" y_Nt_begin y_Nt_begin ∈ WS := WS_mem 294 (by decide +kernel) (by decide +kernel)
set_option maxRecDepth 20000 in
theorem mw_257 : Cond.code y_Nt_begin prog_4_method_2_code 2 none ∈ WS := WS_mem 295 (by decide +kernel) (by decide +kernel)
set_option maxRecDepth 20000 in
theorem mw_258 : Cond.methodLink "ReplayMachine$Note" 16 (⟨"ReplayMachine$Note", "copyRegisters", "(LReplayMachine$Registers;)V"⟩ : MethodName) ∈ WS := WS_mem 296 (by decide +kernel) (by decide +kernel)
set_option maxRecDepth 20000 in
theorem mw_259 : Cond.sameMethod "ReplayMachine$Note" "ReplayMachine$Registers" "copyRegisters" "(LReplayMachine$Registers;)V" ∈ WS := WS_mem 297 (by decide +kernel) (by decide +kernel)
set_option maxRecDepth 20000 in
theorem mw_261 : Cond.selects "ReplayMachine$Note" (⟨"ReplayMachine$Note", "copyRegisters", "(LReplayMachine$Registers;)V"⟩ : MethodName) y_Rg_copyRegisters ∈ WS := WS_mem 299 (by decide +kernel) (by decide +kernel)
set_option maxRecDepth 20000 in
theorem mw_262 : Cond.instanceMethod y_Rg_copyRegisters ∈ WS := WS_mem 300 (by decide +kernel) (by decide +kernel)
set_option maxRecDepth 20000 in
theorem mw_263 : Cond.code y_Rg_copyRegisters prog_5_method_2_code 2 none ∈ WS := WS_mem 301 (by decide +kernel) (by decide +kernel)
set_option maxRecDepth 20000 in
theorem mw_264 : Cond.methodLink "ReplayMachine$Machine" 91 y_Ma_push ∈ WS := WS_mem 302 (by decide +kernel) (by decide +kernel)
set_option maxRecDepth 20000 in
theorem mw_266 : Cond.instanceMethod y_Ma_push ∈ WS := WS_mem 304 (by decide +kernel) (by decide +kernel)
set_option maxRecDepth 20000 in
theorem mw_267 : Cond.code y_Ma_push prog_3_method_9_code 2 none ∈ WS := WS_mem 305 (by decide +kernel) (by decide +kernel)
set_option maxRecDepth 20000 in
theorem mw_268 : Cond.methodLink "ReplayMachine$Machine" 135 y_Ma_put ∈ WS := WS_mem 306 (by decide +kernel) (by decide +kernel)
set_option maxRecDepth 20000 in
theorem mw_270 : Cond.instanceMethod y_Ma_put ∈ WS := WS_mem 308 (by decide +kernel) (by decide +kernel)
set_option maxRecDepth 20000 in
theorem mw_271 : Cond.code y_Ma_put prog_3_method_8_code 3 none ∈ WS := WS_mem 309 (by decide +kernel) (by decide +kernel)
set_option maxRecDepth 20000 in
theorem mw_272 : Cond.methodLink "ReplayMachine$Machine" 129 y_Nt_keepWord ∈ WS := WS_mem 310 (by decide +kernel) (by decide +kernel)
set_option maxRecDepth 20000 in
theorem mw_273 : Cond.instanceMethod y_Nt_keepWord ∈ WS := WS_mem 311 (by decide +kernel) (by decide +kernel)
set_option maxRecDepth 20000 in
theorem mw_274 : Cond.selects "ReplayMachine$Note" y_Nt_keepWord y_Nt_keepWord ∈ WS := WS_mem 312 (by decide +kernel) (by decide +kernel)
set_option maxRecDepth 20000 in
theorem mw_275 : Cond.code y_Nt_keepWord prog_4_method_3_code 3 none ∈ WS := WS_mem 313 (by decide +kernel) (by decide +kernel)
set_option maxRecDepth 20000 in
theorem mw_276 : Cond.methodLink "ReplayMachine$Machine" 94 y_Ma_exchange ∈ WS := WS_mem 314 (by decide +kernel) (by decide +kernel)
set_option maxRecDepth 20000 in
theorem mw_278 : Cond.instanceMethod y_Ma_exchange ∈ WS := WS_mem 316 (by decide +kernel) (by decide +kernel)
set_option maxRecDepth 20000 in
theorem mw_279 : Cond.code y_Ma_exchange prog_3_method_11_code 3 none ∈ WS := WS_mem 317 (by decide +kernel) (by decide +kernel)
set_option maxRecDepth 20000 in
theorem mw_280 : Cond.methodLink "ReplayMachine$Machine" 97 y_Ma_result ∈ WS := WS_mem 318 (by decide +kernel) (by decide +kernel)
set_option maxRecDepth 20000 in
theorem mw_281 : Cond.static y_Ma_result ∈ WS := WS_mem 319 (by decide +kernel) (by decide +kernel)
set_option maxRecDepth 20000 in
theorem mw_282 : Cond.code y_Ma_result prog_3_method_12_code 3 (some FieldType.int) ∈ WS := WS_mem 320 (by decide +kernel) (by decide +kernel)
set_option maxRecDepth 20000 in
theorem mw_283 : Cond.methodLink "ReplayMachine$Machine" 101 y_Ma_replaceTwo ∈ WS := WS_mem 321 (by decide +kernel) (by decide +kernel)
set_option maxRecDepth 20000 in
theorem mw_285 : Cond.instanceMethod y_Ma_replaceTwo ∈ WS := WS_mem 323 (by decide +kernel) (by decide +kernel)
set_option maxRecDepth 20000 in
theorem mw_286 : Cond.code y_Ma_replaceTwo prog_3_method_10_code 2 none ∈ WS := WS_mem 324 (by decide +kernel) (by decide +kernel)
set_option maxRecDepth 20000 in
theorem mw_287 : Cond.methodLink "ReplayMachine$Machine" 104 y_Ma_load ∈ WS := WS_mem 325 (by decide +kernel) (by decide +kernel)
set_option maxRecDepth 20000 in
theorem mw_289 : Cond.instanceMethod y_Ma_load ∈ WS := WS_mem 327 (by decide +kernel) (by decide +kernel)
set_option maxRecDepth 20000 in
theorem mw_290 : Cond.code y_Ma_load prog_3_method_13_code 2 none ∈ WS := WS_mem 328 (by decide +kernel) (by decide +kernel)
set_option maxRecDepth 20000 in
theorem mw_291 : Cond.methodLink "ReplayMachine$Machine" 107 y_Ma_store ∈ WS := WS_mem 329 (by decide +kernel) (by decide +kernel)
set_option maxRecDepth 20000 in
theorem mw_293 : Cond.instanceMethod y_Ma_store ∈ WS := WS_mem 331 (by decide +kernel) (by decide +kernel)
set_option maxRecDepth 20000 in
theorem mw_294 : Cond.code y_Ma_store prog_3_method_14_code 3 none ∈ WS := WS_mem 332 (by decide +kernel) (by decide +kernel)
set_option maxRecDepth 20000 in
theorem mw_295 : Cond.methodLink "ReplayMachine$Machine" 110 y_Ma_jumpIf ∈ WS := WS_mem 333 (by decide +kernel) (by decide +kernel)
set_option maxRecDepth 20000 in
theorem mw_297 : Cond.instanceMethod y_Ma_jumpIf ∈ WS := WS_mem 335 (by decide +kernel) (by decide +kernel)
set_option maxRecDepth 20000 in
theorem mw_298 : Cond.code y_Ma_jumpIf prog_3_method_15_code 3 none ∈ WS := WS_mem 336 (by decide +kernel) (by decide +kernel)
set_option maxRecDepth 20000 in
theorem mw_299 : Cond.methodLink "ReplayMachine$Machine" 114 y_Ma_enter ∈ WS := WS_mem 337 (by decide +kernel) (by decide +kernel)
set_option maxRecDepth 20000 in
theorem mw_301 : Cond.instanceMethod y_Ma_enter ∈ WS := WS_mem 339 (by decide +kernel) (by decide +kernel)
set_option maxRecDepth 20000 in
theorem mw_302 : Cond.code y_Ma_enter prog_3_method_16_code 2 none ∈ WS := WS_mem 340 (by decide +kernel) (by decide +kernel)
set_option maxRecDepth 20000 in
theorem mw_303 : Cond.methodLink "ReplayMachine$Machine" 117 y_Ma_leave ∈ WS := WS_mem 341 (by decide +kernel) (by decide +kernel)
set_option maxRecDepth 20000 in
theorem mw_305 : Cond.instanceMethod y_Ma_leave ∈ WS := WS_mem 343 (by decide +kernel) (by decide +kernel)
set_option maxRecDepth 20000 in
theorem mw_306 : Cond.code y_Ma_leave prog_3_method_17_code 2 none ∈ WS := WS_mem 344 (by decide +kernel) (by decide +kernel)
set_option maxRecDepth 20000 in
theorem mw_307 : Cond.methodLink "ReplayMachine$Machine" 120 y_Ma_takeInput ∈ WS := WS_mem 345 (by decide +kernel) (by decide +kernel)
set_option maxRecDepth 20000 in
theorem mw_309 : Cond.instanceMethod y_Ma_takeInput ∈ WS := WS_mem 347 (by decide +kernel) (by decide +kernel)
set_option maxRecDepth 20000 in
theorem mw_310 : Cond.code y_Ma_takeInput prog_3_method_18_code 1 none ∈ WS := WS_mem 348 (by decide +kernel) (by decide +kernel)
set_option maxRecDepth 20000 in
theorem mw_311 : Cond.methodLink "ReplayMachine$Machine" 123 y_Ma_pushRandom ∈ WS := WS_mem 349 (by decide +kernel) (by decide +kernel)
set_option maxRecDepth 20000 in
theorem mw_313 : Cond.instanceMethod y_Ma_pushRandom ∈ WS := WS_mem 351 (by decide +kernel) (by decide +kernel)
set_option maxRecDepth 20000 in
theorem mw_314 : Cond.code y_Ma_pushRandom prog_3_method_19_code 2 none ∈ WS := WS_mem 352 (by decide +kernel) (by decide +kernel)
set_option maxRecDepth 20000 in
theorem mw_315 : Cond.constant "ReplayMachine$Machine" 138 (1103515245) ∈ WS := WS_mem 353 (by decide +kernel) (by decide +kernel)
set_option maxRecDepth 20000 in
theorem mw_316 : Cond.methodLink "ReplayMachine" 149 y_Cp_offer ∈ WS := WS_mem 354 (by decide +kernel) (by decide +kernel)
set_option maxRecDepth 20000 in
theorem mw_317 : Cond.instanceMethod y_Cp_offer ∈ WS := WS_mem 355 (by decide +kernel) (by decide +kernel)
set_option maxRecDepth 20000 in
theorem mw_318 : Cond.selects "ReplayMachine$Checkpoints" y_Cp_offer y_Cp_offer ∈ WS := WS_mem 356 (by decide +kernel) (by decide +kernel)
set_option maxRecDepth 20000 in
theorem mw_319 : Cond.code y_Cp_offer prog_2_method_2_code 2 none ∈ WS := WS_mem 357 (by decide +kernel) (by decide +kernel)
set_option maxRecDepth 20000 in
theorem mw_320 : Cond.methodLink "ReplayMachine$Checkpoints" 30 y_Cp_isMultiple ∈ WS := WS_mem 358 (by decide +kernel) (by decide +kernel)
set_option maxRecDepth 20000 in
theorem mw_322 : Cond.instanceMethod y_Cp_isMultiple ∈ WS := WS_mem 360 (by decide +kernel) (by decide +kernel)
set_option maxRecDepth 20000 in
theorem mw_323 : Cond.code y_Cp_isMultiple prog_2_method_3_code 2 (some FieldType.boolean) ∈ WS := WS_mem 361 (by decide +kernel) (by decide +kernel)
set_option maxRecDepth 20000 in
theorem mw_324 : Cond.methodLink "ReplayMachine$Checkpoints" 34 y_Cp_thinOut ∈ WS := WS_mem 362 (by decide +kernel) (by decide +kernel)
set_option maxRecDepth 20000 in
theorem mw_326 : Cond.instanceMethod y_Cp_thinOut ∈ WS := WS_mem 364 (by decide +kernel) (by decide +kernel)
set_option maxRecDepth 20000 in
theorem mw_327 : Cond.code y_Cp_thinOut prog_2_method_4_code 4 none ∈ WS := WS_mem 365 (by decide +kernel) (by decide +kernel)
set_option maxRecDepth 20000 in
theorem mw_328 : Cond.methodLink "ReplayMachine$Checkpoints" 37 y_St_copyState ∈ WS := WS_mem 366 (by decide +kernel) (by decide +kernel)
set_option maxRecDepth 20000 in
theorem mw_329 : Cond.instanceMethod y_St_copyState ∈ WS := WS_mem 367 (by decide +kernel) (by decide +kernel)
set_option maxRecDepth 20000 in
theorem mw_330 : Cond.selects "ReplayMachine$State" y_St_copyState y_St_copyState ∈ WS := WS_mem 368 (by decide +kernel) (by decide +kernel)
set_option maxRecDepth 20000 in
theorem mw_331 : Cond.code y_St_copyState prog_6_method_2_code 2 none ∈ WS := WS_mem 369 (by decide +kernel) (by decide +kernel)
set_option maxRecDepth 20000 in
theorem mw_332 : Cond.methodLink "ReplayMachine$State" 22 (⟨"ReplayMachine$State", "copyRegisters", "(LReplayMachine$Registers;)V"⟩ : MethodName) ∈ WS := WS_mem 370 (by decide +kernel) (by decide +kernel)
set_option maxRecDepth 20000 in
theorem mw_333 : Cond.sameMethod "ReplayMachine$State" "ReplayMachine$Registers" "copyRegisters" "(LReplayMachine$Registers;)V" ∈ WS := WS_mem 371 (by decide +kernel) (by decide +kernel)
set_option maxRecDepth 20000 in
theorem mw_334 : Cond.selects "ReplayMachine$State" (⟨"ReplayMachine$State", "copyRegisters", "(LReplayMachine$Registers;)V"⟩ : MethodName) y_Rg_copyRegisters ∈ WS := WS_mem 372 (by decide +kernel) (by decide +kernel)
set_option maxRecDepth 20000 in
theorem mw_335 : Cond.methodLink "ReplayMachine$State" 26 (⟨"java/lang/System", "arraycopy", "(Ljava/lang/Object;ILjava/lang/Object;II)V"⟩ : MethodName) ∈ WS := WS_mem 373 (by decide +kernel) (by decide +kernel)
set_option maxRecDepth 20000 in
theorem mw_336 : Cond.static (⟨"java/lang/System", "arraycopy", "(Ljava/lang/Object;ILjava/lang/Object;II)V"⟩ : MethodName) ∈ WS := WS_mem 374 (by decide +kernel) (by decide +kernel)
set_option maxRecDepth 20000 in
theorem mw_337 : Cond.native (⟨"java/lang/System", "arraycopy", "(Ljava/lang/Object;ILjava/lang/Object;II)V"⟩ : MethodName) ∈ WS := WS_mem 375 (by decide +kernel) (by decide +kernel)
set_option maxRecDepth 20000 in
theorem mw_338 : Cond.methodLink "ReplayMachineLaw" 105 y_RM_cell ∈ WS := WS_mem 376 (by decide +kernel) (by decide +kernel)
set_option maxRecDepth 20000 in
theorem mw_339 : Cond.instanceMethod y_RM_cell ∈ WS := WS_mem 377 (by decide +kernel) (by decide +kernel)
set_option maxRecDepth 20000 in
theorem mw_340 : Cond.selects "ReplayMachine" y_RM_cell y_RM_cell ∈ WS := WS_mem 378 (by decide +kernel) (by decide +kernel)
set_option maxRecDepth 20000 in
theorem mw_341 : Cond.code y_RM_cell prog_1_method_13_code 2 (some FieldType.int) ∈ WS := WS_mem 379 (by decide +kernel) (by decide +kernel)
set_option maxRecDepth 20000 in
theorem mw_342 : Cond.methodLink "ReplayMachine" 32 y_RM_within ∈ WS := WS_mem 380 (by decide +kernel) (by decide +kernel)
set_option maxRecDepth 20000 in
theorem mw_343 : Cond.methodLink "ReplayMachineLaw" 52 y_La_cell ∈ WS := WS_mem 381 (by decide +kernel) (by decide +kernel)
set_option maxRecDepth 20000 in
theorem mw_344 : Cond.static y_La_cell ∈ WS := WS_mem 382 (by decide +kernel) (by decide +kernel)
set_option maxRecDepth 20000 in
theorem mw_345 : Cond.code y_La_cell method_2_code 2 (some FieldType.int) ∈ WS := WS_mem 383 (by decide +kernel) (by decide +kernel)
set_option maxRecDepth 20000 in
theorem mw_346 : Cond.methodLink "ReplayMachineLaw" 63 y_La_poke ∈ WS := WS_mem 384 (by decide +kernel) (by decide +kernel)
set_option maxRecDepth 20000 in
theorem mw_347 : Cond.static y_La_poke ∈ WS := WS_mem 385 (by decide +kernel) (by decide +kernel)
set_option maxRecDepth 20000 in
theorem mw_348 : Cond.codeWith y_La_poke method_3_code 4 (some FieldType.int) [(0, 6, 9, 13), (0, 6, 12, 15)] ∈ WS := WS_mem 386 (by decide +kernel) (by decide +kernel)
set_option maxRecDepth 20000 in
theorem mw_349 : Cond.classLink "ReplayMachineLaw" 13 "java/lang/IndexOutOfBoundsException" ∈ WS := WS_mem 387 (by decide +kernel) (by decide +kernel)
set_option maxRecDepth 20000 in
theorem mw_350 : Cond.classLink "ReplayMachineLaw" 15 "java/lang/IllegalStateException" ∈ WS := WS_mem 388 (by decide +kernel) (by decide +kernel)
set_option maxRecDepth 20000 in
theorem mw_351 : Cond.methodLink "ReplayMachineLaw" 7 y_RM_poke ∈ WS := WS_mem 389 (by decide +kernel) (by decide +kernel)
set_option maxRecDepth 20000 in
theorem mw_352 : Cond.instanceMethod y_RM_poke ∈ WS := WS_mem 390 (by decide +kernel) (by decide +kernel)
set_option maxRecDepth 20000 in
theorem mw_353 : Cond.selects "ReplayMachine" y_RM_poke y_RM_poke ∈ WS := WS_mem 391 (by decide +kernel) (by decide +kernel)
set_option maxRecDepth 20000 in
theorem mw_354 : Cond.code y_RM_poke prog_1_method_2_code 3 none ∈ WS := WS_mem 392 (by decide +kernel) (by decide +kernel)
set_option maxRecDepth 20000 in
theorem mw_355 : Cond.classLink "ReplayMachine" 36 "java/lang/IndexOutOfBoundsException" ∈ WS := WS_mem 393 (by decide +kernel) (by decide +kernel)
set_option maxRecDepth 20000 in
theorem mw_356 : Cond.instantiable "java/lang/IndexOutOfBoundsException" 6 ∈ WS := WS_mem 394 (by decide +kernel) (by decide +kernel)
set_option maxRecDepth 20000 in
theorem mw_364 : Cond.selects "java/lang/IndexOutOfBoundsException" (⟨"java/lang/Throwable", "fillInStackTrace", "(I)Ljava/lang/Throwable;"⟩ : MethodName) (⟨"java/lang/Throwable", "fillInStackTrace", "(I)Ljava/lang/Throwable;"⟩ : MethodName) ∈ WS := WS_mem 402 (by decide +kernel) (by decide +kernel)
set_option maxRecDepth 20000 in
theorem mw_365 : Cond.selects "java/lang/IndexOutOfBoundsException" (⟨"java/lang/Throwable", "fillInStackTrace", "()Ljava/lang/Throwable;"⟩ : MethodName) (⟨"java/lang/Throwable", "fillInStackTrace", "()Ljava/lang/Throwable;"⟩ : MethodName) ∈ WS := WS_mem 403 (by decide +kernel) (by decide +kernel)
set_option maxRecDepth 20000 in
theorem mw_366 : Cond.lays "java/lang/IndexOutOfBoundsException" "java/lang/Throwable" "cause" "Ljava/lang/Throwable;" ∈ WS := WS_mem 404 (by decide +kernel) (by decide +kernel)
set_option maxRecDepth 20000 in
theorem mw_367 : Cond.lays "java/lang/Throwable" "java/lang/Throwable" "cause" "Ljava/lang/Throwable;" ∈ WS := WS_mem 405 (by decide +kernel) (by decide +kernel)
set_option maxRecDepth 20000 in
theorem mw_368 : Cond.lays "java/lang/IndexOutOfBoundsException" "java/lang/Throwable" "stackTrace" "[Ljava/lang/StackTraceElement;" ∈ WS := WS_mem 406 (by decide +kernel) (by decide +kernel)
set_option maxRecDepth 20000 in
theorem mw_369 : Cond.lays "java/lang/Throwable" "java/lang/Throwable" "stackTrace" "[Ljava/lang/StackTraceElement;" ∈ WS := WS_mem 407 (by decide +kernel) (by decide +kernel)
set_option maxRecDepth 20000 in
theorem mw_370 : Cond.lays "java/lang/IndexOutOfBoundsException" "java/lang/Throwable" "suppressedExceptions" "Ljava/util/List;" ∈ WS := WS_mem 408 (by decide +kernel) (by decide +kernel)
set_option maxRecDepth 20000 in
theorem mw_371 : Cond.lays "java/lang/Throwable" "java/lang/Throwable" "suppressedExceptions" "Ljava/util/List;" ∈ WS := WS_mem 409 (by decide +kernel) (by decide +kernel)
set_option maxRecDepth 20000 in
theorem mw_372 : Cond.lays "java/lang/IndexOutOfBoundsException" "java/lang/Throwable" "detailMessage" "Ljava/lang/String;" ∈ WS := WS_mem 410 (by decide +kernel) (by decide +kernel)
set_option maxRecDepth 20000 in
theorem mw_373 : Cond.lays "java/lang/Throwable" "java/lang/Throwable" "detailMessage" "Ljava/lang/String;" ∈ WS := WS_mem 411 (by decide +kernel) (by decide +kernel)
set_option maxRecDepth 20000 in
theorem mw_374 : Cond.lays "java/lang/IndexOutOfBoundsException" "java/lang/Throwable" "backtrace" "Ljava/lang/Object;" ∈ WS := WS_mem 412 (by decide +kernel) (by decide +kernel)
set_option maxRecDepth 20000 in
theorem mw_375 : Cond.lays "java/lang/Throwable" "java/lang/Throwable" "backtrace" "Ljava/lang/Object;" ∈ WS := WS_mem 413 (by decide +kernel) (by decide +kernel)
set_option maxRecDepth 20000 in
theorem mw_376 : Cond.fieldLink "java/lang/Throwable" 198 "java/lang/Throwable" "backtrace" "Ljava/lang/Object;" ∈ WS := WS_mem 414 (by decide +kernel) (by decide +kernel)
set_option maxRecDepth 20000 in
theorem mw_378 : Cond.instanceMethod (⟨"java/lang/Throwable", "<init>", "()V"⟩ : MethodName) ∈ WS := WS_mem 416 (by decide +kernel) (by decide +kernel)
set_option maxRecDepth 20000 in
theorem mw_379 : Cond.code (⟨"java/lang/Throwable", "<init>", "()V"⟩ : MethodName) prog_18_method_1_code 1 none ∈ WS := WS_mem 417 (by decide +kernel) (by decide +kernel)
set_option maxRecDepth 20000 in
theorem mw_380 : Cond.methodLink "java/lang/Throwable" 1 (⟨"java/lang/Object", "<init>", "()V"⟩ : MethodName) ∈ WS := WS_mem 418 (by decide +kernel) (by decide +kernel)
set_option maxRecDepth 20000 in
theorem mw_381 : Cond.fieldLink "java/lang/Throwable" 13 "java/lang/Throwable" "UNASSIGNED_STACK" "[Ljava/lang/StackTraceElement;" ∈ WS := WS_mem 419 (by decide +kernel) (by decide +kernel)
set_option maxRecDepth 20000 in
theorem mw_383 : Cond.fieldLink "java/lang/Throwable" 20 "java/lang/Throwable" "SUPPRESSED_SENTINEL" "Ljava/util/List;" ∈ WS := WS_mem 421 (by decide +kernel) (by decide +kernel)
set_option maxRecDepth 20000 in
theorem mw_385 : Cond.methodLink "java/lang/Throwable" 27 (⟨"java/lang/Throwable", "fillInStackTrace", "()Ljava/lang/Throwable;"⟩ : MethodName) ∈ WS := WS_mem 423 (by decide +kernel) (by decide +kernel)
set_option maxRecDepth 20000 in
theorem mw_386 : Cond.instanceMethod (⟨"java/lang/Throwable", "fillInStackTrace", "()Ljava/lang/Throwable;"⟩ : MethodName) ∈ WS := WS_mem 424 (by decide +kernel) (by decide +kernel)
set_option maxRecDepth 20000 in
theorem mw_387 : Cond.sameMethod "java/lang/Throwable" "java/lang/Throwable" "fillInStackTrace" "()Ljava/lang/Throwable;" ∈ WS := WS_mem 425 (by decide +kernel) (by decide +kernel)
set_option maxRecDepth 20000 in
theorem mw_388 : Cond.selects "java/lang/IllegalArgumentException" (⟨"java/lang/Throwable", "fillInStackTrace", "()Ljava/lang/Throwable;"⟩ : MethodName) (⟨"java/lang/Throwable", "fillInStackTrace", "()Ljava/lang/Throwable;"⟩ : MethodName) ∈ WS := WS_mem 426 (by decide +kernel) (by decide +kernel)
set_option maxRecDepth 20000 in
theorem mw_389 : Cond.selects "java/lang/IllegalStateException" (⟨"java/lang/Throwable", "fillInStackTrace", "()Ljava/lang/Throwable;"⟩ : MethodName) (⟨"java/lang/Throwable", "fillInStackTrace", "()Ljava/lang/Throwable;"⟩ : MethodName) ∈ WS := WS_mem 427 (by decide +kernel) (by decide +kernel)
set_option maxRecDepth 20000 in
theorem mw_390 : Cond.codeSync (⟨"java/lang/Throwable", "fillInStackTrace", "()Ljava/lang/Throwable;"⟩ : MethodName) prog_18_method_18_code 1 (some (FieldType.object "java/lang/Throwable")) ∈ WS := WS_mem 428 (by decide +kernel) (by decide +kernel)
set_option maxRecDepth 20000 in
theorem mw_391 : Cond.methodLink "java/lang/Throwable" 202 (⟨"java/lang/Throwable", "fillInStackTrace", "(I)Ljava/lang/Throwable;"⟩ : MethodName) ∈ WS := WS_mem 429 (by decide +kernel) (by decide +kernel)
set_option maxRecDepth 20000 in
theorem mw_393 : Cond.instanceMethod (⟨"java/lang/Throwable", "fillInStackTrace", "(I)Ljava/lang/Throwable;"⟩ : MethodName) ∈ WS := WS_mem 431 (by decide +kernel) (by decide +kernel)
set_option maxRecDepth 20000 in
theorem mw_394 : Cond.instantiable "java/lang/Throwable" 6 ∈ WS := WS_mem 432 (by decide +kernel) (by decide +kernel)
set_option maxRecDepth 20000 in
theorem mw_395 : Cond.native (⟨"java/lang/Throwable", "fillInStackTrace", "(I)Ljava/lang/Throwable;"⟩ : MethodName) ∈ WS := WS_mem 433 (by decide +kernel) (by decide +kernel)
set_option maxRecDepth 20000 in
theorem mw_397 : Cond.methodLink "ReplayMachine" 40 (⟨"java/lang/IndexOutOfBoundsException", "<init>", "(Ljava/lang/String;)V"⟩ : MethodName) ∈ WS := WS_mem 435 (by decide +kernel) (by decide +kernel)
set_option maxRecDepth 20000 in
theorem mw_398 : Cond.instanceMethod (⟨"java/lang/IndexOutOfBoundsException", "<init>", "(Ljava/lang/String;)V"⟩ : MethodName) ∈ WS := WS_mem 436 (by decide +kernel) (by decide +kernel)
set_option maxRecDepth 20000 in
theorem mw_399 : Cond.code (⟨"java/lang/IndexOutOfBoundsException", "<init>", "(Ljava/lang/String;)V"⟩ : MethodName) prog_13_method_2_code 2 none ∈ WS := WS_mem 437 (by decide +kernel) (by decide +kernel)
set_option maxRecDepth 20000 in
theorem mw_400 : Cond.methodLink "java/lang/IndexOutOfBoundsException" 7 (⟨"java/lang/RuntimeException", "<init>", "(Ljava/lang/String;)V"⟩ : MethodName) ∈ WS := WS_mem 438 (by decide +kernel) (by decide +kernel)
set_option maxRecDepth 20000 in
theorem mw_401 : Cond.instanceMethod (⟨"java/lang/RuntimeException", "<init>", "(Ljava/lang/String;)V"⟩ : MethodName) ∈ WS := WS_mem 439 (by decide +kernel) (by decide +kernel)
set_option maxRecDepth 20000 in
theorem mw_402 : Cond.code (⟨"java/lang/RuntimeException", "<init>", "(Ljava/lang/String;)V"⟩ : MethodName) prog_15_method_2_code 2 none ∈ WS := WS_mem 440 (by decide +kernel) (by decide +kernel)
set_option maxRecDepth 20000 in
theorem mw_403 : Cond.methodLink "java/lang/RuntimeException" 7 (⟨"java/lang/Exception", "<init>", "(Ljava/lang/String;)V"⟩ : MethodName) ∈ WS := WS_mem 441 (by decide +kernel) (by decide +kernel)
set_option maxRecDepth 20000 in
theorem mw_404 : Cond.instanceMethod (⟨"java/lang/Exception", "<init>", "(Ljava/lang/String;)V"⟩ : MethodName) ∈ WS := WS_mem 442 (by decide +kernel) (by decide +kernel)
set_option maxRecDepth 20000 in
theorem mw_405 : Cond.code (⟨"java/lang/Exception", "<init>", "(Ljava/lang/String;)V"⟩ : MethodName) prog_10_method_2_code 2 none ∈ WS := WS_mem 443 (by decide +kernel) (by decide +kernel)
set_option maxRecDepth 20000 in
theorem mw_406 : Cond.methodLink "java/lang/Exception" 7 (⟨"java/lang/Throwable", "<init>", "(Ljava/lang/String;)V"⟩ : MethodName) ∈ WS := WS_mem 444 (by decide +kernel) (by decide +kernel)
set_option maxRecDepth 20000 in
theorem mw_407 : Cond.instanceMethod (⟨"java/lang/Throwable", "<init>", "(Ljava/lang/String;)V"⟩ : MethodName) ∈ WS := WS_mem 445 (by decide +kernel) (by decide +kernel)
set_option maxRecDepth 20000 in
theorem mw_408 : Cond.code (⟨"java/lang/Throwable", "<init>", "(Ljava/lang/String;)V"⟩ : MethodName) prog_18_method_2_code 2 none ∈ WS := WS_mem 446 (by decide +kernel) (by decide +kernel)
set_option maxRecDepth 20000 in
theorem mw_410 : Cond.fieldLink "java/lang/Throwable" 31 "java/lang/Throwable" "detailMessage" "Ljava/lang/String;" ∈ WS := WS_mem 448 (by decide +kernel) (by decide +kernel)
set_option maxRecDepth 20000 in
theorem mw_411 : Cond.fieldLink "java/lang/Throwable" 7 "java/lang/Throwable" "cause" "Ljava/lang/Throwable;" ∈ WS := WS_mem 449 (by decide +kernel) (by decide +kernel)
set_option maxRecDepth 20000 in
theorem mw_412 : Cond.fieldLink "java/lang/Throwable" 17 "java/lang/Throwable" "stackTrace" "[Ljava/lang/StackTraceElement;" ∈ WS := WS_mem 450 (by decide +kernel) (by decide +kernel)
set_option maxRecDepth 20000 in
theorem mw_413 : Cond.fieldLink "java/lang/Throwable" 24 "java/lang/Throwable" "suppressedExceptions" "Ljava/util/List;" ∈ WS := WS_mem 451 (by decide +kernel) (by decide +kernel)
set_option maxRecDepth 20000 in
theorem mw_418 : Cond.lays "java/lang/IndexOutOfBoundsException" "java/lang/Throwable" "depth" "I" ∈ WS := WS_mem 456 (by decide +kernel) (by decide +kernel)
set_option maxRecDepth 20000 in
theorem mw_422 : Cond.arrayClass FieldType.byte ∈ WS := WS_mem 460 (by decide +kernel) (by decide +kernel)
set_option maxRecDepth 20000 in
theorem mw_423 : Cond.classLink "ReplayMachine" 47 "java/lang/IllegalStateException" ∈ WS := WS_mem 461 (by decide +kernel) (by decide +kernel)
set_option maxRecDepth 20000 in
theorem mw_424 : Cond.instantiable "java/lang/IllegalStateException" 6 ∈ WS := WS_mem 462 (by decide +kernel) (by decide +kernel)
set_option maxRecDepth 20000 in
theorem mw_426 : Cond.selects "java/lang/IllegalStateException" (⟨"java/lang/Throwable", "fillInStackTrace", "(I)Ljava/lang/Throwable;"⟩ : MethodName) (⟨"java/lang/Throwable", "fillInStackTrace", "(I)Ljava/lang/Throwable;"⟩ : MethodName) ∈ WS := WS_mem 464 (by decide +kernel) (by decide +kernel)
set_option maxRecDepth 20000 in
theorem mw_427 : Cond.lays "java/lang/IllegalStateException" "java/lang/Throwable" "cause" "Ljava/lang/Throwable;" ∈ WS := WS_mem 465 (by decide +kernel) (by decide +kernel)
set_option maxRecDepth 20000 in
theorem mw_428 : Cond.lays "java/lang/IllegalStateException" "java/lang/Throwable" "stackTrace" "[Ljava/lang/StackTraceElement;" ∈ WS := WS_mem 466 (by decide +kernel) (by decide +kernel)
set_option maxRecDepth 20000 in
theorem mw_429 : Cond.lays "java/lang/IllegalStateException" "java/lang/Throwable" "suppressedExceptions" "Ljava/util/List;" ∈ WS := WS_mem 467 (by decide +kernel) (by decide +kernel)
set_option maxRecDepth 20000 in
theorem mw_430 : Cond.lays "java/lang/IllegalStateException" "java/lang/Throwable" "detailMessage" "Ljava/lang/String;" ∈ WS := WS_mem 468 (by decide +kernel) (by decide +kernel)
set_option maxRecDepth 20000 in
theorem mw_431 : Cond.lays "java/lang/IllegalStateException" "java/lang/Throwable" "backtrace" "Ljava/lang/Object;" ∈ WS := WS_mem 469 (by decide +kernel) (by decide +kernel)
set_option maxRecDepth 20000 in
theorem mw_433 : Cond.methodLink "ReplayMachine" 51 (⟨"java/lang/IllegalStateException", "<init>", "(Ljava/lang/String;)V"⟩ : MethodName) ∈ WS := WS_mem 471 (by decide +kernel) (by decide +kernel)
set_option maxRecDepth 20000 in
theorem mw_434 : Cond.instanceMethod (⟨"java/lang/IllegalStateException", "<init>", "(Ljava/lang/String;)V"⟩ : MethodName) ∈ WS := WS_mem 472 (by decide +kernel) (by decide +kernel)
set_option maxRecDepth 20000 in
theorem mw_435 : Cond.code (⟨"java/lang/IllegalStateException", "<init>", "(Ljava/lang/String;)V"⟩ : MethodName) prog_12_method_2_code 2 none ∈ WS := WS_mem 473 (by decide +kernel) (by decide +kernel)
set_option maxRecDepth 20000 in
theorem mw_436 : Cond.methodLink "java/lang/IllegalStateException" 7 (⟨"java/lang/RuntimeException", "<init>", "(Ljava/lang/String;)V"⟩ : MethodName) ∈ WS := WS_mem 474 (by decide +kernel) (by decide +kernel)
set_option maxRecDepth 20000 in
theorem mw_437 : Cond.lays "java/lang/IllegalStateException" "java/lang/Throwable" "depth" "I" ∈ WS := WS_mem 475 (by decide +kernel) (by decide +kernel)
set_option maxRecDepth 20000 in
theorem mw_439 : Cond.methodLink "ReplayMachineLaw" 79 y_La_forth ∈ WS := WS_mem 477 (by decide +kernel) (by decide +kernel)
set_option maxRecDepth 20000 in
theorem mw_440 : Cond.static y_La_forth ∈ WS := WS_mem 478 (by decide +kernel) (by decide +kernel)
set_option maxRecDepth 20000 in
theorem mw_441 : Cond.codeWith y_La_forth method_4_code 4 (some FieldType.int) [(0, 9, 12, 21)] ∈ WS := WS_mem 479 (by decide +kernel) (by decide +kernel)
set_option maxRecDepth 20000 in
theorem mw_442 : Cond.classLink "ReplayMachineLaw" 21 "java/lang/IllegalArgumentException" ∈ WS := WS_mem 480 (by decide +kernel) (by decide +kernel)
set_option maxRecDepth 20000 in
theorem mw_443 : Cond.methodLink "ReplayMachineLaw" 17 y_RM_forth ∈ WS := WS_mem 481 (by decide +kernel) (by decide +kernel)
set_option maxRecDepth 20000 in
theorem mw_444 : Cond.instanceMethod y_RM_forth ∈ WS := WS_mem 482 (by decide +kernel) (by decide +kernel)
set_option maxRecDepth 20000 in
theorem mw_445 : Cond.selects "ReplayMachine" y_RM_forth y_RM_forth ∈ WS := WS_mem 483 (by decide +kernel) (by decide +kernel)
set_option maxRecDepth 20000 in
theorem mw_446 : Cond.code y_RM_forth prog_1_method_5_code 4 (some FieldType.int) ∈ WS := WS_mem 484 (by decide +kernel) (by decide +kernel)
set_option maxRecDepth 20000 in
theorem mw_447 : Cond.methodLink "ReplayMachine" 67 y_RM_isFuel ∈ WS := WS_mem 485 (by decide +kernel) (by decide +kernel)
set_option maxRecDepth 20000 in
theorem mw_448 : Cond.static y_RM_isFuel ∈ WS := WS_mem 486 (by decide +kernel) (by decide +kernel)
set_option maxRecDepth 20000 in
theorem mw_449 : Cond.code y_RM_isFuel prog_1_method_17_code 1 (some FieldType.boolean) ∈ WS := WS_mem 487 (by decide +kernel) (by decide +kernel)
set_option maxRecDepth 20000 in
theorem mw_450 : Cond.classLink "ReplayMachine" 71 "java/lang/IllegalArgumentException" ∈ WS := WS_mem 488 (by decide +kernel) (by decide +kernel)
set_option maxRecDepth 20000 in
theorem mw_451 : Cond.instantiable "java/lang/IllegalArgumentException" 6 ∈ WS := WS_mem 489 (by decide +kernel) (by decide +kernel)
set_option maxRecDepth 20000 in
theorem mw_453 : Cond.selects "java/lang/IllegalArgumentException" (⟨"java/lang/Throwable", "fillInStackTrace", "(I)Ljava/lang/Throwable;"⟩ : MethodName) (⟨"java/lang/Throwable", "fillInStackTrace", "(I)Ljava/lang/Throwable;"⟩ : MethodName) ∈ WS := WS_mem 491 (by decide +kernel) (by decide +kernel)
set_option maxRecDepth 20000 in
theorem mw_454 : Cond.lays "java/lang/IllegalArgumentException" "java/lang/Throwable" "cause" "Ljava/lang/Throwable;" ∈ WS := WS_mem 492 (by decide +kernel) (by decide +kernel)
set_option maxRecDepth 20000 in
theorem mw_455 : Cond.lays "java/lang/IllegalArgumentException" "java/lang/Throwable" "stackTrace" "[Ljava/lang/StackTraceElement;" ∈ WS := WS_mem 493 (by decide +kernel) (by decide +kernel)
set_option maxRecDepth 20000 in
theorem mw_456 : Cond.lays "java/lang/IllegalArgumentException" "java/lang/Throwable" "suppressedExceptions" "Ljava/util/List;" ∈ WS := WS_mem 494 (by decide +kernel) (by decide +kernel)
set_option maxRecDepth 20000 in
theorem mw_457 : Cond.lays "java/lang/IllegalArgumentException" "java/lang/Throwable" "detailMessage" "Ljava/lang/String;" ∈ WS := WS_mem 495 (by decide +kernel) (by decide +kernel)
set_option maxRecDepth 20000 in
theorem mw_458 : Cond.lays "java/lang/IllegalArgumentException" "java/lang/Throwable" "backtrace" "Ljava/lang/Object;" ∈ WS := WS_mem 496 (by decide +kernel) (by decide +kernel)
set_option maxRecDepth 20000 in
theorem mw_460 : Cond.methodLink "ReplayMachine" 75 (⟨"java/lang/IllegalArgumentException", "<init>", "(Ljava/lang/String;)V"⟩ : MethodName) ∈ WS := WS_mem 498 (by decide +kernel) (by decide +kernel)
set_option maxRecDepth 20000 in
theorem mw_461 : Cond.instanceMethod (⟨"java/lang/IllegalArgumentException", "<init>", "(Ljava/lang/String;)V"⟩ : MethodName) ∈ WS := WS_mem 499 (by decide +kernel) (by decide +kernel)
set_option maxRecDepth 20000 in
theorem mw_462 : Cond.code (⟨"java/lang/IllegalArgumentException", "<init>", "(Ljava/lang/String;)V"⟩ : MethodName) prog_11_method_2_code 2 none ∈ WS := WS_mem 500 (by decide +kernel) (by decide +kernel)
set_option maxRecDepth 20000 in
theorem mw_463 : Cond.methodLink "java/lang/IllegalArgumentException" 7 (⟨"java/lang/RuntimeException", "<init>", "(Ljava/lang/String;)V"⟩ : MethodName) ∈ WS := WS_mem 501 (by decide +kernel) (by decide +kernel)
set_option maxRecDepth 20000 in
theorem mw_464 : Cond.lays "java/lang/IllegalArgumentException" "java/lang/Throwable" "depth" "I" ∈ WS := WS_mem 502 (by decide +kernel) (by decide +kernel)
set_option maxRecDepth 20000 in
theorem mw_466 : Cond.methodLink "ReplayMachine" 76 y_RM_stopHere ∈ WS := WS_mem 504 (by decide +kernel) (by decide +kernel)
set_option maxRecDepth 20000 in
theorem mw_468 : Cond.instanceMethod y_RM_stopHere ∈ WS := WS_mem 506 (by decide +kernel) (by decide +kernel)
set_option maxRecDepth 20000 in
theorem mw_469 : Cond.code y_RM_stopHere prog_1_method_20_code 2 (some FieldType.int) ∈ WS := WS_mem 507 (by decide +kernel) (by decide +kernel)
set_option maxRecDepth 20000 in
theorem mw_470 : Cond.methodLink "ReplayMachineLaw" 83 y_La_back ∈ WS := WS_mem 508 (by decide +kernel) (by decide +kernel)
set_option maxRecDepth 20000 in
theorem mw_471 : Cond.static y_La_back ∈ WS := WS_mem 509 (by decide +kernel) (by decide +kernel)
set_option maxRecDepth 20000 in
theorem mw_472 : Cond.codeWith y_La_back method_5_code 4 (some FieldType.int) [(0, 9, 12, 21)] ∈ WS := WS_mem 510 (by decide +kernel) (by decide +kernel)
set_option maxRecDepth 20000 in
theorem mw_473 : Cond.methodLink "ReplayMachineLaw" 23 y_RM_back ∈ WS := WS_mem 511 (by decide +kernel) (by decide +kernel)
set_option maxRecDepth 20000 in
theorem mw_474 : Cond.instanceMethod y_RM_back ∈ WS := WS_mem 512 (by decide +kernel) (by decide +kernel)
set_option maxRecDepth 20000 in
theorem mw_475 : Cond.selects "ReplayMachine" y_RM_back y_RM_back ∈ WS := WS_mem 513 (by decide +kernel) (by decide +kernel)
set_option maxRecDepth 20000 in
theorem mw_476 : Cond.code y_RM_back prog_1_method_6_code 4 (some FieldType.int) ∈ WS := WS_mem 514 (by decide +kernel) (by decide +kernel)
set_option maxRecDepth 20000 in
theorem mw_477 : Cond.methodLink "ReplayMachine" 88 y_RM_travel ∈ WS := WS_mem 515 (by decide +kernel) (by decide +kernel)
set_option maxRecDepth 20000 in
theorem mw_479 : Cond.instanceMethod y_RM_travel ∈ WS := WS_mem 517 (by decide +kernel) (by decide +kernel)
set_option maxRecDepth 20000 in
theorem mw_480 : Cond.code y_RM_travel prog_1_method_21_code 6 none ∈ WS := WS_mem 518 (by decide +kernel) (by decide +kernel)
set_option maxRecDepth 20000 in
theorem mw_481 : Cond.methodLink "ReplayMachine" 156 y_Un_takeBack ∈ WS := WS_mem 519 (by decide +kernel) (by decide +kernel)
set_option maxRecDepth 20000 in
theorem mw_482 : Cond.instanceMethod y_Un_takeBack ∈ WS := WS_mem 520 (by decide +kernel) (by decide +kernel)
set_option maxRecDepth 20000 in
theorem mw_483 : Cond.selects "ReplayMachine$Undo" y_Un_takeBack y_Un_takeBack ∈ WS := WS_mem 521 (by decide +kernel) (by decide +kernel)
set_option maxRecDepth 20000 in
theorem mw_484 : Cond.code y_Un_takeBack prog_7_method_3_code 4 none ∈ WS := WS_mem 522 (by decide +kernel) (by decide +kernel)
set_option maxRecDepth 20000 in
theorem mw_485 : Cond.methodLink "ReplayMachine$Undo" 35 y_Nt_restore ∈ WS := WS_mem 523 (by decide +kernel) (by decide +kernel)
set_option maxRecDepth 20000 in
theorem mw_486 : Cond.instanceMethod y_Nt_restore ∈ WS := WS_mem 524 (by decide +kernel) (by decide +kernel)
set_option maxRecDepth 20000 in
theorem mw_487 : Cond.selects "ReplayMachine$Note" y_Nt_restore y_Nt_restore ∈ WS := WS_mem 525 (by decide +kernel) (by decide +kernel)
set_option maxRecDepth 20000 in
theorem mw_488 : Cond.code y_Nt_restore prog_4_method_4_code 3 none ∈ WS := WS_mem 526 (by decide +kernel) (by decide +kernel)
set_option maxRecDepth 20000 in
theorem mw_489 : Cond.methodLink "ReplayMachine$Note" 29 (⟨"ReplayMachine$State", "copyRegisters", "(LReplayMachine$Registers;)V"⟩ : MethodName) ∈ WS := WS_mem 527 (by decide +kernel) (by decide +kernel)
set_option maxRecDepth 20000 in
theorem mw_490 : Cond.methodLink "ReplayMachine" 160 y_Cp_latestUpTo ∈ WS := WS_mem 528 (by decide +kernel) (by decide +kernel)
set_option maxRecDepth 20000 in
theorem mw_491 : Cond.instanceMethod y_Cp_latestUpTo ∈ WS := WS_mem 529 (by decide +kernel) (by decide +kernel)
set_option maxRecDepth 20000 in
theorem mw_492 : Cond.selects "ReplayMachine$Checkpoints" y_Cp_latestUpTo y_Cp_latestUpTo ∈ WS := WS_mem 530 (by decide +kernel) (by decide +kernel)
set_option maxRecDepth 20000 in
theorem mw_493 : Cond.code y_Cp_latestUpTo prog_2_method_5_code 4 (some (FieldType.object "ReplayMachine$State")) ∈ WS := WS_mem 531 (by decide +kernel) (by decide +kernel)
set_option maxRecDepth 20000 in
theorem mw_494 : Cond.methodLink "ReplayMachine" 164 y_St_copyState ∈ WS := WS_mem 532 (by decide +kernel) (by decide +kernel)
set_option maxRecDepth 20000 in
theorem mw_495 : Cond.methodLink "ReplayMachineLaw" 86 y_La_go ∈ WS := WS_mem 533 (by decide +kernel) (by decide +kernel)
set_option maxRecDepth 20000 in
theorem mw_496 : Cond.static y_La_go ∈ WS := WS_mem 534 (by decide +kernel) (by decide +kernel)
set_option maxRecDepth 20000 in
theorem mw_497 : Cond.codeWith y_La_go method_6_code 3 (some FieldType.int) [(0, 5, 8, 21)] ∈ WS := WS_mem 535 (by decide +kernel) (by decide +kernel)
set_option maxRecDepth 20000 in
theorem mw_498 : Cond.methodLink "ReplayMachineLaw" 26 y_RM_go ∈ WS := WS_mem 536 (by decide +kernel) (by decide +kernel)
set_option maxRecDepth 20000 in
theorem mw_499 : Cond.instanceMethod y_RM_go ∈ WS := WS_mem 537 (by decide +kernel) (by decide +kernel)
set_option maxRecDepth 20000 in
theorem mw_500 : Cond.selects "ReplayMachine" y_RM_go y_RM_go ∈ WS := WS_mem 538 (by decide +kernel) (by decide +kernel)
set_option maxRecDepth 20000 in
theorem mw_501 : Cond.code y_RM_go prog_1_method_7_code 2 none ∈ WS := WS_mem 539 (by decide +kernel) (by decide +kernel)
set_option maxRecDepth 20000 in
theorem mw_503 : Cond.methodLink "ReplayMachineLaw" 90 y_La_setBreak ∈ WS := WS_mem 541 (by decide +kernel) (by decide +kernel)
set_option maxRecDepth 20000 in
theorem mw_504 : Cond.static y_La_setBreak ∈ WS := WS_mem 542 (by decide +kernel) (by decide +kernel)
set_option maxRecDepth 20000 in
theorem mw_505 : Cond.codeWith y_La_setBreak method_7_code 4 (some FieldType.int) [(0, 16, 19, 13)] ∈ WS := WS_mem 543 (by decide +kernel) (by decide +kernel)
set_option maxRecDepth 20000 in
theorem mw_506 : Cond.methodLink "ReplayMachineLaw" 30 y_RM_setBreak ∈ WS := WS_mem 544 (by decide +kernel) (by decide +kernel)
set_option maxRecDepth 20000 in
theorem mw_507 : Cond.instanceMethod y_RM_setBreak ∈ WS := WS_mem 545 (by decide +kernel) (by decide +kernel)
set_option maxRecDepth 20000 in
theorem mw_508 : Cond.selects "ReplayMachine" y_RM_setBreak y_RM_setBreak ∈ WS := WS_mem 546 (by decide +kernel) (by decide +kernel)
set_option maxRecDepth 20000 in
theorem mw_509 : Cond.code y_RM_setBreak prog_1_method_8_code 2 (some FieldType.boolean) ∈ WS := WS_mem 547 (by decide +kernel) (by decide +kernel)
set_option maxRecDepth 20000 in
theorem mw_510 : Cond.methodLink "ReplayMachine" 93 y_RM_mark ∈ WS := WS_mem 548 (by decide +kernel) (by decide +kernel)
set_option maxRecDepth 20000 in
theorem mw_511 : Cond.static y_RM_mark ∈ WS := WS_mem 549 (by decide +kernel) (by decide +kernel)
set_option maxRecDepth 20000 in
theorem mw_512 : Cond.code y_RM_mark prog_1_method_18_code 4 (some FieldType.boolean) ∈ WS := WS_mem 550 (by decide +kernel) (by decide +kernel)
set_option maxRecDepth 20000 in
theorem mw_513 : Cond.methodLink "ReplayMachineLaw" 93 y_La_clearBreak ∈ WS := WS_mem 551 (by decide +kernel) (by decide +kernel)
set_option maxRecDepth 20000 in
theorem mw_514 : Cond.static y_La_clearBreak ∈ WS := WS_mem 552 (by decide +kernel) (by decide +kernel)
set_option maxRecDepth 20000 in
theorem mw_515 : Cond.codeWith y_La_clearBreak method_8_code 4 (some FieldType.int) [(0, 16, 19, 13)] ∈ WS := WS_mem 553 (by decide +kernel) (by decide +kernel)
set_option maxRecDepth 20000 in
theorem mw_516 : Cond.methodLink "ReplayMachineLaw" 34 y_RM_clearBreak ∈ WS := WS_mem 554 (by decide +kernel) (by decide +kernel)
set_option maxRecDepth 20000 in
theorem mw_517 : Cond.instanceMethod y_RM_clearBreak ∈ WS := WS_mem 555 (by decide +kernel) (by decide +kernel)
set_option maxRecDepth 20000 in
theorem mw_518 : Cond.selects "ReplayMachine" y_RM_clearBreak y_RM_clearBreak ∈ WS := WS_mem 556 (by decide +kernel) (by decide +kernel)
set_option maxRecDepth 20000 in
theorem mw_519 : Cond.code y_RM_clearBreak prog_1_method_9_code 2 (some FieldType.boolean) ∈ WS := WS_mem 557 (by decide +kernel) (by decide +kernel)
set_option maxRecDepth 20000 in
theorem mw_520 : Cond.methodLink "ReplayMachineLaw" 96 y_La_setWatch ∈ WS := WS_mem 558 (by decide +kernel) (by decide +kernel)
set_option maxRecDepth 20000 in
theorem mw_521 : Cond.static y_La_setWatch ∈ WS := WS_mem 559 (by decide +kernel) (by decide +kernel)
set_option maxRecDepth 20000 in
theorem mw_522 : Cond.codeWith y_La_setWatch method_9_code 4 (some FieldType.int) [(0, 16, 19, 13)] ∈ WS := WS_mem 560 (by decide +kernel) (by decide +kernel)
set_option maxRecDepth 20000 in
theorem mw_523 : Cond.methodLink "ReplayMachineLaw" 37 y_RM_setWatch ∈ WS := WS_mem 561 (by decide +kernel) (by decide +kernel)
set_option maxRecDepth 20000 in
theorem mw_524 : Cond.instanceMethod y_RM_setWatch ∈ WS := WS_mem 562 (by decide +kernel) (by decide +kernel)
set_option maxRecDepth 20000 in
theorem mw_525 : Cond.selects "ReplayMachine" y_RM_setWatch y_RM_setWatch ∈ WS := WS_mem 563 (by decide +kernel) (by decide +kernel)
set_option maxRecDepth 20000 in
theorem mw_526 : Cond.code y_RM_setWatch prog_1_method_10_code 2 (some FieldType.boolean) ∈ WS := WS_mem 564 (by decide +kernel) (by decide +kernel)
set_option maxRecDepth 20000 in
theorem mw_528 : Cond.methodLink "ReplayMachineLaw" 99 y_La_clearWatch ∈ WS := WS_mem 566 (by decide +kernel) (by decide +kernel)
set_option maxRecDepth 20000 in
theorem mw_529 : Cond.static y_La_clearWatch ∈ WS := WS_mem 567 (by decide +kernel) (by decide +kernel)
set_option maxRecDepth 20000 in
theorem mw_530 : Cond.codeWith y_La_clearWatch method_10_code 4 (some FieldType.int) [(0, 16, 19, 13)] ∈ WS := WS_mem 568 (by decide +kernel) (by decide +kernel)
set_option maxRecDepth 20000 in
theorem mw_531 : Cond.methodLink "ReplayMachineLaw" 40 y_RM_clearWatch ∈ WS := WS_mem 569 (by decide +kernel) (by decide +kernel)
set_option maxRecDepth 20000 in
theorem mw_532 : Cond.instanceMethod y_RM_clearWatch ∈ WS := WS_mem 570 (by decide +kernel) (by decide +kernel)
set_option maxRecDepth 20000 in
theorem mw_533 : Cond.selects "ReplayMachine" y_RM_clearWatch y_RM_clearWatch ∈ WS := WS_mem 571 (by decide +kernel) (by decide +kernel)
set_option maxRecDepth 20000 in
theorem mw_534 : Cond.code y_RM_clearWatch prog_1_method_11_code 2 (some FieldType.boolean) ∈ WS := WS_mem 572 (by decide +kernel) (by decide +kernel)
set_option maxRecDepth 20000 in
theorem mw_535 : Cond.methodLink "ReplayMachineLaw" 102 y_La_state ∈ WS := WS_mem 573 (by decide +kernel) (by decide +kernel)
set_option maxRecDepth 20000 in
theorem mw_536 : Cond.static y_La_state ∈ WS := WS_mem 574 (by decide +kernel) (by decide +kernel)
set_option maxRecDepth 20000 in
theorem mw_537 : Cond.codeWith y_La_state method_11_code 4 (some FieldType.int) [(0, 9, 12, 13)] ∈ WS := WS_mem 575 (by decide +kernel) (by decide +kernel)
set_option maxRecDepth 20000 in
theorem mw_538 : Cond.methodLink "ReplayMachineLaw" 43 y_RM_state ∈ WS := WS_mem 576 (by decide +kernel) (by decide +kernel)
set_option maxRecDepth 20000 in
theorem mw_539 : Cond.instanceMethod y_RM_state ∈ WS := WS_mem 577 (by decide +kernel) (by decide +kernel)
set_option maxRecDepth 20000 in
theorem mw_540 : Cond.selects "ReplayMachine" y_RM_state y_RM_state ∈ WS := WS_mem 578 (by decide +kernel) (by decide +kernel)
set_option maxRecDepth 20000 in
theorem mw_541 : Cond.code y_RM_state prog_1_method_12_code 3 (some FieldType.int) ∈ WS := WS_mem 579 (by decide +kernel) (by decide +kernel)
set_option maxRecDepth 20000 in
theorem mw_543 : Cond.methodLink "ReplayMachineLaw" 108 y_La_stack ∈ WS := WS_mem 581 (by decide +kernel) (by decide +kernel)
set_option maxRecDepth 20000 in
theorem mw_544 : Cond.static y_La_stack ∈ WS := WS_mem 582 (by decide +kernel) (by decide +kernel)
set_option maxRecDepth 20000 in
theorem mw_545 : Cond.codeWith y_La_stack method_12_code 4 (some FieldType.int) [(0, 9, 12, 13)] ∈ WS := WS_mem 583 (by decide +kernel) (by decide +kernel)
set_option maxRecDepth 20000 in
theorem mw_546 : Cond.methodLink "ReplayMachineLaw" 46 y_RM_stack ∈ WS := WS_mem 584 (by decide +kernel) (by decide +kernel)
set_option maxRecDepth 20000 in
theorem mw_547 : Cond.instanceMethod y_RM_stack ∈ WS := WS_mem 585 (by decide +kernel) (by decide +kernel)
set_option maxRecDepth 20000 in
theorem mw_548 : Cond.selects "ReplayMachine" y_RM_stack y_RM_stack ∈ WS := WS_mem 586 (by decide +kernel) (by decide +kernel)
set_option maxRecDepth 20000 in
theorem mw_549 : Cond.code y_RM_stack prog_1_method_14_code 2 (some FieldType.int) ∈ WS := WS_mem 587 (by decide +kernel) (by decide +kernel)
set_option maxRecDepth 20000 in
theorem mw_551 : Cond.methodLink "ReplayMachine" 134 y_St_number ∈ WS := WS_mem 589 (by decide +kernel) (by decide +kernel)
set_option maxRecDepth 20000 in
theorem mw_552 : Cond.methodLink "ReplayMachineLaw" 111 y_La_checkpoint ∈ WS := WS_mem 590 (by decide +kernel) (by decide +kernel)
set_option maxRecDepth 20000 in
theorem mw_553 : Cond.static y_La_checkpoint ∈ WS := WS_mem 591 (by decide +kernel) (by decide +kernel)
set_option maxRecDepth 20000 in
theorem mw_554 : Cond.codeWith y_La_checkpoint method_13_code 4 (some FieldType.int) [(0, 9, 12, 13)] ∈ WS := WS_mem 592 (by decide +kernel) (by decide +kernel)
set_option maxRecDepth 20000 in
theorem mw_555 : Cond.methodLink "ReplayMachineLaw" 49 y_RM_checkpoint ∈ WS := WS_mem 593 (by decide +kernel) (by decide +kernel)
set_option maxRecDepth 20000 in
theorem mw_556 : Cond.instanceMethod y_RM_checkpoint ∈ WS := WS_mem 594 (by decide +kernel) (by decide +kernel)
set_option maxRecDepth 20000 in
theorem mw_557 : Cond.selects "ReplayMachine" y_RM_checkpoint y_RM_checkpoint ∈ WS := WS_mem 595 (by decide +kernel) (by decide +kernel)
set_option maxRecDepth 20000 in
theorem mw_558 : Cond.code y_RM_checkpoint prog_1_method_15_code 2 (some FieldType.int) ∈ WS := WS_mem 596 (by decide +kernel) (by decide +kernel)
set_option maxRecDepth 20000 in
theorem mw_560 : Cond.classLink "ReplayMachineLaw" 60 "ReplayMachineModel" ∈ WS := WS_mem 598 (by decide +kernel) (by decide +kernel)
set_option maxRecDepth 20000 in
theorem mw_561 : Cond.instantiable "ReplayMachineModel" 23 ∈ WS := WS_mem 599 (by decide +kernel) (by decide +kernel)
set_option maxRecDepth 20000 in
theorem mw_562 : Cond.methodLink "ReplayMachineLaw" 62 y_Mo_init ∈ WS := WS_mem 600 (by decide +kernel) (by decide +kernel)
set_option maxRecDepth 20000 in
theorem mw_563 : Cond.instanceMethod y_Mo_init ∈ WS := WS_mem 601 (by decide +kernel) (by decide +kernel)
set_option maxRecDepth 20000 in
theorem mw_564 : Cond.code y_Mo_init prog_9_method_1_code 2 none ∈ WS := WS_mem 602 (by decide +kernel) (by decide +kernel)
set_option maxRecDepth 20000 in
theorem mw_565 : Cond.methodLink "ReplayMachineModel" 1 (⟨"java/lang/Object", "<init>", "()V"⟩ : MethodName) ∈ WS := WS_mem 603 (by decide +kernel) (by decide +kernel)
set_option maxRecDepth 20000 in
theorem mw_566 : Cond.methodLink "ReplayMachineModel" 48 y_Mo_mark ∈ WS := WS_mem 604 (by decide +kernel) (by decide +kernel)
set_option maxRecDepth 20000 in
theorem mw_568 : Cond.instanceMethod y_Mo_mark ∈ WS := WS_mem 606 (by decide +kernel) (by decide +kernel)
set_option maxRecDepth 20000 in
theorem mw_569 : Cond.code y_Mo_mark prog_9_method_6_code 3 none ∈ WS := WS_mem 607 (by decide +kernel) (by decide +kernel)
set_option maxRecDepth 20000 in
theorem mw_570 : Cond.fieldLink "ReplayMachineModel" 54 "ReplayMachineModel" "code" "I" ∈ WS := WS_mem 608 (by decide +kernel) (by decide +kernel)
set_option maxRecDepth 20000 in
theorem mw_571 : Cond.fieldLink "ReplayMachineModel" 7 "ReplayMachineModel" "program" "[I" ∈ WS := WS_mem 609 (by decide +kernel) (by decide +kernel)
set_option maxRecDepth 20000 in
theorem mw_572 : Cond.fieldLink "ReplayMachineModel" 13 "ReplayMachineModel" "inputs" "[I" ∈ WS := WS_mem 610 (by decide +kernel) (by decide +kernel)
set_option maxRecDepth 20000 in
theorem mw_573 : Cond.fieldLink "ReplayMachineModel" 60 "ReplayMachineModel" "given" "I" ∈ WS := WS_mem 611 (by decide +kernel) (by decide +kernel)
set_option maxRecDepth 20000 in
theorem mw_574 : Cond.fieldLink "ReplayMachineModel" 16 "ReplayMachineModel" "breaks" "[Z" ∈ WS := WS_mem 612 (by decide +kernel) (by decide +kernel)
set_option maxRecDepth 20000 in
theorem mw_575 : Cond.fieldLink "ReplayMachineModel" 20 "ReplayMachineModel" "watches" "[Z" ∈ WS := WS_mem 613 (by decide +kernel) (by decide +kernel)
set_option maxRecDepth 20000 in
theorem mw_576 : Cond.fieldLink "ReplayMachineModel" 63 "ReplayMachineModel" "time" "I" ∈ WS := WS_mem 614 (by decide +kernel) (by decide +kernel)
set_option maxRecDepth 20000 in
theorem mw_577 : Cond.fieldLink "ReplayMachineModel" 66 "ReplayMachineModel" "pc" "I" ∈ WS := WS_mem 615 (by decide +kernel) (by decide +kernel)
set_option maxRecDepth 20000 in
theorem mw_578 : Cond.fieldLink "ReplayMachineModel" 69 "ReplayMachineModel" "frame" "I" ∈ WS := WS_mem 616 (by decide +kernel) (by decide +kernel)
set_option maxRecDepth 20000 in
theorem mw_579 : Cond.fieldLink "ReplayMachineModel" 45 "ReplayMachineModel" "x" "I" ∈ WS := WS_mem 617 (by decide +kernel) (by decide +kernel)
set_option maxRecDepth 20000 in
theorem mw_580 : Cond.fieldLink "ReplayMachineModel" 72 "ReplayMachineModel" "taken" "I" ∈ WS := WS_mem 618 (by decide +kernel) (by decide +kernel)
set_option maxRecDepth 20000 in
theorem mw_581 : Cond.fieldLink "ReplayMachineModel" 75 "ReplayMachineModel" "height" "I" ∈ WS := WS_mem 619 (by decide +kernel) (by decide +kernel)
set_option maxRecDepth 20000 in
theorem mw_582 : Cond.fieldLink "ReplayMachineModel" 23 "ReplayMachineModel" "cells" "[I" ∈ WS := WS_mem 620 (by decide +kernel) (by decide +kernel)
set_option maxRecDepth 20000 in
theorem mw_583 : Cond.fieldLink "ReplayMachineModel" 26 "ReplayMachineModel" "stack" "[I" ∈ WS := WS_mem 621 (by decide +kernel) (by decide +kernel)
set_option maxRecDepth 20000 in
theorem mw_584 : Cond.fieldLink "ReplayMachineModel" 29 "ReplayMachineModel" "were" "[I" ∈ WS := WS_mem 622 (by decide +kernel) (by decide +kernel)
set_option maxRecDepth 20000 in
theorem mw_585 : Cond.fieldLink "ReplayMachineModel" 32 "ReplayMachineModel" "markWords" "[I" ∈ WS := WS_mem 623 (by decide +kernel) (by decide +kernel)
set_option maxRecDepth 20000 in
theorem mw_586 : Cond.fieldLink "ReplayMachineModel" 35 "ReplayMachineModel" "markOthers" "[I" ∈ WS := WS_mem 624 (by decide +kernel) (by decide +kernel)
set_option maxRecDepth 20000 in
theorem mw_587 : Cond.fieldLink "ReplayMachineModel" 57 "ReplayMachineModel" "reached" "I" ∈ WS := WS_mem 625 (by decide +kernel) (by decide +kernel)
set_option maxRecDepth 20000 in
theorem mw_588 : Cond.fieldLink "ReplayMachineModel" 122 "ReplayMachineModel" "undo" "I" ∈ WS := WS_mem 626 (by decide +kernel) (by decide +kernel)
set_option maxRecDepth 20000 in
theorem mw_589 : Cond.fieldLink "ReplayMachineModel" 128 "ReplayMachineModel" "cost" "I" ∈ WS := WS_mem 627 (by decide +kernel) (by decide +kernel)
set_option maxRecDepth 20000 in
theorem mw_590 : Cond.fieldLink "ReplayMachineModel" 38 "ReplayMachineModel" "every" "I" ∈ WS := WS_mem 628 (by decide +kernel) (by decide +kernel)
set_option maxRecDepth 20000 in
theorem mw_591 : Cond.fieldLink "ReplayMachineModel" 51 "ReplayMachineModel" "kept" "I" ∈ WS := WS_mem 629 (by decide +kernel) (by decide +kernel)
set_option maxRecDepth 20000 in
theorem mw_592 : Cond.fieldLink "ReplayMachineModel" 42 "ReplayMachineModel" "keptAt" "[I" ∈ WS := WS_mem 630 (by decide +kernel) (by decide +kernel)
set_option maxRecDepth 20000 in
theorem mw_593 : Cond.lays "ReplayMachineModel" "ReplayMachineModel" "code" "I" ∈ WS := WS_mem 631 (by decide +kernel) (by decide +kernel)
set_option maxRecDepth 20000 in
theorem mw_595 : Cond.laysFinal "ReplayMachineModel" "ReplayMachineModel" "program" "[I" ∈ WS := WS_mem 633 (by decide +kernel) (by decide +kernel)
set_option maxRecDepth 20000 in
theorem mw_597 : Cond.laysFinal "ReplayMachineModel" "ReplayMachineModel" "inputs" "[I" ∈ WS := WS_mem 635 (by decide +kernel) (by decide +kernel)
set_option maxRecDepth 20000 in
theorem mw_599 : Cond.lays "ReplayMachineModel" "ReplayMachineModel" "given" "I" ∈ WS := WS_mem 637 (by decide +kernel) (by decide +kernel)
set_option maxRecDepth 20000 in
theorem mw_601 : Cond.laysFinal "ReplayMachineModel" "ReplayMachineModel" "breaks" "[Z" ∈ WS := WS_mem 639 (by decide +kernel) (by decide +kernel)
set_option maxRecDepth 20000 in
theorem mw_603 : Cond.laysFinal "ReplayMachineModel" "ReplayMachineModel" "watches" "[Z" ∈ WS := WS_mem 641 (by decide +kernel) (by decide +kernel)
set_option maxRecDepth 20000 in
theorem mw_605 : Cond.lays "ReplayMachineModel" "ReplayMachineModel" "time" "I" ∈ WS := WS_mem 643 (by decide +kernel) (by decide +kernel)
set_option maxRecDepth 20000 in
theorem mw_607 : Cond.lays "ReplayMachineModel" "ReplayMachineModel" "pc" "I" ∈ WS := WS_mem 645 (by decide +kernel) (by decide +kernel)
set_option maxRecDepth 20000 in
theorem mw_609 : Cond.lays "ReplayMachineModel" "ReplayMachineModel" "frame" "I" ∈ WS := WS_mem 647 (by decide +kernel) (by decide +kernel)
set_option maxRecDepth 20000 in
theorem mw_611 : Cond.lays "ReplayMachineModel" "ReplayMachineModel" "x" "I" ∈ WS := WS_mem 649 (by decide +kernel) (by decide +kernel)
set_option maxRecDepth 20000 in
theorem mw_613 : Cond.lays "ReplayMachineModel" "ReplayMachineModel" "taken" "I" ∈ WS := WS_mem 651 (by decide +kernel) (by decide +kernel)
set_option maxRecDepth 20000 in
theorem mw_615 : Cond.lays "ReplayMachineModel" "ReplayMachineModel" "height" "I" ∈ WS := WS_mem 653 (by decide +kernel) (by decide +kernel)
set_option maxRecDepth 20000 in
theorem mw_617 : Cond.laysFinal "ReplayMachineModel" "ReplayMachineModel" "cells" "[I" ∈ WS := WS_mem 655 (by decide +kernel) (by decide +kernel)
set_option maxRecDepth 20000 in
theorem mw_619 : Cond.laysFinal "ReplayMachineModel" "ReplayMachineModel" "stack" "[I" ∈ WS := WS_mem 657 (by decide +kernel) (by decide +kernel)
set_option maxRecDepth 20000 in
theorem mw_621 : Cond.laysFinal "ReplayMachineModel" "ReplayMachineModel" "were" "[I" ∈ WS := WS_mem 659 (by decide +kernel) (by decide +kernel)
set_option maxRecDepth 20000 in
theorem mw_623 : Cond.laysFinal "ReplayMachineModel" "ReplayMachineModel" "markWords" "[I" ∈ WS := WS_mem 661 (by decide +kernel) (by decide +kernel)
set_option maxRecDepth 20000 in
theorem mw_625 : Cond.laysFinal "ReplayMachineModel" "ReplayMachineModel" "markOthers" "[I" ∈ WS := WS_mem 663 (by decide +kernel) (by decide +kernel)
set_option maxRecDepth 20000 in
theorem mw_627 : Cond.lays "ReplayMachineModel" "ReplayMachineModel" "reached" "I" ∈ WS := WS_mem 665 (by decide +kernel) (by decide +kernel)
set_option maxRecDepth 20000 in
theorem mw_629 : Cond.lays "ReplayMachineModel" "ReplayMachineModel" "undo" "I" ∈ WS := WS_mem 667 (by decide +kernel) (by decide +kernel)
set_option maxRecDepth 20000 in
theorem mw_631 : Cond.lays "ReplayMachineModel" "ReplayMachineModel" "cost" "I" ∈ WS := WS_mem 669 (by decide +kernel) (by decide +kernel)
set_option maxRecDepth 20000 in
theorem mw_633 : Cond.lays "ReplayMachineModel" "ReplayMachineModel" "every" "I" ∈ WS := WS_mem 671 (by decide +kernel) (by decide +kernel)
set_option maxRecDepth 20000 in
theorem mw_635 : Cond.lays "ReplayMachineModel" "ReplayMachineModel" "kept" "I" ∈ WS := WS_mem 673 (by decide +kernel) (by decide +kernel)
set_option maxRecDepth 20000 in
theorem mw_637 : Cond.laysFinal "ReplayMachineModel" "ReplayMachineModel" "keptAt" "[I" ∈ WS := WS_mem 675 (by decide +kernel) (by decide +kernel)
set_option maxRecDepth 20000 in
theorem mw_640 : Cond.methodLink "ReplayMachineLaw" 67 y_Mo_thrown ∈ WS := WS_mem 678 (by decide +kernel) (by decide +kernel)
set_option maxRecDepth 20000 in
theorem mw_641 : Cond.instanceMethod y_Mo_thrown ∈ WS := WS_mem 679 (by decide +kernel) (by decide +kernel)
set_option maxRecDepth 20000 in
theorem mw_642 : Cond.selects "ReplayMachineModel" y_Mo_thrown y_Mo_thrown ∈ WS := WS_mem 680 (by decide +kernel) (by decide +kernel)
set_option maxRecDepth 20000 in
theorem mw_643 : Cond.code y_Mo_thrown prog_9_method_2_code 1 (some FieldType.int) ∈ WS := WS_mem 681 (by decide +kernel) (by decide +kernel)
set_option maxRecDepth 20000 in
theorem mw_644 : Cond.methodLink "ReplayMachineLaw" 66 y_Mo_poke ∈ WS := WS_mem 682 (by decide +kernel) (by decide +kernel)
set_option maxRecDepth 20000 in
theorem mw_645 : Cond.instanceMethod y_Mo_poke ∈ WS := WS_mem 683 (by decide +kernel) (by decide +kernel)
set_option maxRecDepth 20000 in
theorem mw_646 : Cond.selects "ReplayMachineModel" y_Mo_poke y_Mo_poke ∈ WS := WS_mem 684 (by decide +kernel) (by decide +kernel)
set_option maxRecDepth 20000 in
theorem mw_647 : Cond.code y_Mo_poke prog_9_method_4_code 3 none ∈ WS := WS_mem 685 (by decide +kernel) (by decide +kernel)
set_option maxRecDepth 20000 in
theorem mw_648 : Cond.methodLink "ReplayMachineLaw" 74 y_Mo_input ∈ WS := WS_mem 686 (by decide +kernel) (by decide +kernel)
set_option maxRecDepth 20000 in
theorem mw_649 : Cond.instanceMethod y_Mo_input ∈ WS := WS_mem 687 (by decide +kernel) (by decide +kernel)
set_option maxRecDepth 20000 in
theorem mw_650 : Cond.selects "ReplayMachineModel" y_Mo_input y_Mo_input ∈ WS := WS_mem 688 (by decide +kernel) (by decide +kernel)
set_option maxRecDepth 20000 in
theorem mw_651 : Cond.code y_Mo_input prog_9_method_5_code 2 (some FieldType.int) ∈ WS := WS_mem 689 (by decide +kernel) (by decide +kernel)
set_option maxRecDepth 20000 in
theorem mw_652 : Cond.methodLink "ReplayMachineLaw" 78 y_Mo_step ∈ WS := WS_mem 690 (by decide +kernel) (by decide +kernel)
set_option maxRecDepth 20000 in
theorem mw_653 : Cond.instanceMethod y_Mo_step ∈ WS := WS_mem 691 (by decide +kernel) (by decide +kernel)
set_option maxRecDepth 20000 in
theorem mw_654 : Cond.selects "ReplayMachineModel" y_Mo_step y_Mo_step ∈ WS := WS_mem 692 (by decide +kernel) (by decide +kernel)
set_option maxRecDepth 20000 in
theorem mw_655 : Cond.code y_Mo_step prog_9_method_22_code 1 (some FieldType.int) ∈ WS := WS_mem 693 (by decide +kernel) (by decide +kernel)
set_option maxRecDepth 20000 in
theorem mw_656 : Cond.methodLink "ReplayMachineModel" 131 y_Mo_advance ∈ WS := WS_mem 694 (by decide +kernel) (by decide +kernel)
set_option maxRecDepth 20000 in
theorem mw_658 : Cond.instanceMethod y_Mo_advance ∈ WS := WS_mem 696 (by decide +kernel) (by decide +kernel)
set_option maxRecDepth 20000 in
theorem mw_659 : Cond.code y_Mo_advance prog_9_method_20_code 2 (some FieldType.int) ∈ WS := WS_mem 697 (by decide +kernel) (by decide +kernel)
set_option maxRecDepth 20000 in
theorem mw_660 : Cond.methodLink "ReplayMachineModel" 119 y_Mo_check ∈ WS := WS_mem 698 (by decide +kernel) (by decide +kernel)
set_option maxRecDepth 20000 in
theorem mw_662 : Cond.instanceMethod y_Mo_check ∈ WS := WS_mem 700 (by decide +kernel) (by decide +kernel)
set_option maxRecDepth 20000 in
theorem mw_663 : Cond.code y_Mo_check prog_9_method_11_code 4 (some FieldType.int) ∈ WS := WS_mem 701 (by decide +kernel) (by decide +kernel)
set_option maxRecDepth 20000 in
theorem mw_664 : Cond.methodLink "ReplayMachineModel" 81 y_Mo_needs ∈ WS := WS_mem 702 (by decide +kernel) (by decide +kernel)
set_option maxRecDepth 20000 in
theorem mw_665 : Cond.static y_Mo_needs ∈ WS := WS_mem 703 (by decide +kernel) (by decide +kernel)
set_option maxRecDepth 20000 in
theorem mw_666 : Cond.code y_Mo_needs prog_9_method_8_code 1 (some FieldType.int) ∈ WS := WS_mem 704 (by decide +kernel) (by decide +kernel)
set_option maxRecDepth 20000 in
theorem mw_667 : Cond.methodLink "ReplayMachineModel" 85 y_Mo_isArgument ∈ WS := WS_mem 705 (by decide +kernel) (by decide +kernel)
set_option maxRecDepth 20000 in
theorem mw_669 : Cond.instanceMethod y_Mo_isArgument ∈ WS := WS_mem 707 (by decide +kernel) (by decide +kernel)
set_option maxRecDepth 20000 in
theorem mw_670 : Cond.code y_Mo_isArgument prog_9_method_10_code 3 (some FieldType.boolean) ∈ WS := WS_mem 708 (by decide +kernel) (by decide +kernel)
set_option maxRecDepth 20000 in
theorem mw_671 : Cond.methodLink "ReplayMachineModel" 89 y_Mo_grows ∈ WS := WS_mem 709 (by decide +kernel) (by decide +kernel)
set_option maxRecDepth 20000 in
theorem mw_672 : Cond.static y_Mo_grows ∈ WS := WS_mem 710 (by decide +kernel) (by decide +kernel)
set_option maxRecDepth 20000 in
theorem mw_673 : Cond.code y_Mo_grows prog_9_method_9_code 1 (some FieldType.int) ∈ WS := WS_mem 711 (by decide +kernel) (by decide +kernel)
set_option maxRecDepth 20000 in
theorem mw_674 : Cond.methodLink "ReplayMachineModel" 78 y_Mo_perform ∈ WS := WS_mem 712 (by decide +kernel) (by decide +kernel)
set_option maxRecDepth 20000 in
theorem mw_676 : Cond.instanceMethod y_Mo_perform ∈ WS := WS_mem 714 (by decide +kernel) (by decide +kernel)
set_option maxRecDepth 20000 in
theorem mw_677 : Cond.code y_Mo_perform prog_9_method_19_code 4 none ∈ WS := WS_mem 715 (by decide +kernel) (by decide +kernel)
set_option maxRecDepth 20000 in
theorem mw_678 : Cond.methodLink "ReplayMachineModel" 96 y_Mo_push ∈ WS := WS_mem 716 (by decide +kernel) (by decide +kernel)
set_option maxRecDepth 20000 in
theorem mw_680 : Cond.instanceMethod y_Mo_push ∈ WS := WS_mem 718 (by decide +kernel) (by decide +kernel)
set_option maxRecDepth 20000 in
theorem mw_681 : Cond.code y_Mo_push prog_9_method_12_code 2 none ∈ WS := WS_mem 719 (by decide +kernel) (by decide +kernel)
set_option maxRecDepth 20000 in
theorem mw_682 : Cond.methodLink "ReplayMachineModel" 92 y_Mo_pop ∈ WS := WS_mem 720 (by decide +kernel) (by decide +kernel)
set_option maxRecDepth 20000 in
theorem mw_684 : Cond.instanceMethod y_Mo_pop ∈ WS := WS_mem 722 (by decide +kernel) (by decide +kernel)
set_option maxRecDepth 20000 in
theorem mw_685 : Cond.code y_Mo_pop prog_9_method_13_code 1 (some FieldType.int) ∈ WS := WS_mem 723 (by decide +kernel) (by decide +kernel)
set_option maxRecDepth 20000 in
theorem mw_686 : Cond.methodLink "ReplayMachineModel" 102 y_Mo_branch ∈ WS := WS_mem 724 (by decide +kernel) (by decide +kernel)
set_option maxRecDepth 20000 in
theorem mw_688 : Cond.instanceMethod y_Mo_branch ∈ WS := WS_mem 726 (by decide +kernel) (by decide +kernel)
set_option maxRecDepth 20000 in
theorem mw_689 : Cond.code y_Mo_branch prog_9_method_15_code 4 none ∈ WS := WS_mem 727 (by decide +kernel) (by decide +kernel)
set_option maxRecDepth 20000 in
theorem mw_690 : Cond.methodLink "ReplayMachineModel" 106 y_Mo_call ∈ WS := WS_mem 728 (by decide +kernel) (by decide +kernel)
set_option maxRecDepth 20000 in
theorem mw_692 : Cond.instanceMethod y_Mo_call ∈ WS := WS_mem 730 (by decide +kernel) (by decide +kernel)
set_option maxRecDepth 20000 in
theorem mw_693 : Cond.code y_Mo_call prog_9_method_17_code 2 none ∈ WS := WS_mem 731 (by decide +kernel) (by decide +kernel)
set_option maxRecDepth 20000 in
theorem mw_694 : Cond.methodLink "ReplayMachineModel" 109 y_Mo_giveBack ∈ WS := WS_mem 732 (by decide +kernel) (by decide +kernel)
set_option maxRecDepth 20000 in
theorem mw_696 : Cond.instanceMethod y_Mo_giveBack ∈ WS := WS_mem 734 (by decide +kernel) (by decide +kernel)
set_option maxRecDepth 20000 in
theorem mw_697 : Cond.code y_Mo_giveBack prog_9_method_16_code 2 none ∈ WS := WS_mem 735 (by decide +kernel) (by decide +kernel)
set_option maxRecDepth 20000 in
theorem mw_698 : Cond.methodLink "ReplayMachineModel" 112 y_Mo_draw ∈ WS := WS_mem 736 (by decide +kernel) (by decide +kernel)
set_option maxRecDepth 20000 in
theorem mw_700 : Cond.instanceMethod y_Mo_draw ∈ WS := WS_mem 738 (by decide +kernel) (by decide +kernel)
set_option maxRecDepth 20000 in
theorem mw_701 : Cond.code y_Mo_draw prog_9_method_18_code 2 (some FieldType.int) ∈ WS := WS_mem 739 (by decide +kernel) (by decide +kernel)
set_option maxRecDepth 20000 in
theorem mw_702 : Cond.constant "ReplayMachineModel" 100 (1103515245) ∈ WS := WS_mem 740 (by decide +kernel) (by decide +kernel)
set_option maxRecDepth 20000 in
theorem mw_703 : Cond.constant "ReplayMachineModel" 101 (65535) ∈ WS := WS_mem 741 (by decide +kernel) (by decide +kernel)
set_option maxRecDepth 20000 in
theorem mw_704 : Cond.methodLink "ReplayMachineModel" 115 y_Mo_reckon ∈ WS := WS_mem 742 (by decide +kernel) (by decide +kernel)
set_option maxRecDepth 20000 in
theorem mw_705 : Cond.static y_Mo_reckon ∈ WS := WS_mem 743 (by decide +kernel) (by decide +kernel)
set_option maxRecDepth 20000 in
theorem mw_706 : Cond.code y_Mo_reckon prog_9_method_14_code 3 (some FieldType.int) ∈ WS := WS_mem 744 (by decide +kernel) (by decide +kernel)
set_option maxRecDepth 20000 in
theorem mw_707 : Cond.methodLink "ReplayMachineModel" 125 y_Mo_grow ∈ WS := WS_mem 745 (by decide +kernel) (by decide +kernel)
set_option maxRecDepth 20000 in
theorem mw_709 : Cond.instanceMethod y_Mo_grow ∈ WS := WS_mem 747 (by decide +kernel) (by decide +kernel)
set_option maxRecDepth 20000 in
theorem mw_710 : Cond.code y_Mo_grow prog_9_method_21_code 2 none ∈ WS := WS_mem 748 (by decide +kernel) (by decide +kernel)
set_option maxRecDepth 20000 in
theorem mw_711 : Cond.methodLink "ReplayMachineLaw" 82 y_Mo_forth ∈ WS := WS_mem 749 (by decide +kernel) (by decide +kernel)
set_option maxRecDepth 20000 in
theorem mw_712 : Cond.instanceMethod y_Mo_forth ∈ WS := WS_mem 750 (by decide +kernel) (by decide +kernel)
set_option maxRecDepth 20000 in
theorem mw_713 : Cond.selects "ReplayMachineModel" y_Mo_forth y_Mo_forth ∈ WS := WS_mem 751 (by decide +kernel) (by decide +kernel)
set_option maxRecDepth 20000 in
theorem mw_714 : Cond.code y_Mo_forth prog_9_method_25_code 4 (some FieldType.int) ∈ WS := WS_mem 752 (by decide +kernel) (by decide +kernel)
set_option maxRecDepth 20000 in
theorem mw_715 : Cond.methodLink "ReplayMachineModel" 134 y_Mo_remember ∈ WS := WS_mem 753 (by decide +kernel) (by decide +kernel)
set_option maxRecDepth 20000 in
theorem mw_717 : Cond.instanceMethod y_Mo_remember ∈ WS := WS_mem 755 (by decide +kernel) (by decide +kernel)
set_option maxRecDepth 20000 in
theorem mw_718 : Cond.code y_Mo_remember prog_9_method_23_code 2 none ∈ WS := WS_mem 756 (by decide +kernel) (by decide +kernel)
set_option maxRecDepth 20000 in
theorem mw_719 : Cond.methodLink "ReplayMachineModel" 137 y_Mo_stop ∈ WS := WS_mem 757 (by decide +kernel) (by decide +kernel)
set_option maxRecDepth 20000 in
theorem mw_721 : Cond.instanceMethod y_Mo_stop ∈ WS := WS_mem 759 (by decide +kernel) (by decide +kernel)
set_option maxRecDepth 20000 in
theorem mw_722 : Cond.code y_Mo_stop prog_9_method_24_code 3 (some FieldType.int) ∈ WS := WS_mem 760 (by decide +kernel) (by decide +kernel)
set_option maxRecDepth 20000 in
theorem mw_723 : Cond.methodLink "ReplayMachineLaw" 89 y_Mo_go ∈ WS := WS_mem 761 (by decide +kernel) (by decide +kernel)
set_option maxRecDepth 20000 in
theorem mw_724 : Cond.instanceMethod y_Mo_go ∈ WS := WS_mem 762 (by decide +kernel) (by decide +kernel)
set_option maxRecDepth 20000 in
theorem mw_725 : Cond.selects "ReplayMachineModel" y_Mo_go y_Mo_go ∈ WS := WS_mem 763 (by decide +kernel) (by decide +kernel)
set_option maxRecDepth 20000 in
theorem mw_726 : Cond.code y_Mo_go prog_9_method_27_code 2 none ∈ WS := WS_mem 764 (by decide +kernel) (by decide +kernel)
set_option maxRecDepth 20000 in
theorem mw_727 : Cond.methodLink "ReplayMachineModel" 140 y_Mo_account ∈ WS := WS_mem 765 (by decide +kernel) (by decide +kernel)
set_option maxRecDepth 20000 in
theorem mw_729 : Cond.instanceMethod y_Mo_account ∈ WS := WS_mem 767 (by decide +kernel) (by decide +kernel)
set_option maxRecDepth 20000 in
theorem mw_730 : Cond.code y_Mo_account prog_9_method_26_code 5 none ∈ WS := WS_mem 768 (by decide +kernel) (by decide +kernel)
set_option maxRecDepth 20000 in
theorem mw_731 : Cond.methodLink "ReplayMachineModel" 143 y_Mo_seek ∈ WS := WS_mem 769 (by decide +kernel) (by decide +kernel)
set_option maxRecDepth 20000 in
theorem mw_733 : Cond.instanceMethod y_Mo_seek ∈ WS := WS_mem 771 (by decide +kernel) (by decide +kernel)
set_option maxRecDepth 20000 in
theorem mw_734 : Cond.code y_Mo_seek prog_9_method_7_code 4 none ∈ WS := WS_mem 772 (by decide +kernel) (by decide +kernel)
set_option maxRecDepth 20000 in
theorem mw_735 : Cond.methodLink "ReplayMachineLaw" 85 y_Mo_back ∈ WS := WS_mem 773 (by decide +kernel) (by decide +kernel)
set_option maxRecDepth 20000 in
theorem mw_736 : Cond.instanceMethod y_Mo_back ∈ WS := WS_mem 774 (by decide +kernel) (by decide +kernel)
set_option maxRecDepth 20000 in
theorem mw_737 : Cond.selects "ReplayMachineModel" y_Mo_back y_Mo_back ∈ WS := WS_mem 775 (by decide +kernel) (by decide +kernel)
set_option maxRecDepth 20000 in
theorem mw_738 : Cond.code y_Mo_back prog_9_method_29_code 4 (some FieldType.int) ∈ WS := WS_mem 776 (by decide +kernel) (by decide +kernel)
set_option maxRecDepth 20000 in
theorem mw_739 : Cond.methodLink "ReplayMachineModel" 146 y_Mo_backOne ∈ WS := WS_mem 777 (by decide +kernel) (by decide +kernel)
set_option maxRecDepth 20000 in
theorem mw_741 : Cond.instanceMethod y_Mo_backOne ∈ WS := WS_mem 779 (by decide +kernel) (by decide +kernel)
set_option maxRecDepth 20000 in
theorem mw_742 : Cond.code y_Mo_backOne prog_9_method_28_code 2 (some FieldType.int) ∈ WS := WS_mem 780 (by decide +kernel) (by decide +kernel)
set_option maxRecDepth 20000 in
theorem mw_743 : Cond.methodLink "ReplayMachineLaw" 92 y_Mo_setBreak ∈ WS := WS_mem 781 (by decide +kernel) (by decide +kernel)
set_option maxRecDepth 20000 in
theorem mw_744 : Cond.instanceMethod y_Mo_setBreak ∈ WS := WS_mem 782 (by decide +kernel) (by decide +kernel)
set_option maxRecDepth 20000 in
theorem mw_745 : Cond.selects "ReplayMachineModel" y_Mo_setBreak y_Mo_setBreak ∈ WS := WS_mem 783 (by decide +kernel) (by decide +kernel)
set_option maxRecDepth 20000 in
theorem mw_746 : Cond.code y_Mo_setBreak prog_9_method_31_code 2 (some FieldType.boolean) ∈ WS := WS_mem 784 (by decide +kernel) (by decide +kernel)
set_option maxRecDepth 20000 in
theorem mw_747 : Cond.methodLink "ReplayMachineModel" 149 y_Mo_outside ∈ WS := WS_mem 785 (by decide +kernel) (by decide +kernel)
set_option maxRecDepth 20000 in
theorem mw_748 : Cond.static y_Mo_outside ∈ WS := WS_mem 786 (by decide +kernel) (by decide +kernel)
set_option maxRecDepth 20000 in
theorem mw_749 : Cond.code y_Mo_outside prog_9_method_30_code 2 (some FieldType.boolean) ∈ WS := WS_mem 787 (by decide +kernel) (by decide +kernel)
set_option maxRecDepth 20000 in
theorem mw_750 : Cond.methodLink "ReplayMachineLaw" 95 y_Mo_clearBreak ∈ WS := WS_mem 788 (by decide +kernel) (by decide +kernel)
set_option maxRecDepth 20000 in
theorem mw_751 : Cond.instanceMethod y_Mo_clearBreak ∈ WS := WS_mem 789 (by decide +kernel) (by decide +kernel)
set_option maxRecDepth 20000 in
theorem mw_752 : Cond.selects "ReplayMachineModel" y_Mo_clearBreak y_Mo_clearBreak ∈ WS := WS_mem 790 (by decide +kernel) (by decide +kernel)
set_option maxRecDepth 20000 in
theorem mw_753 : Cond.code y_Mo_clearBreak prog_9_method_32_code 2 (some FieldType.boolean) ∈ WS := WS_mem 791 (by decide +kernel) (by decide +kernel)
set_option maxRecDepth 20000 in
theorem mw_754 : Cond.methodLink "ReplayMachineLaw" 98 y_Mo_setWatch ∈ WS := WS_mem 792 (by decide +kernel) (by decide +kernel)
set_option maxRecDepth 20000 in
theorem mw_755 : Cond.instanceMethod y_Mo_setWatch ∈ WS := WS_mem 793 (by decide +kernel) (by decide +kernel)
set_option maxRecDepth 20000 in
theorem mw_756 : Cond.selects "ReplayMachineModel" y_Mo_setWatch y_Mo_setWatch ∈ WS := WS_mem 794 (by decide +kernel) (by decide +kernel)
set_option maxRecDepth 20000 in
theorem mw_757 : Cond.code y_Mo_setWatch prog_9_method_33_code 2 (some FieldType.boolean) ∈ WS := WS_mem 795 (by decide +kernel) (by decide +kernel)
set_option maxRecDepth 20000 in
theorem mw_758 : Cond.methodLink "ReplayMachineLaw" 101 y_Mo_clearWatch ∈ WS := WS_mem 796 (by decide +kernel) (by decide +kernel)
set_option maxRecDepth 20000 in
theorem mw_759 : Cond.instanceMethod y_Mo_clearWatch ∈ WS := WS_mem 797 (by decide +kernel) (by decide +kernel)
set_option maxRecDepth 20000 in
theorem mw_760 : Cond.selects "ReplayMachineModel" y_Mo_clearWatch y_Mo_clearWatch ∈ WS := WS_mem 798 (by decide +kernel) (by decide +kernel)
set_option maxRecDepth 20000 in
theorem mw_761 : Cond.code y_Mo_clearWatch prog_9_method_34_code 2 (some FieldType.boolean) ∈ WS := WS_mem 799 (by decide +kernel) (by decide +kernel)
set_option maxRecDepth 20000 in
theorem mw_762 : Cond.methodLink "ReplayMachineLaw" 104 y_Mo_state ∈ WS := WS_mem 800 (by decide +kernel) (by decide +kernel)
set_option maxRecDepth 20000 in
theorem mw_763 : Cond.instanceMethod y_Mo_state ∈ WS := WS_mem 801 (by decide +kernel) (by decide +kernel)
set_option maxRecDepth 20000 in
theorem mw_764 : Cond.selects "ReplayMachineModel" y_Mo_state y_Mo_state ∈ WS := WS_mem 802 (by decide +kernel) (by decide +kernel)
set_option maxRecDepth 20000 in
theorem mw_765 : Cond.code y_Mo_state prog_9_method_35_code 2 (some FieldType.int) ∈ WS := WS_mem 803 (by decide +kernel) (by decide +kernel)
set_option maxRecDepth 20000 in
theorem mw_766 : Cond.methodLink "ReplayMachineModel" 153 y_Mo_fail ∈ WS := WS_mem 804 (by decide +kernel) (by decide +kernel)
set_option maxRecDepth 20000 in
theorem mw_768 : Cond.instanceMethod y_Mo_fail ∈ WS := WS_mem 806 (by decide +kernel) (by decide +kernel)
set_option maxRecDepth 20000 in
theorem mw_769 : Cond.code y_Mo_fail prog_9_method_3_code 2 (some FieldType.int) ∈ WS := WS_mem 807 (by decide +kernel) (by decide +kernel)
set_option maxRecDepth 20000 in
theorem mw_770 : Cond.methodLink "ReplayMachineLaw" 107 y_Mo_cell ∈ WS := WS_mem 808 (by decide +kernel) (by decide +kernel)
set_option maxRecDepth 20000 in
theorem mw_771 : Cond.instanceMethod y_Mo_cell ∈ WS := WS_mem 809 (by decide +kernel) (by decide +kernel)
set_option maxRecDepth 20000 in
theorem mw_772 : Cond.selects "ReplayMachineModel" y_Mo_cell y_Mo_cell ∈ WS := WS_mem 810 (by decide +kernel) (by decide +kernel)
set_option maxRecDepth 20000 in
theorem mw_773 : Cond.code y_Mo_cell prog_9_method_36_code 2 (some FieldType.int) ∈ WS := WS_mem 811 (by decide +kernel) (by decide +kernel)
set_option maxRecDepth 20000 in
theorem mw_774 : Cond.methodLink "ReplayMachineLaw" 110 y_Mo_stack ∈ WS := WS_mem 812 (by decide +kernel) (by decide +kernel)
set_option maxRecDepth 20000 in
theorem mw_775 : Cond.instanceMethod y_Mo_stack ∈ WS := WS_mem 813 (by decide +kernel) (by decide +kernel)
set_option maxRecDepth 20000 in
theorem mw_776 : Cond.selects "ReplayMachineModel" y_Mo_stack y_Mo_stack ∈ WS := WS_mem 814 (by decide +kernel) (by decide +kernel)
set_option maxRecDepth 20000 in
theorem mw_777 : Cond.code y_Mo_stack prog_9_method_37_code 2 (some FieldType.int) ∈ WS := WS_mem 815 (by decide +kernel) (by decide +kernel)
set_option maxRecDepth 20000 in
theorem mw_778 : Cond.methodLink "ReplayMachineLaw" 113 y_Mo_checkpoint ∈ WS := WS_mem 816 (by decide +kernel) (by decide +kernel)
set_option maxRecDepth 20000 in
theorem mw_779 : Cond.instanceMethod y_Mo_checkpoint ∈ WS := WS_mem 817 (by decide +kernel) (by decide +kernel)
set_option maxRecDepth 20000 in
theorem mw_780 : Cond.selects "ReplayMachineModel" y_Mo_checkpoint y_Mo_checkpoint ∈ WS := WS_mem 818 (by decide +kernel) (by decide +kernel)
set_option maxRecDepth 20000 in
theorem mw_781 : Cond.code y_Mo_checkpoint prog_9_method_38_code 2 (some FieldType.int) ∈ WS := WS_mem 819 (by decide +kernel) (by decide +kernel)
set_option maxRecDepth 20000 in
theorem mw_782 : Cond.arrayClass FieldType.long ∈ WS := WS_mem 820 (by decide +kernel) (by decide +kernel)
set_option maxRecDepth 20000 in
theorem mw_783 : Cond.sameMethod "java/lang/Throwable" "java/lang/Throwable" "fillInStackTrace" "(I)Ljava/lang/Throwable;" ∈ WS := WS_mem 821 (by decide +kernel) (by decide +kernel)
set_option maxRecDepth 20000 in
theorem in_Cp : ∀ w ∈ u_ws "ReplayMachine$Checkpoints" T_Cp 3, w ∈ WS := by
  intro w h
  have h2 : w ∈ ([.laysFinal "ReplayMachine$Checkpoints" "ReplayMachine$Checkpoints" "kept" "[LReplayMachine$State;", .lays "ReplayMachine$Checkpoints" "ReplayMachine$Checkpoints" "size" "I", .lays "ReplayMachine$Checkpoints" "ReplayMachine$Checkpoints" "every" "I"] : List Cond) := h
  simp only [List.mem_cons, List.not_mem_nil, or_false] at h2
  rcases h2 with rfl | rfl | rfl
  · exact mw_172
  · exact mw_174
  · exact mw_176
set_option maxRecDepth 20000 in
theorem in_Ma : ∀ w ∈ u_ws "ReplayMachine$Machine" T_Ma 6, w ∈ WS := by
  intro w h
  have h2 : w ∈ ([.laysFinal "ReplayMachine$Machine" "ReplayMachine$Machine" "code" "[I", .laysFinal "ReplayMachine$Machine" "ReplayMachine$Machine" "inputs" "[I", .laysFinal "ReplayMachine$Machine" "ReplayMachine$Machine" "now" "LReplayMachine$State;", .laysFinal "ReplayMachine$Machine" "ReplayMachine$Machine" "undo" "LReplayMachine$Undo;", .lays "ReplayMachine$Machine" "ReplayMachine$Machine" "inputCount" "I", .lays "ReplayMachine$Machine" "ReplayMachine$Machine" "note" "LReplayMachine$Note;"] : List Cond) := h
  simp only [List.mem_cons, List.not_mem_nil, or_false] at h2
  rcases h2 with rfl | rfl | rfl | rfl | rfl | rfl
  · exact mw_144
  · exact mw_146
  · exact mw_148
  · exact mw_150
  · exact mw_152
  · exact mw_154
set_option maxRecDepth 20000 in
theorem in_Nt : ∀ w ∈ u_ws "ReplayMachine$Note" T_Nt 10, w ∈ WS := by
  intro w h
  have h2 : w ∈ ([.lays "ReplayMachine$Note" "ReplayMachine$Registers" "time" "I", .lays "ReplayMachine$Note" "ReplayMachine$Registers" "pc" "I", .lays "ReplayMachine$Note" "ReplayMachine$Registers" "frame" "I", .lays "ReplayMachine$Note" "ReplayMachine$Registers" "x" "I", .lays "ReplayMachine$Note" "ReplayMachine$Registers" "taken" "I", .lays "ReplayMachine$Note" "ReplayMachine$Registers" "height" "I", .lays "ReplayMachine$Note" "ReplayMachine$Registers" "changed" "I", .laysFinal "ReplayMachine$Note" "ReplayMachine$Note" "places" "[I", .laysFinal "ReplayMachine$Note" "ReplayMachine$Note" "words" "[I", .lays "ReplayMachine$Note" "ReplayMachine$Note" "size" "I"] : List Cond) := h
  simp only [List.mem_cons, List.not_mem_nil, or_false] at h2
  rcases h2 with rfl | rfl | rfl | rfl | rfl | rfl | rfl | rfl | rfl | rfl
  · exact mw_115
  · exact mw_116
  · exact mw_117
  · exact mw_118
  · exact mw_119
  · exact mw_120
  · exact mw_121
  · exact mw_109
  · exact mw_111
  · exact mw_113
set_option maxRecDepth 20000 in
theorem in_St : ∀ w ∈ u_ws "ReplayMachine$State" T_St 8, w ∈ WS := by
  intro w h
  have h2 : w ∈ ([.lays "ReplayMachine$State" "ReplayMachine$Registers" "time" "I", .lays "ReplayMachine$State" "ReplayMachine$Registers" "pc" "I", .lays "ReplayMachine$State" "ReplayMachine$Registers" "frame" "I", .lays "ReplayMachine$State" "ReplayMachine$Registers" "x" "I", .lays "ReplayMachine$State" "ReplayMachine$Registers" "taken" "I", .lays "ReplayMachine$State" "ReplayMachine$Registers" "height" "I", .lays "ReplayMachine$State" "ReplayMachine$Registers" "changed" "I", .laysFinal "ReplayMachine$State" "ReplayMachine$State" "memory" "[I"] : List Cond) := h
  simp only [List.mem_cons, List.not_mem_nil, or_false] at h2
  rcases h2 with rfl | rfl | rfl | rfl | rfl | rfl | rfl | rfl
  · exact mw_77
  · exact mw_79
  · exact mw_81
  · exact mw_83
  · exact mw_85
  · exact mw_87
  · exact mw_89
  · exact mw_75
set_option maxRecDepth 20000 in
theorem in_Un : ∀ w ∈ u_ws "ReplayMachine$Undo" T_Un 3, w ∈ WS := by
  intro w h
  have h2 : w ∈ ([.laysFinal "ReplayMachine$Undo" "ReplayMachine$Undo" "notes" "[LReplayMachine$Note;", .lays "ReplayMachine$Undo" "ReplayMachine$Undo" "newest" "I", .lays "ReplayMachine$Undo" "ReplayMachine$Undo" "size" "I"] : List Cond) := h
  simp only [List.mem_cons, List.not_mem_nil, or_false] at h2
  rcases h2 with rfl | rfl | rfl
  · exact mw_128
  · exact mw_130
  · exact mw_132
set_option maxRecDepth 20000 in
theorem in_RM : ∀ w ∈ u_ws "ReplayMachine" T_RM 6, w ∈ WS := by
  intro w h
  have h2 : w ∈ ([.laysFinal "ReplayMachine" "ReplayMachine" "machine" "LReplayMachine$Machine;", .laysFinal "ReplayMachine" "ReplayMachine" "checkpoints" "LReplayMachine$Checkpoints;", .laysFinal "ReplayMachine" "ReplayMachine" "breaks" "[Z", .laysFinal "ReplayMachine" "ReplayMachine" "watches" "[Z", .lays "ReplayMachine" "ReplayMachine" "greatest" "I", .lays "ReplayMachine" "ReplayMachine" "cost" "I"] : List Cond) := h
  simp only [List.mem_cons, List.not_mem_nil, or_false] at h2
  rcases h2 with rfl | rfl | rfl | rfl | rfl | rfl
  · exact mw_185
  · exact mw_187
  · exact mw_189
  · exact mw_191
  · exact mw_193
  · exact mw_195
set_option maxRecDepth 20000 in
theorem in_Mo : ∀ w ∈ u_ws "ReplayMachineModel" T_Mo 23, w ∈ WS := by
  intro w h
  have h2 : w ∈ ([.laysFinal "ReplayMachineModel" "ReplayMachineModel" "program" "[I", .laysFinal "ReplayMachineModel" "ReplayMachineModel" "inputs" "[I", .laysFinal "ReplayMachineModel" "ReplayMachineModel" "breaks" "[Z", .laysFinal "ReplayMachineModel" "ReplayMachineModel" "watches" "[Z", .laysFinal "ReplayMachineModel" "ReplayMachineModel" "cells" "[I", .laysFinal "ReplayMachineModel" "ReplayMachineModel" "stack" "[I", .laysFinal "ReplayMachineModel" "ReplayMachineModel" "were" "[I", .laysFinal "ReplayMachineModel" "ReplayMachineModel" "markWords" "[I", .laysFinal "ReplayMachineModel" "ReplayMachineModel" "markOthers" "[I", .laysFinal "ReplayMachineModel" "ReplayMachineModel" "keptAt" "[I", .lays "ReplayMachineModel" "ReplayMachineModel" "code" "I", .lays "ReplayMachineModel" "ReplayMachineModel" "given" "I", .lays "ReplayMachineModel" "ReplayMachineModel" "time" "I", .lays "ReplayMachineModel" "ReplayMachineModel" "pc" "I", .lays "ReplayMachineModel" "ReplayMachineModel" "frame" "I", .lays "ReplayMachineModel" "ReplayMachineModel" "x" "I", .lays "ReplayMachineModel" "ReplayMachineModel" "taken" "I", .lays "ReplayMachineModel" "ReplayMachineModel" "height" "I", .lays "ReplayMachineModel" "ReplayMachineModel" "reached" "I", .lays "ReplayMachineModel" "ReplayMachineModel" "undo" "I", .lays "ReplayMachineModel" "ReplayMachineModel" "cost" "I", .lays "ReplayMachineModel" "ReplayMachineModel" "every" "I", .lays "ReplayMachineModel" "ReplayMachineModel" "kept" "I"] : List Cond) := h
  simp only [List.mem_cons, List.not_mem_nil, or_false] at h2
  rcases h2 with rfl | rfl | rfl | rfl | rfl | rfl | rfl | rfl | rfl | rfl | rfl | rfl | rfl | rfl | rfl | rfl | rfl | rfl | rfl | rfl | rfl | rfl | rfl
  · exact mw_595
  · exact mw_597
  · exact mw_601
  · exact mw_603
  · exact mw_617
  · exact mw_619
  · exact mw_621
  · exact mw_623
  · exact mw_625
  · exact mw_637
  · exact mw_593
  · exact mw_599
  · exact mw_605
  · exact mw_607
  · exact mw_609
  · exact mw_611
  · exact mw_613
  · exact mw_615
  · exact mw_627
  · exact mw_629
  · exact mw_631
  · exact mw_633
  · exact mw_635
