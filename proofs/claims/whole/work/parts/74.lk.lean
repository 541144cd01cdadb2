/-! what the mathematics owes: a relation of the two stores that every call keeps, with equal answers -/
def lk_poke (Rl : xS → xS → Prop) : Prop := ∀ (S T : xS) (a w : Int32), Rl S T → p_Mo_poke T a w ∧ ((gI (f_Mo_poke T a w).2 124 10 = 0 ∧ p_RM_poke S a w ∧ Rl (f_RM_poke S a w).2 (f_Mo_poke T a w).2) ∨ (gI (f_Mo_poke T a w).2 124 10 = 1 ∧ tp_RM_poke_IOOBE S a w ∧ Rl S (f_Mo_poke T a w).2) ∨ (gI (f_Mo_poke T a w).2 124 10 = 2 ∧ tp_RM_poke_ISE S a w ∧ Rl S (f_Mo_poke T a w).2))
def lk_input (Rl : xS → xS → Prop) : Prop := ∀ (S T : xS) (a : Int32), Rl S T → p_Mo_input T a ∧ p_RM_input S a ∧ (f_RM_input S a).1 = (f_Mo_input T a).1 ∧ Rl (f_RM_input S a).2 (f_Mo_input T a).2
def lk_step (Rl : xS → xS → Prop) : Prop := ∀ (S T : xS), Rl S T → p_Mo_step T ∧ p_RM_step S ∧ (f_RM_step S).1 = (f_Mo_step T).1 ∧ Rl (f_RM_step S).2 (f_Mo_step T).2
def lk_forth (Rl : xS → xS → Prop) : Prop := ∀ (S T : xS) (a : Int32), Rl S T → p_Mo_forth T a ∧ ((gI (f_Mo_forth T a).2 124 10 = 0 ∧ p_RM_forth S a ∧ (f_RM_forth S a).1 = (f_Mo_forth T a).1 ∧ Rl (f_RM_forth S a).2 (f_Mo_forth T a).2) ∨ (gI (f_Mo_forth T a).2 124 10 = 1 ∧ tp_RM_forth_IAE S a ∧ Rl S (f_Mo_forth T a).2))
def lk_back (Rl : xS → xS → Prop) : Prop := ∀ (S T : xS) (a : Int32), Rl S T → p_Mo_back T a ∧ ((gI (f_Mo_back T a).2 124 10 = 0 ∧ p_RM_back S a ∧ (f_RM_back S a).1 = (f_Mo_back T a).1 ∧ Rl (f_RM_back S a).2 (f_Mo_back T a).2) ∨ (gI (f_Mo_back T a).2 124 10 = 1 ∧ tp_RM_back_IAE S a ∧ Rl S (f_Mo_back T a).2))
def lk_go (Rl : xS → xS → Prop) : Prop := ∀ (S T : xS) (a : Int32), Rl S T → p_Mo_go T a ∧ ((gI (f_Mo_go T a).2 124 10 = 0 ∧ p_RM_go S a ∧ Rl (f_RM_go S a).2 (f_Mo_go T a).2) ∨ (gI (f_Mo_go T a).2 124 10 = 1 ∧ tp_RM_go_IAE S a ∧ Rl S (f_Mo_go T a).2))
def lk_setBreak (Rl : xS → xS → Prop) : Prop := ∀ (S T : xS) (a : Int32), Rl S T → p_Mo_setBreak T a ∧ ((gI (f_Mo_setBreak T a).2 124 10 = 0 ∧ p_RM_setBreak S a ∧ (f_RM_setBreak S a).1 = (f_Mo_setBreak T a).1 ∧ Rl (f_RM_setBreak S a).2 (f_Mo_setBreak T a).2) ∨ (gI (f_Mo_setBreak T a).2 124 10 = 1 ∧ tp_RM_setBreak_IOOBE S a ∧ Rl S (f_Mo_setBreak T a).2))
def lk_clearBreak (Rl : xS → xS → Prop) : Prop := ∀ (S T : xS) (a : Int32), Rl S T → p_Mo_clearBreak T a ∧ ((gI (f_Mo_clearBreak T a).2 124 10 = 0 ∧ p_RM_clearBreak S a ∧ (f_RM_clearBreak S a).1 = (f_Mo_clearBreak T a).1 ∧ Rl (f_RM_clearBreak S a).2 (f_Mo_clearBreak T a).2) ∨ (gI (f_Mo_clearBreak T a).2 124 10 = 1 ∧ tp_RM_clearBreak_IOOBE S a ∧ Rl S (f_Mo_clearBreak T a).2))
def lk_setWatch (Rl : xS → xS → Prop) : Prop := ∀ (S T : xS) (a : Int32), Rl S T → p_Mo_setWatch T a ∧ ((gI (f_Mo_setWatch T a).2 124 10 = 0 ∧ p_RM_setWatch S a ∧ (f_RM_setWatch S a).1 = (f_Mo_setWatch T a).1 ∧ Rl (f_RM_setWatch S a).2 (f_Mo_setWatch T a).2) ∨ (gI (f_Mo_setWatch T a).2 124 10 = 1 ∧ tp_RM_setWatch_IOOBE S a ∧ Rl S (f_Mo_setWatch T a).2))
def lk_clearWatch (Rl : xS → xS → Prop) : Prop := ∀ (S T : xS) (a : Int32), Rl S T → p_Mo_clearWatch T a ∧ ((gI (f_Mo_clearWatch T a).2 124 10 = 0 ∧ p_RM_clearWatch S a ∧ (f_RM_clearWatch S a).1 = (f_Mo_clearWatch T a).1 ∧ Rl (f_RM_clearWatch S a).2 (f_Mo_clearWatch T a).2) ∨ (gI (f_Mo_clearWatch T a).2 124 10 = 1 ∧ tp_RM_clearWatch_IOOBE S a ∧ Rl S (f_Mo_clearWatch T a).2))
def lk_state (Rl : xS → xS → Prop) : Prop := ∀ (S T : xS) (a : Int32), Rl S T → True ∧ ((gI (f_Mo_state T a).2 124 10 = 0 ∧ p_RM_state S a ∧ f_RM_state S a = (f_Mo_state T a).1 ∧ Rl S (f_Mo_state T a).2) ∨ (gI (f_Mo_state T a).2 124 10 = 1 ∧ tp_RM_state_IOOBE S a ∧ Rl S (f_Mo_state T a).2))
def lk_cell (Rl : xS → xS → Prop) : Prop := ∀ (S T : xS) (a : Int32), Rl S T → p_Mo_cell T a ∧ p_RM_cell S a ∧ f_RM_cell S a = (f_Mo_cell T a).1 ∧ Rl S (f_Mo_cell T a).2
def lk_stack (Rl : xS → xS → Prop) : Prop := ∀ (S T : xS) (a : Int32), Rl S T → p_Mo_stack T a ∧ ((gI (f_Mo_stack T a).2 124 10 = 0 ∧ p_RM_stack S a ∧ f_RM_stack S a = (f_Mo_stack T a).1 ∧ Rl S (f_Mo_stack T a).2) ∨ (gI (f_Mo_stack T a).2 124 10 = 1 ∧ tp_RM_stack_IOOBE S a ∧ Rl S (f_Mo_stack T a).2))
def lk_checkpoint (Rl : xS → xS → Prop) : Prop := ∀ (S T : xS) (a : Int32), Rl S T → p_Mo_checkpoint T a ∧ ((gI (f_Mo_checkpoint T a).2 124 10 = 0 ∧ p_RM_checkpoint S a ∧ f_RM_checkpoint S a = (f_Mo_checkpoint T a).1 ∧ Rl S (f_Mo_checkpoint T a).2) ∨ (gI (f_Mo_checkpoint T a).2 124 10 = 1 ∧ tp_RM_checkpoint_IOOBE S a ∧ Rl S (f_Mo_checkpoint T a).2))
def lk_start (Rl : xS → xS → Prop) : Prop := ∀ x : Int32, p_Mo_mark (T00 x) ∧ Rl (S0 x) (sI (f_Mo_mark (T00 x)).2 124 22 1)
def LK (Rl : xS → xS → Prop) : Prop := lk_start Rl ∧ lk_poke Rl ∧ lk_input Rl ∧ lk_step Rl ∧ lk_forth Rl ∧ lk_back Rl ∧ lk_go Rl ∧ lk_setBreak Rl ∧ lk_clearBreak Rl ∧ lk_setWatch Rl ∧ lk_clearWatch Rl ∧ lk_state Rl ∧ lk_cell Rl ∧ lk_stack Rl ∧ lk_checkpoint Rl
theorem ye_out {aC : Nat → ClassId} {ad : Nat → Nat} {S : xS} {c0 : Nat → va_E} : ye aC ad S c0 135 = c0 135 := rfl
theorem ye_up {aC : Nat → ClassId} {ad : Nat → Nat} {S : xS} {c0 : Nat → va_E} {v : va_E} : va_up (ye aC ad S c0) 135 v = ye aC ad S (va_up c0 135 v) := by
  funext j
  by_cases hj : j = 135
  · subst hj; rfl
  · show (if j = 135 then v else ye aC ad S c0 j) = ye aC ad S (va_up c0 135 v) j
    rw [if_neg hj]
    have : va_up c0 135 v j = c0 j := by simp [va_up, hj]
    unfold ye
    rw [this]
/-- the law's world -/
abbrev lwW (aC : Nat → ClassId) (ad : Nat → Nat) (S T : xS) (c0 : Nat → va_E) : Nat → va_E := ye aC ad T (xe aC ad S c0)
theorem lwW_x {aC : Nat → ClassId} {ad : Nat → Nat} {S T : xS} {c0 : Nat → va_E} : lwW aC ad S T c0 = xe aC ad S (ye aC ad T c0) := xy_comm.symm
theorem lwW_up {aC : Nat → ClassId} {ad : Nat → Nat} {S T : xS} {c0 : Nat → va_E} {v : va_E} : xe aC ad S (va_up (ye aC ad T c0) 135 v) = lwW aC ad S T (va_up c0 135 v) := by rw [ye_up]; exact xy_comm
theorem lwW_out {aC : Nat → ClassId} {ad : Nat → Nat} {S T : xS} {c0 : Nat → va_E} : lwW aC ad S T c0 135 = c0 135 := rfl
