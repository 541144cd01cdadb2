/-! the reference's cells by index: 124 the object, 125 .. 134 its arrays; a store of the same kind as the class's -/
def yc (aC : Nat → ClassId) (ad : Nat → Nat) (j : Nat) (r a : Nat → Int32) (e0 : va_E) : va_E :=
  if j = 124 then .inr (6, [.ref (ad 125), .ref (ad 126), .ref (ad 127), .ref (ad 128), .ref (ad 129), .ref (ad 130), .ref (ad 131), .ref (ad 132), .ref (ad 133), .ref (ad 134), .int (r 10), .int (r 11), .int (r 12), .int (r 13), .int (r 14), .int (r 15), .int (r 16), .int (r 17), .int (r 18), .int (r 19), .int (r 20), .int (r 21), .int (r 22)]) else
  if j = 125 then .inl (aC 0, 64, .inl a) else
  if j = 126 then .inl (aC 0, 40, .inl a) else
  if j = 127 then .inl (aC 1, 64, .inl a) else
  if j = 128 then .inl (aC 1, 32, .inl a) else
  if j = 129 then .inl (aC 0, 32, .inl a) else
  if j = 130 then .inl (aC 0, 24, .inl a) else
  if j = 131 then .inl (aC 0, 32, .inl a) else
  if j = 132 then .inl (aC 0, 728, .inl a) else
  if j = 133 then .inl (aC 0, 65, .inl a) else
  if j = 134 then .inl (aC 0, 9, .inl a) else
  e0
def ye (aC : Nat → ClassId) (ad : Nat → Nat) (S : xS) (c0 : Nat → va_E) : Nat → va_E := fun j => yc aC ad j (gI S j) (gR S j) (c0 j)
section YW
variable {aC : Nat → ClassId} {ad : Nat → Nat} {S : xS} {c0 : Nat → va_E} {i : Nat}
theorem y_Mo : ye aC ad S c0 124 = .inr (6, [.ref (ad 125), .ref (ad 126), .ref (ad 127), .ref (ad 128), .ref (ad 129), .ref (ad 130), .ref (ad 131), .ref (ad 132), .ref (ad 133), .ref (ad 134), .int (gI S 124 10), .int (gI S 124 11), .int (gI S 124 12), .int (gI S 124 13), .int (gI S 124 14), .int (gI S 124 15), .int (gI S 124 16), .int (gI S 124 17), .int (gI S 124 18), .int (gI S 124 19), .int (gI S 124 20), .int (gI S 124 21), .int (gI S 124 22)]) := rfl
theorem y_program : ye aC ad S c0 125 = .inl (aC 0, 64, .inl (gR S 125)) := rfl
theorem y_inputs : ye aC ad S c0 126 = .inl (aC 0, 40, .inl (gR S 126)) := rfl
theorem y_breaks : ye aC ad S c0 127 = .inl (aC 1, 64, .inl (gR S 127)) := rfl
theorem y_watches : ye aC ad S c0 128 = .inl (aC 1, 32, .inl (gR S 128)) := rfl
theorem y_cells : ye aC ad S c0 129 = .inl (aC 0, 32, .inl (gR S 129)) := rfl
theorem y_stack : ye aC ad S c0 130 = .inl (aC 0, 24, .inl (gR S 130)) := rfl
theorem y_were : ye aC ad S c0 131 = .inl (aC 0, 32, .inl (gR S 131)) := rfl
theorem y_markWords : ye aC ad S c0 132 = .inl (aC 0, 728, .inl (gR S 132)) := rfl
theorem y_markOthers : ye aC ad S c0 133 = .inl (aC 0, 65, .inl (gR S 133)) := rfl
theorem y_keptAt : ye aC ad S c0 134 = .inl (aC 0, 9, .inl (gR S 134)) := rfl
theorem y_upI {k : Nat} {x : Int32} {e : va_E} (he : ye aC ad (sI S i k x) c0 i = e) : va_up (ye aC ad S c0) i e = ye aC ad (sI S i k x) c0 := by
  funext j
  by_cases hj : j = i
  · subst hj; simp [va_up, he]
  · have h1 : gI (sI S i k x) j = gI S j := by funext q; simp [gI, sI, va_up, hj]
    show (if j = i then e else ye aC ad S c0 j) = ye aC ad (sI S i k x) c0 j
    rw [if_neg hj]
    unfold ye
    rw [h1]
    rfl
theorem y_upR {f : Nat → Int32} {e : va_E} (he : ye aC ad (sR S i f) c0 i = e) : va_up (ye aC ad S c0) i e = ye aC ad (sR S i f) c0 := by
  funext j
  by_cases hj : j = i
  · subst hj; simp [va_up, he]
  · have h1 : gR (sR S i f) j = gR S j := by funext q; simp [gR, sR, va_up, hj]
    show (if j = i then e else ye aC ad S c0 j) = ye aC ad (sR S i f) c0 j
    rw [if_neg hj]
    unfold ye
    rw [h1]
    rfl
theorem y_put_10 {x : Int32} : va_up (ye aC ad S c0) 124 (.inr (6, [.ref (ad 125), .ref (ad 126), .ref (ad 127), .ref (ad 128), .ref (ad 129), .ref (ad 130), .ref (ad 131), .ref (ad 132), .ref (ad 133), .ref (ad 134), .int (gI S 124 10), .int (gI S 124 11), .int (gI S 124 12), .int (gI S 124 13), .int (gI S 124 14), .int (gI S 124 15), .int (gI S 124 16), .int (gI S 124 17), .int (gI S 124 18), .int (gI S 124 19), .int (gI S 124 20), .int (gI S 124 21), .int (gI S 124 22)].set 10 (.int x))) = ye aC ad (sI S 124 10 x) c0 := y_upI (by rw [y_Mo]; simp [gI, sI, va_up, upd])
theorem y_put_11 {x : Int32} : va_up (ye aC ad S c0) 124 (.inr (6, [.ref (ad 125), .ref (ad 126), .ref (ad 127), .ref (ad 128), .ref (ad 129), .ref (ad 130), .ref (ad 131), .ref (ad 132), .ref (ad 133), .ref (ad 134), .int (gI S 124 10), .int (gI S 124 11), .int (gI S 124 12), .int (gI S 124 13), .int (gI S 124 14), .int (gI S 124 15), .int (gI S 124 16), .int (gI S 124 17), .int (gI S 124 18), .int (gI S 124 19), .int (gI S 124 20), .int (gI S 124 21), .int (gI S 124 22)].set 11 (.int x))) = ye aC ad (sI S 124 11 x) c0 := y_upI (by rw [y_Mo]; simp [gI, sI, va_up, upd])
theorem y_put_12 {x : Int32} : va_up (ye aC ad S c0) 124 (.inr (6, [.ref (ad 125), .ref (ad 126), .ref (ad 127), .ref (ad 128), .ref (ad 129), .ref (ad 130), .ref (ad 131), .ref (ad 132), .ref (ad 133), .ref (ad 134), .int (gI S 124 10), .int (gI S 124 11), .int (gI S 124 12), .int (gI S 124 13), .int (gI S 124 14), .int (gI S 124 15), .int (gI S 124 16), .int (gI S 124 17), .int (gI S 124 18), .int (gI S 124 19), .int (gI S 124 20), .int (gI S 124 21), .int (gI S 124 22)].set 12 (.int x))) = ye aC ad (sI S 124 12 x) c0 := y_upI (by rw [y_Mo]; simp [gI, sI, va_up, upd])
theorem y_put_13 {x : Int32} : va_up (ye aC ad S c0) 124 (.inr (6, [.ref (ad 125), .ref (ad 126), .ref (ad 127), .ref (ad 128), .ref (ad 129), .ref (ad 130), .ref (ad 131), .ref (ad 132), .ref (ad 133), .ref (ad 134), .int (gI S 124 10), .int (gI S 124 11), .int (gI S 124 12), .int (gI S 124 13), .int (gI S 124 14), .int (gI S 124 15), .int (gI S 124 16), .int (gI S 124 17), .int (gI S 124 18), .int (gI S 124 19), .int (gI S 124 20), .int (gI S 124 21), .int (gI S 124 22)].set 13 (.int x))) = ye aC ad (sI S 124 13 x) c0 := y_upI (by rw [y_Mo]; simp [gI, sI, va_up, upd])
theorem y_put_14 {x : Int32} : va_up (ye aC ad S c0) 124 (.inr (6, [.ref (ad 125), .ref (ad 126), .ref (ad 127), .ref (ad 128), .ref (ad 129), .ref (ad 130), .ref (ad 131), .ref (ad 132), .ref (ad 133), .ref (ad 134), .int (gI S 124 10), .int (gI S 124 11), .int (gI S 124 12), .int (gI S 124 13), .int (gI S 124 14), .int (gI S 124 15), .int (gI S 124 16), .int (gI S 124 17), .int (gI S 124 18), .int (gI S 124 19), .int (gI S 124 20), .int (gI S 124 21), .int (gI S 124 22)].set 14 (.int x))) = ye aC ad (sI S 124 14 x) c0 := y_upI (by rw [y_Mo]; simp [gI, sI, va_up, upd])
theorem y_put_15 {x : Int32} : va_up (ye aC ad S c0) 124 (.inr (6, [.ref (ad 125), .ref (ad 126), .ref (ad 127), .ref (ad 128), .ref (ad 129), .ref (ad 130), .ref (ad 131), .ref (ad 132), .ref (ad 133), .ref (ad 134), .int (gI S 124 10), .int (gI S 124 11), .int (gI S 124 12), .int (gI S 124 13), .int (gI S 124 14), .int (gI S 124 15), .int (gI S 124 16), .int (gI S 124 17), .int (gI S 124 18), .int (gI S 124 19), .int (gI S 124 20), .int (gI S 124 21), .int (gI S 124 22)].set 15 (.int x))) = ye aC ad (sI S 124 15 x) c0 := y_upI (by rw [y_Mo]; simp [gI, sI, va_up, upd])
theorem y_put_16 {x : Int32} : va_up (ye aC ad S c0) 124 (.inr (6, [.ref (ad 125), .ref (ad 126), .ref (ad 127), .ref (ad 128), .ref (ad 129), .ref (ad 130), .ref (ad 131), .ref (ad 132), .ref (ad 133), .ref (ad 134), .int (gI S 124 10), .int (gI S 124 11), .int (gI S 124 12), .int (gI S 124 13), .int (gI S 124 14), .int (gI S 124 15), .int (gI S 124 16), .int (gI S 124 17), .int (gI S 124 18), .int (gI S 124 19), .int (gI S 124 20), .int (gI S 124 21), .int (gI S 124 22)].set 16 (.int x))) = ye aC ad (sI S 124 16 x) c0 := y_upI (by rw [y_Mo]; simp [gI, sI, va_up, upd])
theorem y_put_17 {x : Int32} : va_up (ye aC ad S c0) 124 (.inr (6, [.ref (ad 125), .ref (ad 126), .ref (ad 127), .ref (ad 128), .ref (ad 129), .ref (ad 130), .ref (ad 131), .ref (ad 132), .ref (ad 133), .ref (ad 134), .int (gI S 124 10), .int (gI S 124 11), .int (gI S 124 12), .int (gI S 124 13), .int (gI S 124 14), .int (gI S 124 15), .int (gI S 124 16), .int (gI S 124 17), .int (gI S 124 18), .int (gI S 124 19), .int (gI S 124 20), .int (gI S 124 21), .int (gI S 124 22)].set 17 (.int x))) = ye aC ad (sI S 124 17 x) c0 := y_upI (by rw [y_Mo]; simp [gI, sI, va_up, upd])
theorem y_put_18 {x : Int32} : va_up (ye aC ad S c0) 124 (.inr (6, [.ref (ad 125), .ref (ad 126), .ref (ad 127), .ref (ad 128), .ref (ad 129), .ref (ad 130), .ref (ad 131), .ref (ad 132), .ref (ad 133), .ref (ad 134), .int (gI S 124 10), .int (gI S 124 11), .int (gI S 124 12), .int (gI S 124 13), .int (gI S 124 14), .int (gI S 124 15), .int (gI S 124 16), .int (gI S 124 17), .int (gI S 124 18), .int (gI S 124 19), .int (gI S 124 20), .int (gI S 124 21), .int (gI S 124 22)].set 18 (.int x))) = ye aC ad (sI S 124 18 x) c0 := y_upI (by rw [y_Mo]; simp [gI, sI, va_up, upd])
theorem y_put_19 {x : Int32} : va_up (ye aC ad S c0) 124 (.inr (6, [.ref (ad 125), .ref (ad 126), .ref (ad 127), .ref (ad 128), .ref (ad 129), .ref (ad 130), .ref (ad 131), .ref (ad 132), .ref (ad 133), .ref (ad 134), .int (gI S 124 10), .int (gI S 124 11), .int (gI S 124 12), .int (gI S 124 13), .int (gI S 124 14), .int (gI S 124 15), .int (gI S 124 16), .int (gI S 124 17), .int (gI S 124 18), .int (gI S 124 19), .int (gI S 124 20), .int (gI S 124 21), .int (gI S 124 22)].set 19 (.int x))) = ye aC ad (sI S 124 19 x) c0 := y_upI (by rw [y_Mo]; simp [gI, sI, va_up, upd])
theorem y_put_20 {x : Int32} : va_up (ye aC ad S c0) 124 (.inr (6, [.ref (ad 125), .ref (ad 126), .ref (ad 127), .ref (ad 128), .ref (ad 129), .ref (ad 130), .ref (ad 131), .ref (ad 132), .ref (ad 133), .ref (ad 134), .int (gI S 124 10), .int (gI S 124 11), .int (gI S 124 12), .int (gI S 124 13), .int (gI S 124 14), .int (gI S 124 15), .int (gI S 124 16), .int (gI S 124 17), .int (gI S 124 18), .int (gI S 124 19), .int (gI S 124 20), .int (gI S 124 21), .int (gI S 124 22)].set 20 (.int x))) = ye aC ad (sI S 124 20 x) c0 := y_upI (by rw [y_Mo]; simp [gI, sI, va_up, upd])
theorem y_put_21 {x : Int32} : va_up (ye aC ad S c0) 124 (.inr (6, [.ref (ad 125), .ref (ad 126), .ref (ad 127), .ref (ad 128), .ref (ad 129), .ref (ad 130), .ref (ad 131), .ref (ad 132), .ref (ad 133), .ref (ad 134), .int (gI S 124 10), .int (gI S 124 11), .int (gI S 124 12), .int (gI S 124 13), .int (gI S 124 14), .int (gI S 124 15), .int (gI S 124 16), .int (gI S 124 17), .int (gI S 124 18), .int (gI S 124 19), .int (gI S 124 20), .int (gI S 124 21), .int (gI S 124 22)].set 21 (.int x))) = ye aC ad (sI S 124 21 x) c0 := y_upI (by rw [y_Mo]; simp [gI, sI, va_up, upd])
theorem y_put_22 {x : Int32} : va_up (ye aC ad S c0) 124 (.inr (6, [.ref (ad 125), .ref (ad 126), .ref (ad 127), .ref (ad 128), .ref (ad 129), .ref (ad 130), .ref (ad 131), .ref (ad 132), .ref (ad 133), .ref (ad 134), .int (gI S 124 10), .int (gI S 124 11), .int (gI S 124 12), .int (gI S 124 13), .int (gI S 124 14), .int (gI S 124 15), .int (gI S 124 16), .int (gI S 124 17), .int (gI S 124 18), .int (gI S 124 19), .int (gI S 124 20), .int (gI S 124 21), .int (gI S 124 22)].set 22 (.int x))) = ye aC ad (sI S 124 22 x) c0 := y_upI (by rw [y_Mo]; simp [gI, sI, va_up, upd])
theorem y_ast_program {f : Nat → Int32} : va_up (ye aC ad S c0) 125 (.inl (aC 0, 64, .inl f)) = ye aC ad (sR S 125 f) c0 := y_upR (by rw [y_program]; simp [gR, sR, va_up])
theorem y_ast_inputs {f : Nat → Int32} : va_up (ye aC ad S c0) 126 (.inl (aC 0, 40, .inl f)) = ye aC ad (sR S 126 f) c0 := y_upR (by rw [y_inputs]; simp [gR, sR, va_up])
theorem y_ast_breaks {f : Nat → Int32} : va_up (ye aC ad S c0) 127 (.inl (aC 1, 64, .inl f)) = ye aC ad (sR S 127 f) c0 := y_upR (by rw [y_breaks]; simp [gR, sR, va_up])
theorem y_ast_watches {f : Nat → Int32} : va_up (ye aC ad S c0) 128 (.inl (aC 1, 32, .inl f)) = ye aC ad (sR S 128 f) c0 := y_upR (by rw [y_watches]; simp [gR, sR, va_up])
theorem y_ast_cells {f : Nat → Int32} : va_up (ye aC ad S c0) 129 (.inl (aC 0, 32, .inl f)) = ye aC ad (sR S 129 f) c0 := y_upR (by rw [y_cells]; simp [gR, sR, va_up])
theorem y_ast_stack {f : Nat → Int32} : va_up (ye aC ad S c0) 130 (.inl (aC 0, 24, .inl f)) = ye aC ad (sR S 130 f) c0 := y_upR (by rw [y_stack]; simp [gR, sR, va_up])
theorem y_ast_were {f : Nat → Int32} : va_up (ye aC ad S c0) 131 (.inl (aC 0, 32, .inl f)) = ye aC ad (sR S 131 f) c0 := y_upR (by rw [y_were]; simp [gR, sR, va_up])
theorem y_ast_markWords {f : Nat → Int32} : va_up (ye aC ad S c0) 132 (.inl (aC 0, 728, .inl f)) = ye aC ad (sR S 132 f) c0 := y_upR (by rw [y_markWords]; simp [gR, sR, va_up])
theorem y_ast_markOthers {f : Nat → Int32} : va_up (ye aC ad S c0) 133 (.inl (aC 0, 65, .inl f)) = ye aC ad (sR S 133 f) c0 := y_upR (by rw [y_markOthers]; simp [gR, sR, va_up])
theorem y_ast_keptAt {f : Nat → Int32} : va_up (ye aC ad S c0) 134 (.inl (aC 0, 9, .inl f)) = ye aC ad (sR S 134 f) c0 := y_upR (by rw [y_keptAt]; simp [gR, sR, va_up])
end YW
section YR
variable {p : Program} {l : Launch} {e : Env} {R : Room} {s : State} {m : MethodId} {args : Array Value} {below : List Frame} {meth : Method} {cd : Code} {Q : State → Prop} {cells slots : Nat}
variable {D : va_G} {A : Nat → Prop} {ad : Nat → Nat} {n nL : Nat} {c : Nat → va_E} {pc : Nat} {L : List (Nat × Value)} {st : List Value} {cl : List vw_C}
variable {aC : Nat → ClassId} {c0 : Nat → va_E}
theorem y_gen {T : xS} (kk : ∀ S' : xS, S' = T → px_J p l e R s m args below meth cd D cl A ad n nL cells slots Q (ye aC ad S' c0) pc L st) : px_J p l e R s m args below meth cd D cl A ad n nL cells slots Q (ye aC ad T c0) pc L st := kk T rfl
end YR
/-- the two worlds don't meet -/
theorem xy_comm {aC : Nat → ClassId} {ad : Nat → Nat} {S T : xS} {c0 : Nat → va_E} : xe aC ad S (ye aC ad T c0) = ye aC ad T (xe aC ad S c0) := by
  funext j
  by_cases h : j < 124
  · have e1 : ∀ d : va_E, yc aC ad j (gI T j) (gR T j) d = d := fun d => by
      unfold yc
      rw [if_neg (show ¬ j = 124 by omega), if_neg (show ¬ j = 125 by omega), if_neg (show ¬ j = 126 by omega), if_neg (show ¬ j = 127 by omega), if_neg (show ¬ j = 128 by omega), if_neg (show ¬ j = 129 by omega), if_neg (show ¬ j = 130 by omega), if_neg (show ¬ j = 131 by omega), if_neg (show ¬ j = 132 by omega), if_neg (show ¬ j = 133 by omega), if_neg (show ¬ j = 134 by omega)]
    show xc aC ad j (gI S j) (gR S j) (gK S) (gN S) (yc aC ad j (gI T j) (gR T j) (c0 j)) = yc aC ad j (gI T j) (gR T j) (xc aC ad j (gI S j) (gR S j) (gK S) (gN S) (c0 j))
    rw [e1, e1]
  · have e1 : ∀ d : va_E, xc aC ad j (gI S j) (gR S j) (gK S) (gN S) d = d := fun d => by
      unfold xc
      rw [if_neg (show ¬ j = 0 by omega), if_neg (show ¬ j = 1 by omega), if_neg (show ¬ j = 2 by omega), if_neg (show ¬ j = 3 by omega), if_neg (show ¬ j = 4 by omega), if_neg (show ¬ j = 5 by omega), if_neg (show ¬ j = 6 by omega), if_neg (show ¬ j = 7 by omega), if_neg (show ¬ j < 104 by omega), if_neg (show ¬ j = 104 by omega), if_neg (show ¬ j = 105 by omega), if_neg (show ¬ j < 122 by omega), if_neg (show ¬ j = 122 by omega), if_neg (show ¬ j = 123 by omega)]
    show xc aC ad j (gI S j) (gR S j) (gK S) (gN S) (yc aC ad j (gI T j) (gR T j) (c0 j)) = yc aC ad j (gI T j) (gR T j) (xc aC ad j (gI S j) (gR S j) (gK S) (gN S) (c0 j))
    rw [e1, e1]
