/-- a name for a value, that opens by an equation -/
def px_let {α β : Type} (a : α) (f : α → β) : β := f a
theorem px_let_eq {α β : Type} {a b : α} {f : α → β} (h : b = a) : px_let a f = f b := by rw [h]; rfl
section PXS
variable {p : Program} {l : Launch} {e : Env} {R : Room} {s : State} {m : MethodId} {args : Array Value} {below : List Frame} {meth : Method} {cd : Code} {Q : State → Prop} {cells slots : Nat}
variable {D : va_G} {A : Nat → Prop} {ad : Nat → Nat} {n nL : Nat} {c : Nat → va_E} {pc : Nat} {L : List (Nat × Value)} {st : List Value} {cl : List vw_C}
theorem j_sub {L' : List (Nat × Value)} (ks : List Nat) (h : lv_pick L ks = L') (kk : px_J p l e R s m args below meth cd D cl A ad n nL cells slots Q c pc L' st) : px_J p l e R s m args below meth cd D cl A ad n nL cells slots Q c pc L st :=
  fun ls H locs h1 h2 h3 => kk ls H locs (lv_sub h1 ks h) h2 h3
end PXS
