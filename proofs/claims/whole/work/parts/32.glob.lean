/-! what stays everywhere: links within the nest, the two static tables -/
def tNeeds (j : Nat) : Int32 := ([0, 0, 1, 1, 2, 2, 2, 2, 2, 2, 1, 2, 0, 1, 1, 0, 1, 0, 0, 0, 0] : List Int32).getD j 0
def tGrows (j : Nat) : Int32 := ([0, 1, -1, 1, 0, -1, -1, -1, -1, -1, 0, -2, 0, -1, -1, 2, 0, 1, 1, 1, 1] : List Int32).getD j 0
def gl_stat (nm : String) (f : Nat → Int32) (A : Nat → Prop) (U : State) (H : Heap) : Prop := ∃ t : Nat, va_Z "ReplayMachine$Machine" nm "[I" (.ref t) A U H ∧ va_T .int t 21 (fun j => .int (f j)) A U H
def gl_thr (A : Nat → Prop) (U : State) : Prop := True
def GG (A : Nat → Prop) (U : State) : Prop :=
  va_Nw (.methodLinkNest "ReplayMachine$Machine" 49 y_RM_within "ReplayMachine") U ∧ va_Nw (.methodLinkNest "ReplayMachine$State" 32 y_RM_within "ReplayMachine") U ∧ gl_stat "NEEDS" tNeeds A U U.heap ∧ gl_stat "GROWS" tGrows A U U.heap ∧ gl_thr A U
theorem gl_Zn {C n d : String} {v : Value} {A B : Nat → Prop} {U : State} {H : Heap} (h : va_Z C n d v A U H) (hAB : ∀ q, B q → A q) : va_Z C n d v B U H := by
  obtain ⟨cf, kf, fi, f, a, cell, h1, h2, h3, h4, h5, h6, h7, h8⟩ := h
  exact ⟨cf, kf, fi, f, a, cell, h1, h2, h3, h4, h5, h6, h7, fun z => h8 (hAB a z)⟩
theorem gl_Zk {C n d : String} {v : Value} {A : Nat → Prop} {U : State} {H H1 : Heap} (h : va_Z C n d v A U H) (hq : ∀ a : Nat, a < H.size → ¬ A a → H1[a]? = H[a]?) : va_Z C n d v A U H1 := by
  obtain ⟨cf, kf, fi, f, a, cell, h1, h2, h3, h4, h5, h6, h7, h8⟩ := h
  exact ⟨cf, kf, fi, f, a, cell, h1, h2, h3, h4, by rw [hq a (Array.getElem?_eq_some_iff.mp h5).1 h8]; exact h5, h6, h7, h8⟩
theorem gl_stat_mv {nm : String} {f : Nat → Int32} {A A' : Nat → Prop} {s U : State} {H : Heap} {locs : List Loc} (h : gl_stat nm f A s s.heap) (hS : va_S A s.heap H locs) (hA : ∀ q, A' q → A q) (hv : s.vm.Alike U.vm) : gl_stat nm f A' U H := by
  obtain ⟨t, h1, h2⟩ := h
  exact ⟨t, gl_Zn (gl_Zk (va_Z.moved hv h1) hS.2.1) hA, va_T.narrow (va_T.kept (va_T.moved hv h2) hS.2.1) hA⟩
theorem GG_k : px_Gk GG := by
  refine ⟨fun A U g mk a h => ?_, fun A A' s U H locs h hS hA hW hU => ?_⟩
  · obtain ⟨h1, h2, ⟨t3, a3, b3⟩, ⟨t4, a4, b4⟩, h5⟩ := h
    exact ⟨va_Nw.same rfl rfl h1, va_Nw.same rfl rfl h2, ⟨t3, va_Z.moved (u := U) (U := U.calling g mk a) (Vm.Alike.refl U.vm) a3, va_T.moved (u := U) (U := U.calling g mk a) (Vm.Alike.refl U.vm) b3⟩, ⟨t4, va_Z.moved (u := U) (U := U.calling g mk a) (Vm.Alike.refl U.vm) a4, va_T.moved (u := U) (U := U.calling g mk a) (Vm.Alike.refl U.vm) b4⟩, h5⟩
  · obtain ⟨h1, h2, h3, h4, h5⟩ := h
    subst hU
    exact ⟨va_Nw.warmM hW h1, va_Nw.warmM hW h2, gl_stat_mv h3 hS hA hW.alike, gl_stat_mv h4 hS hA hW.alike, h5⟩
abbrev TYS (aC : Nat → ClassId) : List (ClassId × FieldType) := [(aC 0, .int), (aC 1, .boolean), (aC 2, .object "ReplayMachine$Note"), (aC 3, .object "ReplayMachine$State"), (aC 4, .long)]
section GR
variable {p : Program} {l : Launch} {e : Env} {R : Room} {s : State} {m : MethodId} {args : Array Value} {below : List Frame} {meth : Method} {cd : Code} {Q : State → Prop} {cells slots : Nat}
variable {cc : ByteArray} {Ts : List Cond} {own : String} {G : (Nat → Prop) → State → Prop} {D : va_G} {A : Nat → Prop} {ad : Nat → Nat} {n nL : Nat} {c : Nat → va_E} {pc : Nat} {L : List (Nat × Value)} {st : List Value} {cl : List vw_C} {tys : List (ClassId × FieldType)}
theorem j_L {L' : List (Nat × Value)} (h : L = L') (kk : px_J p l e R s m args below meth cd D cl A ad n nL cells slots Q c pc L' st) : px_J p l e R s m args below meth cd D cl A ad n nL cells slots Q c pc L st := h ▸ kk
theorem z_L {L' : List (Nat × Value)} (h : L = L') (kk : px_Z p l e R s m args below meth cd nL Q pc L' st) : px_Z p l e R s m args below meth cd nL Q pc L st := h ▸ kk
theorem z_st {st' : List Value} (h : st = st') (kk : px_Z p l e R s m args below meth cd nL Q pc L st') : px_Z p l e R s m args below meth cd nL Q pc L st := h ▸ kk
theorem j_gets (X : px_X p s m args cd cc nL Ts own G D cl tys A ad n) {nm d : String} {v : Value} {index : Nat} (hZ : va_Z own nm d v A s s.heap) (hl : Cond.fieldLink own index own nm d ∈ Ts) (hd : decode cc pc = .ok (.getstatic index, 3))
    (kk : px_J p l e R s m args below meth cd D cl A ad n nL cells slots Q c (pc + 3) L (v :: st)) : px_J p l e R s m args below meth cd D cl A ad n nL cells slots Q c pc L st :=
  fun ls H locs h1 h2 h3 => va_gets X.1.1 X.1.2.1 hZ h3 X.1.2.2.2.1 (X.1.2.2.2.2 _ hl) (fun _ h => h) hd (kk ls H locs h1 h2 h3)
theorem j_ti (X : px_X p s m args cd cc nL Ts own G D cl tys A ad n) {t N : Nat} {f : Nat → Int32} (hT : va_T .int t N (fun j => .int (f j)) A s s.heap) {x : Int32} (hin : vp_in x N) (hd : decode cc pc = .ok (.iaload, 1))
    (kk : px_J p l e R s m args below meth cd D cl A ad n nL cells slots Q c (pc + 1) L (.int (f x.toNatClampNeg) :: st)) : px_J p l e R s m args below meth cd D cl A ad n nL cells slots Q c pc L (.int x :: .ref t :: st) :=
  fun ls H locs h1 h2 h3 => va_ti X.1.1 X.1.2.1 hT h3 hin rfl hd (kk ls H locs h1 h2 h3)
end GR
def sZ (S : xS) (i : Nat) (j x : Int32) : xS := sR S i (upd (gR S i) j.toNatClampNeg (vp_nar .boolean x))
