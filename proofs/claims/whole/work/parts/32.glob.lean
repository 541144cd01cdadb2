/-! what stays everywhere: links within the nest, the two static tables -/
def tNeeds (j : Nat) : Int32 := ([0, 0, 1, 1, 2, 2, 2, 2, 2, 2, 1, 2, 0, 1, 1, 0, 1, 0, 0, 0, 0] : List Int32).getD j 0
def tGrows (j : Nat) : Int32 := ([0, 1, -1, 1, 0, -1, -1, -1, -1, -1, 0, -2, 0, -1, -1, 2, 0, 1, 1, 1, 1] : List Int32).getD j 0
def gl_stat (nm : String) (f : Nat → Int32) (A : Nat → Prop) (U : State) (H : Heap) : Prop := ∃ t : Nat, va_Z "ReplayMachine$Machine" nm "[I" (.ref t) A U H ∧ va_T .int t 21 (fun j => .int (f j)) A U H
/-- a static of the JDK's that holds a reference or null, in a cell that nobody changes -/
def gl_ls (O f d : String) (A : Nat → Prop) (U : State) : Prop := (Cond.laysStatic O f d).before #[] U = true ∧ (Cond.isRef (.static O f d)).before #[] U = true ∧ ∀ c k i fd a, U.fieldFound? O f d = some (c, k, i, fd) → k.statics = some a → a < U.heap.size ∧ ¬ A a
theorem gl_ls_at {O f d : String} {A A' : Nat → Prop} {V U : State} (hv : U.vm = V.vm) (hh : ∀ a, a < V.heap.size → ¬ A a → U.heap[a]? = V.heap[a]?) (hA : ∀ q, A' q → A q) (hz : V.heap.size ≤ U.heap.size) (h : gl_ls O f d A V) : gl_ls O f d A' U := by
  obtain ⟨h1, h2, h3⟩ := h
  obtain ⟨c, k, i, fd, a, cell, hc, hf, hst, hsta, hcell, hiss, hcls, hlt, hty⟩ := Cond.laysStatic_spec h1
  obtain ⟨ha, hna⟩ := h3 c k i fd a hf hsta
  have hf' : U.fieldFound? O f d = some (c, k, i, fd) := by
    rw [← hf]
    unfold State.fieldFound?
    rw [hv]
  have hc' : U.vm.findClass O = some c := by rw [hv]; exact hc
  have hcell' : U.heap[a]? = some cell := by rw [hh a ha hna]; exact hcell
  obtain ⟨u, hu⟩ := Cond.staticRefV hf hst hsta hcell hiss h2
  refine ⟨by simp [Cond.before, Cond.holds, Cond.value, hc', hf', hst, hsta, hcell', hiss, hcls, hlt, hty], ?_, fun c2 k2 i2 fd2 a2 g1 g2 => ?_⟩
  · have he : (Term.static O f d).eval #[] U none [] U = some u.v := by
      rw [← hu]
      simp [Term.eval, State.fieldNamed?, hf', hst, hsta, hcell', hiss]
    obtain ⟨v, hv2⟩ := u
    simp only [Cond.before, Cond.holds, Cond.value, he]
    cases v <;> first | rfl | (exact absurd hv2 (by simp [Value.isRef]))
  · cases hf'.symm.trans g1
    cases hsta.symm.trans g2
    exact ⟨Nat.lt_of_lt_of_le ha hz, fun z => hna (hA a z)⟩
theorem gl_ls_vm {O f d : String} {A : Nat → Prop} {s U : State} (hW : s.WarmedH U.vm) (h : gl_ls O f d A s) : gl_ls O f d A (s.setVm U.vm) := by
  obtain ⟨h1, h2, h3⟩ := h
  refine ⟨Cond.before_shiftedFace (State.Shifted.of_warmed hW) _ rfl h1, Cond.before_shiftedFace (State.Shifted.of_warmed hW) _ rfl h2, fun c k i fd a g1 g2 => ?_⟩
  obtain ⟨c0, k0, i0, f0, a0, cell, hc, hf, hst, hsta, hcell, hiss, hcls, hlt, hty⟩ := Cond.laysStatic_spec h1
  obtain ⟨k', hi', he⟩ := State.fieldFound?_setVm hW.alike hf
  cases hi'.symm.trans g1
  have g3 : k0.statics = some a := by rw [he] at g2; exact g2
  exact h3 _ _ _ _ a hf g3
def DW : List Cond := [.declares ⟨"java/lang/RuntimeException", "<init>", "(Ljava/lang/String;)V"⟩, .declares ⟨"java/lang/Exception", "<init>", "(Ljava/lang/String;)V"⟩, .declares ⟨"java/lang/Throwable", "<init>", "(Ljava/lang/String;)V"⟩,
  .castable "java/lang/IndexOutOfBoundsException" "java/lang/IndexOutOfBoundsException", .castable "java/lang/IllegalStateException" "java/lang/IllegalStateException", .castable "java/lang/IllegalArgumentException" "java/lang/IllegalArgumentException"]
def STRS : List (Nat × String) := [(38, "no such place of the code"), (49, "the machine has run already"), (73, "fuel is 0 .. 1000"), (91, "the machine has not been at this time"), (97, "no such cell"), (127, "no such part of the state"), (132, "no such number on the stack"), (137, "no such checkpoint")]
/-- what a throw needs beside WS -/
def gl_thr (A : Nat → Prop) (U : State) : Prop := (∀ w ∈ DW, w.before #[] U = true) ∧ gl_ls "java/lang/Throwable" "UNASSIGNED_STACK" "[Ljava/lang/StackTraceElement;" A U ∧ gl_ls "java/lang/Throwable" "SUPPRESSED_SENTINEL" "Ljava/util/List;" A U ∧ (∀ q ∈ STRS, ∃ a, vk_R "ReplayMachine" q.1 q.2 a U) ∧
  ∃ c t, U.vm.findClass "java/lang/IllegalStateException" = some c ∧ U.vm.findClass "java/lang/IndexOutOfBoundsException" = some t ∧ U.vm.assignable c t = false
theorem gl_thr_mv {A A' : Nat → Prop} {s U : State} {H : Heap} {locs : List Loc} (h : gl_thr A s) (hS : va_S A s.heap H locs) (hA : ∀ q, A' q → A q) (hW : s.WarmedH U.vm) (hU : U.heap = H) : gl_thr A' U := by
  obtain ⟨h1, h2, h3, h4, c, t, h5, h6, h7⟩ := h
  have hh : ∀ a, a < (s.setVm U.vm).heap.size → ¬ A a → U.heap[a]? = (s.setVm U.vm).heap[a]? := fun a g1 g2 => by rw [hU]; exact hS.2.1 a g1 g2
  have hz : (s.setVm U.vm).heap.size ≤ U.heap.size := by rw [hU]; exact hS.1
  refine ⟨fun w hw => ?_, gl_ls_at (V := s.setVm U.vm) rfl hh hA hz (gl_ls_vm hW h2), gl_ls_at (V := s.setVm U.vm) rfl hh hA hz (gl_ls_vm hW h3), fun q hq => ?_, c, t, by rw [hW.alike.findClass]; exact h5, by rw [hW.alike.findClass]; exact h6, by rw [hW.alike.assignable]; exact h7⟩
  · have hk : w.keepsFace = true ∧ w.onTables = true := by
      revert hw w
      unfold DW
      decide +kernel
    exact va_tabs hk.2 (rfl : (s.setVm U.vm).vm = U.vm) (Cond.before_shiftedFace (State.Shifted.of_warmed hW) _ hk.1 (h1 w hw))
  · obtain ⟨a, ha⟩ := h4 q hq
    exact ⟨a, vk_R.warm hW ha⟩
theorem gl_thr_same {A : Nat → Prop} {U V : State} (hv : V.vm = U.vm) (hh : V.heap = U.heap) (h : gl_thr A U) : gl_thr A V := by
  obtain ⟨h1, h2, h3, h4, c, t, h5, h6, h7⟩ := h
  refine ⟨fun w hw => ?_, gl_ls_at hv (fun a _ _ => by rw [hh]) (fun _ z => z) (by rw [hh]; exact Nat.le_refl _) h2, gl_ls_at hv (fun a _ _ => by rw [hh]) (fun _ z => z) (by rw [hh]; exact Nat.le_refl _) h3, fun q hq => ?_, c, t, by rw [hv]; exact h5, by rw [hv]; exact h6, by rw [hv]; exact h7⟩
  · have hk : w.onTables = true := by
      revert hw w
      unfold DW
      decide +kernel
    exact va_tabs hk hv.symm (h1 w hw)
  · obtain ⟨a, ha⟩ := h4 q hq
    exact ⟨a, vk_R.same hv ha⟩
def GG (A : Nat → Prop) (U : State) : Prop :=
  va_Nw (.methodLinkNest "ReplayMachine$Machine" 49 y_RM_within "ReplayMachine") U ∧ va_Nw (.methodLinkNest "ReplayMachine$State" 32 y_RM_within "ReplayMachine") U ∧ gl_stat "NEEDS" tNeeds A U U.heap ∧ gl_stat "GROWS" tGrows A U U.heap ∧ gl_thr A U
theorem gl_Zn {C n d : String} {v : Value} {A B : Nat → Prop} {U : State} {H : Heap} (h : va_Z C n d v A U H) (hAB : ∀ q, B q → A q) : va_Z C n d v B U H := by
  obtain ⟨cf, kf, fi, f, a, cell, h1, h2, h3, h4, h5, h6, h7, h8⟩ := h
  exact ⟨cf, kf, fi, f, a, cell, h1, h2, h3, h4, h5, h6, h7, fun z => h8 (hAB a z)⟩
theorem gl_Zk {C n d : String} {v : Value} {A : Nat → Prop} {U : State} {H H1 : Heap} (h : va_Z C n d v A U H) (hq : ∀ a : Nat, a < H.size → ¬ A a → H1[a]? = H[a]?) : va_Z C n d v A U H1 := by
  obtain ⟨cf, kf, fi, f, a, cell, h1, h2, h3, h4, h5, h6, h7, h8⟩ := h
  exact ⟨cf, kf, fi, f, a, cell, h1, h2, h3, h4, by rw [hq a (Array.getElem?_eq_some_iff.mp h5).1 h8]; exact h5, h6, h7, h8⟩
theorem gl_stat_mv {nm : String} {f : Nat → Int32} {A A' : Nat → Prop} {s U : State} {H : Heap} {locs : List Loc} (h : gl_stat nm f A s s.heap) (hS : va_S A s.heap H locs) (hA : ∀ q, A' q → A q) (hv : s.vm.Alike U.vm) : gl_stat nm f A' U H := by
  obtain ⟨t, h1, h2⟩ := h
  exact ⟨t, gl_Zn (gl_Zk (va_Z.moved hv h1) hS.2.1) hA, va_T.narrow (va_T.kept (va_T.moved hv h2) hS.2.1) hA⟩
theorem GG_k : px_Gk GG := by
  refine ⟨fun A U g mk a h => ?_, fun A A' s U H locs h hS hA hW hU => ?_⟩
  · obtain ⟨h1, h2, ⟨t3, a3, b3⟩, ⟨t4, a4, b4⟩, h5⟩ := h
    exact ⟨va_Nw.same rfl rfl h1, va_Nw.same rfl rfl h2, ⟨t3, va_Z.moved (u := U) (U := U.calling g mk a) (Vm.Alike.refl U.vm) a3, va_T.moved (u := U) (U := U.calling g mk a) (Vm.Alike.refl U.vm) b3⟩, ⟨t4, va_Z.moved (u := U) (U := U.calling g mk a) (Vm.Alike.refl U.vm) a4, va_T.moved (u := U) (U := U.calling g mk a) (Vm.Alike.refl U.vm) b4⟩, gl_thr_same (U := U) (V := U.calling g mk a) rfl rfl h5⟩
  · obtain ⟨h1, h2, h3, h4, h5⟩ := h
    subst hU
    exact ⟨va_Nw.warmM hW h1, va_Nw.warmM hW h2, gl_stat_mv h3 hS hA hW.alike, gl_stat_mv h4 hS hA hW.alike, gl_thr_mv h5 hS hA hW rfl⟩
abbrev TYS (aC : Nat → ClassId) : List (ClassId × FieldType) := [(aC 0, .int), (aC 1, .boolean), (aC 2, .object "ReplayMachine$Note"), (aC 3, .object "ReplayMachine$State"), (aC 4, .long)]
section GR
variable {p : Program} {l : Launch} {e : Env} {R : Room} {s : State} {m : MethodId} {args : Array Value} {below : List Frame} {meth : Method} {cd : Code} {Q : State → Prop} {cells slots : Nat}
variable {cc : ByteArray} {Ts : List Cond} {own : String} {G : (Nat → Prop) → State → Prop} {D : va_G} {A : Nat → Prop} {ad : Nat → Nat} {n nL : Nat} {c : Nat → va_E} {pc : Nat} {L : List (Nat × Value)} {st : List Value} {cl : List vw_C} {tys : List (ClassId × FieldType)}
theorem j_L {L' : List (Nat × Value)} (h : L = L') (kk : px_J p l e R s m args below meth cd D cl A ad n nL cells slots Q c pc L' st) : px_J p l e R s m args below meth cd D cl A ad n nL cells slots Q c pc L st := h ▸ kk
theorem z_L {L' : List (Nat × Value)} (h : L = L') (kk : px_Z p l e R s m args below meth cd nL Q pc L' st) : px_Z p l e R s m args below meth cd nL Q pc L st := h ▸ kk
theorem z_st {st' : List Value} (h : st = st') (kk : px_Z p l e R s m args below meth cd nL Q pc L st') : px_Z p l e R s m args below meth cd nL Q pc L st := h ▸ kk
theorem j_gets (X : px_X p s m args cd cc nL Ts own G D cl tys A ad n) {nm d : String} {v : Value} {index : Nat} (hZ : va_Z own nm d v A s s.heap) (hl : Cond.fieldLink own index own nm d ∈ Ts) (hd : decode cc pc = .ok (.getstatic index, 3))
    (kk : px_J p l e R s m args below meth cd D cl A ad n nL cells slots Q c (pc + 3) L (v :: st)) : px_J p l e R s m args below meth cd D cl A ad n nL cells slots Q c pc L st :=
  fun ls H locs h1 h2 h3 => va_gets X.1.1 X.1.2.1 hZ h3 X.1.2.2.2.1 (X.1.2.2.2.2 _ hl) (fun _ h => h) hd (kk ls H locs h1 h2 h3)
theorem j_ti (X : px_X p s m args cd cc nL Ts own G D cl tys A ad n) {t N : Nat} {f : Nat → Int32} (hT : va_T .int t N (fun j => .int (f j)) A s s.heap) {x : Int32} (hin : vp_in x N) (hd : decode cc pc = .ok (.iaload, 1))
    (kk : px_J p l e R s m args below meth cd D cl A ad n nL cells slots Q c (pc + 1) L (.int (f x.toNatClampNeg) :: st)) : px_J p l e R s m args below meth cd D cl A ad n nL cells slots Q c pc L (.int x :: .ref t :: st) :=
  fun ls H locs h1 h2 h3 => va_ti X.1.1 X.1.2.1 hT h3 hin rfl hd (kk ls H locs h1 h2 h3)
end GR
def sZ (S : xS) (i : Nat) (j x : Int32) : xS := sR S i (upd (gR S i) j.toNatClampNeg (vp_nar .boolean x))
