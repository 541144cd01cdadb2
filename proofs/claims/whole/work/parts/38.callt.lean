section CALLT
variable {p : Program} {l : Launch} {e : Env} {R : Room} {s : State} {m : MethodId} {args : Array Value} {below : List Frame} {meth : Method} {cd : Code} {Q : State → Prop} {cells slots : Nat}
variable {cc : ByteArray} {Ts : List Cond} {own : String} {G : (Nat → Prop) → State → Prop} {D : va_G} {A : Nat → Prop} {ad : Nat → Nat} {n nL : Nat} {c : Nat → va_E} {pc : Nat} {L : List (Nat × Value)} {st : List Value} {cl : List vw_C} {tys : List (ClassId × FieldType)}
/-- a callee that throws: the walk stands at the call, the exception over it; at most one cell of six slots more -/
theorem px_invT {U : State} {locs : List Loc} (X : Stand p l e R s m args below meth cd U locs cells slots) {y : MethodName} {bytes : ByteArray} {maxL : Nat} {ret : Option FieldType} {ws : List Cond} {rm : Room} {Xn : String} {Pc : Array Value → State → Prop} {sz : Nat} {a : Array Value} {mk : MethodId}
    (hM : MetFree l y (headSpec ws rm) Pc (fun _ _ _ _ _ => True) (px_QT D cl ad n sz Xn c)) (hws : ∀ w ∈ ws, w.before a U = true) (hcode : (Cond.code y bytes maxL ret).before a U = true) (hinit : (Cond.initialized y.cls).before a U = true)
    (hrc : rm.cells = 1) (hrs : rm.slots = 6) (hfr : rm.frames + 1 ≤ R.frames) (hlo : 8 + (maxL + 11) + rm.locals ≤ R.locals) (hf : cells + 1 ≤ R.cells ∧ slots + 6 ≤ R.slots)
    {g : JFrame} (hg : g.method = m) (hsize : g.locals.size = cd.maxLocals) {ig : Instr} {len : Nat} (hdg : decode cd.code g.pc = .ok (ig, len)) (hW : 2 * g.monitorRoom + (g.stack.map fun v => v.category).sum ≤ 8) (hn : U.methodNamed? y = some mk) (hP : Pc a (U.calling g mk a)) :
    ∃ (x : Nat) (ce : Cell) (B : State), Stand p l e R s m args below meth cd B locs (cells + 1) (slots + 6) ∧ B.heap[x]? = some ce ∧ ce.vm = .none ∧ U.vm.findClass Xn = some ce.cls ∧ va_P D cl (px_W ad c n) B.heap ∧ U.heap.size ≤ B.heap.size ∧ (∀ q : Nat, q < U.heap.size → B.heap[q]? = U.heap[q]?) ∧ U.WarmedH B.vm ∧
      Steps p.tables e below (doInvoke e (U.setTop g) [] mk a).1 ((B.setTop g).pushFrame (.throwing x)) := by
  obtain ⟨methY, cY, hmY, hcY, -, hlY, -, -, -, -⟩ := Cond.code_spec hn hcode
  obtain ⟨kY, hkY, -⟩ := className_of_methodNamed hn
  have hinitY : kY.init = .initialized := Cond.initialized_spec (findClass_of_methodNamed hn) hkY hinit
  have h : At U g.method cd below := by rw [hg]; exact X.here
  have happ : (headSpec ws rm).appliesLoose y e.platform (U.calling g mk a) = true :=
    Spec.appliesLoose_calling (g := g) h hdg hn hkY hinitY
      (X.room_calling (g := g) (R' := (headSpec ws rm).room) hsize hmY hcY hfr (by rw [hlY]; have : (headSpec ws rm).room.locals = rm.locals := rfl; omega) (by have : (headSpec ws rm).room.cells = rm.cells := rfl; omega) (by have : (headSpec ws rm).room.slots = rm.slots := rfl; omega)) (atoms_intro hws)
  obtain ⟨mid, hmid⟩ := h.above
  have hfr' : (U.setTop g).frames = (.java g :: mid) ++ below := by rw [State.frames_setTop' g h.top, hmid]; rfl
  obtain ⟨o, s₂, hsteps, -, hend, hq⟩ := Steps.callFree hM p X.admits X.cas X.clock (acts := []) hfr' happ hP trivial
  rw [State.frames_setTop' g h.top] at hend
  obtain ⟨x, ce, rfl, hce, hcv, hcc, hPw, hF, hW₂, e2, q2, q3, q4, q5, q6⟩ := (show px_QT D cl ad n sz Xn c a (U.calling g mk a) o s₂ from hq)
  have e3 : s₂ = ({ (U.calling g mk a).setFrames s₂.frames with heap := s₂.heap, slotsUsed := s₂.slotsUsed } : State).setVm s₂.vm := by
    have : s₂ = ({ s₂ with vm := (U.calling g mk a).vm } : State).setVm s₂.vm := rfl
    rw [e2] at this
    exact this
  have hf₂ : s₂.frames = .throwing x :: .java g :: U.frames.tail := hend
  have hW' : U.WarmedH s₂.vm := hW₂
  obtain ⟨g₀, hg0⟩ := Option.isSome_iff_exists.mp h.top
  obtain ⟨r, hr⟩ := State.topJava?_eq_some.mp hg0
  have hs₂ : s₂ = ((({ U with heap := s₂.heap, slotsUsed := s₂.slotsUsed } : State).setVm s₂.vm).setTop g).pushFrame (.throwing x) := by
    have hr' : (({ U with heap := s₂.heap, slotsUsed := s₂.slotsUsed } : State).setVm s₂.vm).frames = .java g₀ :: r := hr
    refine e3.trans ?_
    rw [hf₂, State.calling_eq h.top, State.setFrames_setFrames, State.pushFrame, State.frames_setTop _ hr', State.setTop_of_frames _ hr', State.setFrames_setFrames, hr]
    rfl
  have hsame : U.sameButNew ({ U with heap := s₂.heap, slotsUsed := s₂.slotsUsed } : State) [] 1 6 := by
    refine ⟨?_, q2, q3, q4, q5, q6⟩
    obtain ⟨t, ht, -⟩ := State.frames_cons hr
    show ({ U with heap := s₂.heap, slotsUsed := s₂.slotsUsed } : State) = { U.setFrames U.frames with heap := s₂.heap, slotsUsed := s₂.slotsUsed }
    rw [State.setFrames_self ht]
  have hold : ∀ q : Nat, q < U.heap.size → s₂.heap[q]? = U.heap[q]? := fun q hq => by
    have g1 := State.sameButNew.old_cell hsame (a := q) (c := U.heap[q]) (by simp [hq])
    have g2 : s₂.heap[q]? = some U.heap[q] := g1
    rw [g2]; simp [hq]
  subst hg
  have hXs := X.same.trans (hsame.setVm s.vm)
  rw [List.append_nil] at hXs
  refine ⟨x, ce, (({ U with heap := s₂.heap, slotsUsed := s₂.slotsUsed } : State).setVm s₂.vm),
    ⟨X.admits, X.cas, X.clock, X.frames, X.room, X.hears, X.method, X.code, (X.here.setHeapUsed s₂.heap s₂.slotsUsed).setVm hW'.alike, X.tail, State.WarmedH.trans X.warmed hW', X.limits, X.bytes, hXs⟩,
    hce, hcv, hcc, hPw, q2, hold, hW', ?_⟩
  rw [← hs₂]
  exact hsteps
/-- the handler that takes an exception of the class Xn thrown at pc, whatever is linked on the way -/
def px_Hd (e : Env) (s : State) (m : MethodId) (cd : Code) (pc hpc : Nat) (Xn : String) : Prop := ∀ (B : State) (x : Nat) (ce : Cell) (g : JFrame), s.WarmedH B.vm → B.heap[x]? = some ce → ce.vm = .none → s.vm.findClass Xn = some ce.cls → g.method = m → g.pc = pc → ∃ vm', s.WarmedH vm' ∧ ct_F e ((B.setTop g).pushFrame (.throwing x)) g x cd.exceptionTable.toList hpc vm'
theorem j_callT (X : px_X p s m args cd cc nL Ts own G D cl tys A ad n) {y : MethodName} {bytes : ByteArray} {maxL na index hpc : Nat} {ret : Option FieldType} {rm : Room} {As st0 : List Value} {Xn : String} (hH : px_Hd e s m cd pc hpc Xn) (i : Nat) (hi : i < n) (hY : px_Y Ts y bytes maxL ret na) (hM : px_T l y (Cond.code y bytes maxL ret :: Ts) rm G D cl tys (.ref (ad i) :: As) ad c n Xn) (hl : Cond.methodLink own index y ∈ Ts) (hin : Cond.instanceMethod y ∈ Ts) (hse : Cond.selects y.cls y y ∈ Ts)
    {ci : Nat} {fs : List Value} {T0 : u_T} {N : Nat} (he : c i = .inr (ci, fs)) (hc : cl[ci]? = some (y.cls, T0, N)) (hn : As.length = na) (hst : st0 = As.reverse ++ .ref (ad i) :: st) (hW : (st.map fun v => v.category).sum ≤ 8) (hd : decode cc pc = .ok (.invokevirtual index, 3)) (hrc : rm.cells = 1) (hrs : rm.slots = 6) (hR : rm.frames + 1 ≤ R.frames ∧ 8 + (maxL + 11) + rm.locals ≤ R.locals) (hf : cells + 1 ≤ R.cells ∧ slots + 6 ≤ R.slots)
    (kk : ∀ q : Nat, px_J p l e R s m args below meth cd D cl A ad n nL (cells + 1) (slots + 6) Q c hpc L [.ref q]) : px_J p l e R s m args below meth cd D cl A ad n nL cells slots Q c pc L st0 := by
  intro ls H locs h1 h2 h3 T hT Y
  have hts := X.1.2.2.2.2
  have hcode := hts _ hY.2.1
  have hy : y.cls ≠ "java/lang/invoke/MethodHandle" ∧ y.cls ≠ "java/lang/invoke/VarHandle" := ⟨hY.2.2.2.1, hY.2.2.2.2.1⟩
  obtain ⟨cellB, hcB, hoB, hclB⟩ := va_recv X.2.1 h2 hc (by rw [px_at hi, he])
  obtain ⟨mk, methM, hnamed, hmethM, hstM, habM⟩ := Cond.instanceMethod_spec (hts _ hin)
  obtain ⟨methM', cM, hmethM', -, -, -, -, -, -, hsigM⟩ := Cond.code_spec hnamed hcode
  cases hmethM.symm.trans hmethM'
  obtain ⟨c2, r2, m2, q1, q2, q3, q4, kP, hkP, hkPi⟩ := Cond.selects_spec (hts _ hse)
  cases hclB.symm.trans q1
  cases (State.methodFound?_of_named hnamed hy).symm.trans q2
  cases hnamed.symm.trans q3
  have hselP : selectMethod e.platform s.vm cellB.cls mk = .method mk := by rw [Launch.admits_selectMethod Y.admits]; exact q4
  have hlen : As.length = methM.sig.parameters.length := by
    have h9 := hY.2.2.2.2.2
    rw [hsigM] at h9
    rw [hn]
    exact (Option.some.inj h9).symm
  obtain ⟨vm₁, X₁, hstep₁⟩ := Y.invokevirtual X.1.1 X.1.2.2.2.1 (hts _ hl) hnamed hmethM hstM hkP hkPi hy (a := ad i) (cell := cellB) (by rw [hT]; exact hcB)
    (fun z h => by rw [h] at hoB; cases hoB) hselP hmethM habM hkP hkPi (g := F0 m pc ls st0) rfl (argsL := As) (rest := st) hlen hst (by rw [X.1.2.1]; exact hd)
  have hWU : s.WarmedH (T.setVm vm₁).vm := X₁.warmed
  have hwd : ∀ w ∈ Ts, ∀ a' : Array Value, w.before a' (T.setVm vm₁) = true := fun w hw a' => word_at hWU (hY.1 w hw) (hts w hw)
  obtain ⟨x, ce, B, XB, hce, hcv, hcc, hPw, hz, hold, hWB, hsteps⟩ := px_invT X₁ (g := { F0 m pc ls st0 with stack := st }) (mk := mk) (a := (Value.ref (ad i) :: As).toArray) (hM H.size)
    (fun w hw => by
      rcases List.mem_cons.mp hw with rfl | h
      · exact hwd _ hY.2.1 _
      · exact hwd _ h _) (hwd _ hY.2.1 _) (hwd _ hY.2.2.1 _) hrc hrs hR.1 hR.2 hf rfl (h1.1.trans X.1.2.2.1.symm) (by rw [X.1.2.1]; exact hd) (lv_room (m := m) (pc := pc) (ls := ls) (rest := st0) hW) (X₁.named hnamed)
    (px_blind X.2.2.2.2.2.1 _ _ _ _ (px_pre X h2 h3 (T.setVm vm₁) hT hWU))
  obtain ⟨vm', hW', hF⟩ := hH B x ce { F0 m pc ls st0 with stack := st } XB.warmed hce hcv (by rw [← hWU.alike.findClass]; exact hcc) rfl rfl
  have hT2 : (T.setVm vm₁).heap = H := hT
  rw [hT2] at hz hold
  obtain ⟨t2, a1, b1⟩ := kk x ls B.heap locs h1 hPw ⟨Nat.le_trans h3.1 hz, fun q g1 g2 => by rw [hold q (Nat.lt_of_lt_of_le g1 h3.1)]; exact h3.2.1 q g1 g2, h3.2.2⟩ (B.setVm vm') rfl (XB.noted hW')
  exact ⟨t2, hstep₁ _ fun acts => by rw [doInvoke_state]; exact hsteps.trans (ct_caught XB.here XB.method' XB.code hF a1), b1⟩
/-- the first entry of the table takes it -/
theorem hd_one {own1 name : String} {x0 : ExceptionTableEntry} {rest : List ExceptionTableEntry} (hpl : e.platform.magicAccessors = ({} : Platform).magicAccessors) (hown : s.vm.findClass own1 = some m.cls) (htab : cd.exceptionTable.toList = x0 :: rest) (hx : covers x0 pc = true) (h0 : x0.catchType ≠ 0)
    (hlink : (Cond.classLink own1 x0.catchType name).before args s = true) (hcast : (Cond.castable name name).before args s = true) : px_Hd e s m cd pc x0.handlerPc name := by
  intro B x ce g hWB hce hcv hcc hg hpc
  subst hg
  obtain ⟨c', hc', hcl⟩ := Cond.classLink_spec hown hlink e.platform hpl
  obtain ⟨c3, c4, hc3, hc4, hasg⟩ := Cond.castable_spec hcast
  cases hcc.symm.trans hc'
  cases hcc.symm.trans hc3
  cases hcc.symm.trans hc4
  obtain ⟨dk, _, _, kt, hd, _, _, _, _, hkt, _, hopen⟩ := hcl.here
  have hcl₀ := hWB.classLinks hcl
  have hW' : s.WarmedH (B.vm.noted g.method.cls x0.catchType (.cls ce.cls)) := hWB.noted hd hopen (State.rightAt_cls hcl)
  obtain ⟨kt', hkt', -⟩ := hWB.alike.2.2 _ _ hkt
  refine ⟨_, hW', ?_⟩
  rw [htab]
  exact ct_hit (s := (B.setTop g).pushFrame (.throwing x)) (by rw [hpc]; exact hx) h0 hcl₀ hce (fun k h => by rw [hcv] at h; cases h) ⟨kt', hkt'⟩ ⟨kt', hkt'⟩ (by
    show B.vm.assignable ce.cls ce.cls = true
    rw [hWB.alike.assignable]
    exact hasg)
/-- the first entry is passed, the second takes it -/
theorem hd_two {own1 other name : String} {x0 x1 : ExceptionTableEntry} {rest : List ExceptionTableEntry} (hpl : e.platform.magicAccessors = ({} : Platform).magicAccessors) (hown : s.vm.findClass own1 = some m.cls) (htab : cd.exceptionTable.toList = x0 :: x1 :: rest) (hx0 : covers x0 pc = true) (h00 : x0.catchType ≠ 0) (hx1 : covers x1 pc = true) (h01 : x1.catchType ≠ 0)
    (hlink0 : (Cond.classLink own1 x0.catchType other).before args s = true) (hlink1 : (Cond.classLink own1 x1.catchType name).before args s = true) (hcast : (Cond.castable name name).before args s = true) (hno : ∃ a b, s.vm.findClass name = some a ∧ s.vm.findClass other = some b ∧ s.vm.assignable a b = false) : px_Hd e s m cd pc x1.handlerPc name := by
  intro B x ce g hWB hce hcv hcc hg hpc
  subst hg
  obtain ⟨c0, hc0, hcl0⟩ := Cond.classLink_spec hown hlink0 e.platform hpl
  obtain ⟨c', hc', hcl⟩ := Cond.classLink_spec hown hlink1 e.platform hpl
  obtain ⟨c3, c4, hc3, hc4, hasg⟩ := Cond.castable_spec hcast
  obtain ⟨u, v, hu, hv, hnas⟩ := hno
  cases hcc.symm.trans hc'
  cases hcc.symm.trans hc3
  cases hcc.symm.trans hc4
  cases hcc.symm.trans hu
  cases hc0.symm.trans hv
  obtain ⟨dk, _, _, kt, hd, _, _, _, _, hkt, _, hopen⟩ := hcl.here
  obtain ⟨dk0, _, _, kt0, hd0, _, _, _, _, hkt0, _, hopen0⟩ := hcl0.here
  have hW0 : s.WarmedH (B.vm.noted g.method.cls x0.catchType (.cls c0)) := hWB.noted hd0 hopen0 (State.rightAt_cls hcl0)
  have hW' : s.WarmedH ((B.vm.noted g.method.cls x0.catchType (.cls c0)).noted g.method.cls x1.catchType (.cls ce.cls)) := hW0.noted hd hopen (State.rightAt_cls hcl)
  obtain ⟨kt', hkt', -⟩ := hWB.alike.2.2 _ _ hkt
  obtain ⟨kt0', hkt0', -⟩ := hWB.alike.2.2 _ _ hkt0
  obtain ⟨kt2, hkt2, -⟩ := hW0.alike.2.2 _ _ hkt
  refine ⟨_, hW', ?_⟩
  rw [htab]
  refine ct_pass (s := (B.setTop g).pushFrame (.throwing x)) (by rw [hpc]; exact hx0) h00 (hWB.classLinks hcl0) hce (fun k h => by rw [hcv] at h; cases h) ⟨kt', hkt'⟩ ⟨kt0', hkt0'⟩ (by
    show B.vm.assignable ce.cls c0 = false
    rw [hWB.alike.assignable]
    exact hnas) ?_
  exact ct_hit (by rw [hpc]; exact hx1) h01 (hW0.classLinks hcl) hce (fun k h => by rw [hcv] at h; cases h) ⟨kt2, hkt2⟩ ⟨kt2, hkt2⟩ (by
    show (B.vm.noted g.method.cls x0.catchType (.cls c0)).assignable ce.cls ce.cls = true
    rw [hW0.alike.assignable]
    exact hasg)
end CALLT
