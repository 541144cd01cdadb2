/-! a road that throws: new, dup, ldc, the constructor, athrow; nothing was written before; the world stays -/
def NMS : List String := ["java/lang/RuntimeException", "java/lang/Exception"]
def th_in (a : Cond) : Bool := decide (a ∈ WS) || decide (a ∈ DW) || decide (a = .laysStatic "java/lang/Throwable" "UNASSIGNED_STACK" "[Ljava/lang/StackTraceElement;") || decide (a = .laysStatic "java/lang/Throwable" "SUPPRESSED_SENTINEL" "Ljava/util/List;") || decide (a = .isRef (.static "java/lang/Throwable" "UNASSIGNED_STACK" "[Ljava/lang/StackTraceElement;")) || decide (a = .isRef (.static "java/lang/Throwable" "SUPPRESSED_SENTINEL" "Ljava/util/List;"))
theorem th_before {args : Array Value} {s : State} {A : Nat → Prop} (hts : ∀ w ∈ WS, w.before args s = true) (hg : gl_thr A s) {a : Cond} (h : th_in a = true) : a.before args s = true := by
  unfold th_in at h
  simp only [Bool.or_eq_true, decide_eq_true_eq] at h
  rcases h with ((((h | h) | rfl) | rfl) | rfl) | rfl
  · exact hts a h
  · have hk : a.onTables = true := by
      revert h a
      unfold DW
      decide +kernel
    exact va_tabs hk rfl (hg.1 a h)
  · exact hg.2.1.1
  · exact hg.2.2.1.1
  · exact hg.2.1.2.1
  · exact hg.2.2.1.2.1
theorem th_all {l : List Cond} {args : Array Value} {s : State} {A : Nat → Prop} (h : l.all th_in = true) (hts : ∀ w ∈ WS, w.before args s = true) (hg : gl_thr A s) : ∀ a ∈ l, a.before args s = true := fun a ha => th_before hts hg (List.all_eq_true.mp h a ha)
def px_QT (D : va_G) (cl : List vw_C) (ad : Nat → Nat) (n sz : Nat) (Xn : String) (c1 : Nat → va_E) : Array Value → State → Outcome → State → Prop := fun _ st o t =>
  ∃ (x : Nat) (ce : Cell), o = .threw x ∧ t.heap[x]? = some ce ∧ ce.vm = .none ∧ st.vm.findClass Xn = some ce.cls ∧ va_P D cl (px_W ad c1 n) t.heap ∧ va_F (px_A ad n sz) st t ∧ st.WarmedH t.vm ∧ st.sameButNew ({ t with vm := st.vm } : State) [] 1 6
def px_T (l : Launch) (y : MethodName) (ws : List Cond) (rm : Room) (G : (Nat → Prop) → State → Prop) (D : va_G) (cl : List vw_C) (tys : List (ClassId × FieldType)) (As : List Value) (ad : Nat → Nat) (c : Nat → va_E) (n : Nat) (Xn : String) : Prop :=
  ∀ sz : Nat, MetFree l y (headSpec ws rm) (px_Pc G D cl tys As ad c n sz) (fun _ _ _ _ _ => True) (px_QT D cl ad n sz Xn c)
def px_ZT (below : List Frame) (D : va_G) (cl : List vw_C) (ad : Nat → Nat) (n : Nat) (Xn : String) (c : Nat → va_E) (args : Array Value) (s : State) : State → Prop := fun t => ∃ o, t.status = .running ∧ Ended t below o ∧ px_QT D cl ad n s.heap.size Xn c args s o t
section THR
variable {p : Program} {l : Launch} {e : Env} {R : Room} {s : State} {m : MethodId} {args : Array Value} {below : List Frame} {meth : Method} {cd : Code} {Q : State → Prop} {cells slots : Nat}
variable {cc : ByteArray} {Ts : List Cond} {own : String} {G : (Nat → Prop) → State → Prop} {D : va_G} {A : Nat → Prop} {ad : Nat → Nat} {n nL : Nat} {c : Nat → va_E} {pc : Nat} {L : List (Nat × Value)} {st : List Value} {cl : List vw_C} {tys : List (ClassId × FieldType)}
theorem px_startT {y : MethodName} {ret : Option FieldType} {rm : Room} {As : List Value} {Xn : String} (hG : px_Gk G) (hy : plainName y.cls = true) (hlen : (lg_sl As).length ≤ nL)
    (body : ∀ (p : Program) (e : Env) (s : State) (m : MethodId) (args : Array Value) (below : List Frame) (meth : Method) (cd : Code), l.admits e → px_X p s m args cd cc nL Ts y.cls G D cl tys (px_A ad n s.heap.size) ad n → va_P D cl (px_W ad c n) s.heap → (∀ x ∈ cd.exceptionTable.toList, False) → meth.locks = false →
      px_Z p l e rm s m args below meth cd nL (px_ZT below D cl ad n Xn c args s) 0 (lv_args 0 As) []) :
    px_T l y (Cond.code y cc nL ret :: Ts) rm G D cl tys As ad c n Xn := by
  intro sz
  refine MetFree.of_bodyS (code := cc) (maxLocals := nL) (ret := ret) hy ?_ ?_
  · intro args s m h hn
    obtain ⟨meth, c, h1, h2, h3, h4, h5, h6, -, -⟩ := Cond.code_spec hn (atoms_spec (ws := Cond.code y cc nL ret :: Ts) h _ List.mem_cons_self)
    exact ⟨meth, c, h1, h2, h3, h4, h5, h6⟩
  · intro p e s m args below meth cd s₁ B hml hv _
    obtain ⟨rfl, hsz, hP, hK, hI, hg⟩ := hv
    subst hsz
    have hts := atoms_spec (ws := Cond.code y cc nL ret :: Ts) B.pre
    have hl := lv_entry As (n := nL) hlen
    have hh0 : s₁.heap = s.heap := by rw [B.state]; rfl
    obtain ⟨meth', c', q1, q2, -, -, -, -, q3, -⟩ := Cond.code_spec B.named (hts _ List.mem_cons_self)
    cases B.method.symm.trans q1
    cases (Stand.of_body B).code.symm.trans q2
    have hex : ∀ x ∈ cd.exceptionTable.toList, False := fun x hx => by
      have : cd.exceptionTable = #[] := Array.isEmpty_iff.mp q3
      rw [this] at hx
      cases hx
    have K := body p e s m _ below meth cd B.admits ⟨⟨B.exec, B.bytes, hml, findClass_of_methodNamed B.named, fun w h => hts w (List.mem_cons_of_mem _ h)⟩, hK, hI, fun i hi => Or.inl ⟨i, hi, rfl⟩, fun q hq => Or.inr hq, hG, hg⟩ hP hex B.notSynchronized _ hl
    obtain ⟨t, a1, o, b1, b2, b3⟩ := K s₁ hh0 (Stand.of_body B)
    rw [lg_entry_eq]
    exact ⟨t, o, a1, b1, b2, b3⟩
theorem z_get (X : px_X p s m args cd cc nL Ts own G D cl tys A ad n) (hP : va_P D cl (px_W ad c n) s.heap) {index ci k : Nat} (F : px_Fd Ts cl own index ci k) (i : Nat) (hi : i < n) {fs : List Value} (he : c i = .inr (ci, fs)) {v : Value} (hv : fs[k]? = some v) (hd : decode cc pc = .ok (.getfield index, 3))
    (kk : px_Z p l e R s m args below meth cd nL Q (pc + 3) L (v :: st)) : px_Z p l e R s m args below meth cd nL Q pc L (.ref (ad i) :: st) := by
  intro ls h1
  obtain ⟨ref, C, T, N, f1, f2, f3, f4, f5⟩ := F
  exact va_get X.1.1 X.1.2.1 X.1.2.2.2.2 f2 X.1.2.2.2.1 X.2.1 hP i (by rw [px_at hi, he]) f1 k f3 (X.1.2.2.2.2 _ f4) (px_same X.1.2.2.2.2 f5) hv hd (kk ls h1)
theorem z_throw (X : px_X p s m args cd cc nL WS "ReplayMachine" GG D cl tys A ad n) (hadm : l.admits e) (hfl : l.flags = pinnedFlags ++ [noTraceFlag]) (hP : va_P D cl (px_W ad c n) s.heap) (hex : ∀ x ∈ cd.exceptionTable.toList, False) (hk : meth.locks = false)
    {Xn tx : String} {ia ib ic : Nat} (hcl : Cond.classLink "ReplayMachine" ia Xn ∈ WS) (hins : Cond.instantiable Xn 6 ∈ WS) (hini : Cond.initialized Xn ∈ WS) (hfit : Bundle.fit Xn = true) (hat : (Bundle.ownAtoms "ReplayMachine" ic Xn NMS).all th_in = true) (hstr : (ib, tx) ∈ STRS)
    (d0 : decode cc pc = .ok (.new ia, 3)) (d3 : decode cc (pc + 3) = .ok (.dup, 1)) (d4 : decode cc (pc + 3 + 1) = .ok (.ldc ib, 2)) (d6 : decode cc (pc + 3 + 1 + 2) = .ok (.invokespecial ic, 3)) (d9 : decode cc (pc + 3 + 1 + 2 + 3) = .ok (.athrow, 1))
    (hRf : 5 < R.frames) (hRl : 90 ≤ R.locals) (hRc : 1 ≤ R.cells) (hRs : 6 ≤ R.slots) : px_Z p l e R s m args below meth cd nL (px_ZT below D cl ad n Xn c args s) pc L [] := by
  intro ls h1
  have hthr : gl_thr A s := X.2.2.2.2.2.2.2.2.2.2
  obtain ⟨q, hq⟩ := hthr.2.2.2.1 _ hstr
  refine W.newc X.1.1 X.1.2.1 X.1.2.2.2.1 (X.1.2.2.2.2 _ hcl) (X.1.2.2.2.2 _ hins) (X.1.2.2.2.2 _ hini) (g := F0 m pc ls []) rfl d0 (by omega) (by omega) (fun cC kC f1 f2 f3 f4 => ?_)
  refine W.eq (g2 := F0 m (pc + 3) ls [.ref s.heap.size]) rfl ?_
  refine lv_dup X.1.1 X.1.2.1 d3 rfl ?_
  refine va_ldcS X.1.1 X.1.2.1 X.1.2.2.2.1 hq d4 ?_
  intro T hT Y
  have hcell : T.heap[s.heap.size]? = some (freshCell cC kC) := by rw [hT]; simp
  obtain ⟨U, stp, hrun, hend, hWU, hsame, ce, hce, hown⟩ := Y.ctorThrowS (names := NMS) (cls := Xn) X.1.1 (Launch.traces_off hfl hadm) X.1.2.2.2.1 hfit (by decide) (th_all hat X.1.2.2.2.2 hthr) (fun x h => by cases h) f1 f2 hcell (Nat.le_refl _) (msg := .ref q) rfl (g := F0 m (pc + 3 + 1 + 2) ls [.ref q, .ref s.heap.size, .ref s.heap.size]) rfl (h1.1.trans X.1.2.2.1.symm) rfl rfl (rest := []) rfl (by rw [X.1.2.1]; exact d6) (by rw [X.1.2.1]; exact d9) (fun x hx => (hex x hx).elim) hRf (Nat.le_trans (Nat.le_of_ble_eq_true rfl) hRl) hk
  have hold : ∀ a : Nat, a < s.heap.size → U.heap[a]? = s.heap[a]? := fun a ha => by
    have g := State.sameButNew.old_cell hsame (a := a) (c := s.heap[a]) (by simp [ha])
    have g2 : U.heap[a]? = some s.heap[a] := g
    rw [g2]; simp [ha]
  refine ⟨U, stp, .threw s.heap.size, hrun, hend, s.heap.size, ce, rfl, hce, hown.vm, hown.cls, ?_, ⟨hsame.2.1, fun a g1 _ => hold a g1⟩, hWU, hsame⟩
  exact hP.kept (fun k w hk => hold w.1 (hP k w hk).lt)
end THR
abbrev rm_T : Room := { frames := 6, cells := 1, slots := 6, locals := 100 }
