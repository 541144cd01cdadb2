/-! the law's helpers: each calls a method of the class under a handler; it makes at most one cell of six slots -/
def px_H (l : Launch) (y : MethodName) (ws : List Cond) (rm : Room) (G : (Nat → Prop) → State → Prop) (D : va_G) (cl : List vw_C) (tys : List (ClassId × FieldType)) (As : List Value) (ad : Nat → Nat) (c : Nat → va_E) (n : Nat) (res : Option Value) (c1 : Nat → va_E) : Prop :=
  ∀ sz : Nat, Met l y ws rm (px_Pc G D cl tys As ad c n sz) (px_Qc D cl ad n sz res c1) 1 6 (px_A ad n sz)
theorem xe_out {aC : Nat → ClassId} {ad : Nat → Nat} {S : xS} {c0 : Nat → va_E} : xe aC ad S c0 135 = c0 135 := rfl
theorem xe_up {aC : Nat → ClassId} {ad : Nat → Nat} {S : xS} {c0 : Nat → va_E} {v : va_E} : va_up (xe aC ad S c0) 135 v = xe aC ad S (va_up c0 135 v) := by
  funext j
  by_cases hj : j = 135
  · subst hj; rfl
  · show (if j = 135 then v else xe aC ad S c0 j) = xe aC ad S (va_up c0 135 v) j
    rw [if_neg hj]
    show xc aC ad j (gI S j) (gR S j) (gK S) (gN S) (c0 j) = xc aC ad j (gI S j) (gR S j) (gK S) (gN S) (va_up c0 135 v j)
    have : va_up c0 135 v j = c0 j := by simp [va_up, hj]
    rw [this]
section HLP
variable {p : Program} {l : Launch} {e : Env} {R : Room} {s : State} {m : MethodId} {args : Array Value} {below : List Frame} {meth : Method} {cd : Code} {Q : State → Prop} {cells slots : Nat}
variable {cc : ByteArray} {Ts : List Cond} {own : String} {G : (Nat → Prop) → State → Prop} {D : va_G} {A : Nat → Prop} {ad : Nat → Nat} {n nL : Nat} {c : Nat → va_E} {pc : Nat} {L : List (Nat × Value)} {st : List Value} {cl : List vw_C} {tys : List (ClassId × FieldType)}
theorem px_startW {y : MethodName} {ret : Option FieldType} {rm : Room} {As : List Value} {res : Option Value} {c1 : Nat → va_E} {hh : List (Nat × Nat × Nat × Nat)} (hG : px_Gk G) (hy : plainName y.cls = true) (hlen : (lg_sl As).length ≤ nL)
    (body : ∀ (p : Program) (e : Env) (s : State) (m : MethodId) (args : Array Value) (below : List Frame) (meth : Method) (cd : Code), l.admits e → px_X p s m args cd cc nL Ts y.cls G D cl tys (px_A ad n s.heap.size) ad n → meth.sig.returnType = ret → meth.locks = false → cd.exceptionTable.toList.map (fun h => (h.startPc, h.endPc, h.handlerPc, h.catchType)) = hh →
      px_J p l e rm s m args below meth cd D cl (px_A ad n s.heap.size) ad n nL 0 0 (MQ below (px_Qc D cl ad n s.heap.size res c1) args s 1 6 (px_A ad n s.heap.size)) c 0 (lv_args 0 As) []) :
    px_H l y (Cond.codeWith y cc nL ret hh :: Ts) rm G D cl tys As ad c n res c1 := by
  intro sz
  refine va_MetW (cc := cc) (maxL := nL) (ret := ret) (hh := hh) hy rfl ?_
  intro p e s m args below meth cd s₁ B hml hv
  obtain ⟨rfl, hsz, hP, hK, hI, hg⟩ := hv
  subst hsz
  have hts := atoms_spec (ws := Cond.codeWith y cc nL ret hh :: Ts) B.pre
  have hl := lv_entry As (n := nL) hlen
  obtain ⟨m9, meth', c', hn9, q1, q2, -, -, q3, -, -, -⟩ := Cond.codeWith_spec (hts _ List.mem_cons_self)
  cases B.named.symm.trans hn9
  cases B.method.symm.trans q1
  cases (Stand.of_body B).code.symm.trans q2
  rw [lg_entry_eq]
  exact body p e s m _ below meth cd B.admits ⟨⟨B.exec, B.bytes, hml, findClass_of_methodNamed B.named, fun w h => hts w (List.mem_cons_of_mem _ h)⟩, hK, hI, fun i hi => Or.inl ⟨i, hi, rfl⟩, fun q hq => Or.inr hq, hG, hg⟩ B.returns B.notSynchronized q3 _ _ [] hl hP va_S.rf
theorem j_iretN (X : px_X p s m args cd cc nL Ts own G D cl tys A ad n) (hr : meth.sig.returnType = some .int) (hk : meth.locks = false) {v : Int32} {res : Option Value} {c1 : Nat → va_E} (hv : res = some (.int v)) (hc : c = c1) (g1 : cells ≤ 1) (g2 : slots ≤ 6) (hd : decode cc pc = .ok (.ireturn, 1)) :
    px_J p l e R s m args below meth cd D cl (px_A ad n s.heap.size) ad n nL cells slots (MQ below (px_Qc D cl ad n s.heap.size res c1) args s 1 6 (px_A ad n s.heap.size)) c pc L [.int v] := by
  intro ls H locs h1 h2 h3
  subst hv; subst hc
  exact W.widen g1 g2 (W.iret X.1.1 X.1.2.1 hr (fun t ht _ => ⟨rfl, by rw [ht]; exact h2, h3.F ht⟩) h3.2.2 hd hk)
theorem j_lconst (X : px_X p s m args cd cc nL Ts own G D cl tys A ad n) {k : Fin 2} {v : Int64} (hd : decode cc pc = .ok (.lconst k, 1)) (hv : Int64.ofNat (k : Nat) = v) (kk : px_J p l e R s m args below meth cd D cl A ad n nL cells slots Q c (pc + 1) L (.long v :: st)) : px_J p l e R s m args below meth cd D cl A ad n nL cells slots Q c pc L st := fun ls H locs h1 h2 h3 => lv_lconst X.1.1 X.1.2.1 hd hv (kk ls H locs h1 h2 h3)
theorem j_last (X : px_X p s m args cd cc nL Ts own G D cl tys A ad n) (i t0 : Nat) (hi : i < n) {cA : ClassId} {len : Nat} {f : Nat → Int64} (he : c i = .inl (cA, len, .inr (.inl f))) (ht : tys[t0]? = some (cA, .long)) {x : Int32} {y : Int64} (hin : vp_in x len) (hd : decode cc pc = .ok (.lastore, 1))
    (kk : px_J p l e R s m args below meth cd D cl A ad n nL cells slots Q (va_up c i (.inl (cA, len, .inr (.inl (vp_updL f x.toNatClampNeg y))))) (pc + 1) L st) : px_J p l e R s m args below meth cd D cl A ad n nL cells slots Q c pc L (.long y :: .int x :: .ref (ad i) :: st) := by
  intro ls H locs h1 h2 h3
  refine va_last X.1.1 X.1.2.1 X.2.1 h2 (px_D X.2.2.1 X.2.2.2.1) h3 i t0 (by rw [px_at hi, he]) ht hin hd (fun H1 locs1 g1 _ g3 => ?_)
  rw [px_set hi] at g1
  exact kk ls H1 locs1 h1 g1 g3
theorem j_lald (X : px_X p s m args cd cc nL Ts own G D cl tys A ad n) (i t0 : Nat) (hi : i < n) {cA : ClassId} {len : Nat} {f : Nat → Int64} (he : c i = .inl (cA, len, .inr (.inl f))) (ht : tys[t0]? = some (cA, .long)) {x : Int32} (hin : vp_in x len) (hd : decode cc pc = .ok (.laload, 1))
    (kk : px_J p l e R s m args below meth cd D cl A ad n nL cells slots Q c (pc + 1) L (.long (f x.toNatClampNeg) :: st)) : px_J p l e R s m args below meth cd D cl A ad n nL cells slots Q c pc L (.int x :: .ref (ad i) :: st) := by
  intro ls H locs h1 h2 h3
  exact va_lald X.1.1 X.1.2.1 X.2.1 h2 i t0 (by rw [px_at hi, he]) ht hin hd (kk ls H locs h1 h2 h3)
/-- a table of one entry, of two -/
theorem tab1 {es : List ExceptionTableEntry} {a b c d : Nat} (h : es.map (fun h => (h.startPc, h.endPc, h.handlerPc, h.catchType)) = [(a, b, c, d)]) : es = [⟨a, b, c, d⟩] := by
  cases es with
  | nil => cases h
  | cons x t =>
    cases t with
    | nil =>
      obtain ⟨x1, x2, x3, x4⟩ := x
      simp only [List.map_cons, List.map_nil, List.cons.injEq, Prod.mk.injEq, and_true] at h
      obtain ⟨rfl, rfl, rfl, rfl⟩ := h
      rfl
    | cons y t => simp at h
theorem tab2 {es : List ExceptionTableEntry} {a b c d a' b' c' d' : Nat} (h : es.map (fun h => (h.startPc, h.endPc, h.handlerPc, h.catchType)) = [(a, b, c, d), (a', b', c', d')]) : es = [⟨a, b, c, d⟩, ⟨a', b', c', d'⟩] := by
  cases es with
  | nil => cases h
  | cons x t =>
    rw [List.map_cons, List.cons.injEq] at h
    obtain ⟨h1, h2⟩ := h
    rw [tab1 h2]
    obtain ⟨x1, x2, x3, x4⟩ := x
    simp only [Prod.mk.injEq] at h1
    obtain ⟨rfl, rfl, rfl, rfl⟩ := h1
    rfl
theorem adm_pl (h : l.admits e) : e.platform.magicAccessors = ({} : Platform).magicAccessors := by rw [h.platform]
end HLP
