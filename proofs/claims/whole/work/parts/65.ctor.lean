/-! constructors: worlds that grow -/
def gl_ctor (U : State) : Prop := va_Nw (.methodLinkNest "ReplayMachine$State" 3 y_Rg_init "ReplayMachine") U ∧ va_Nw (.methodLinkNest "ReplayMachine$Note" 1 y_Rg_init "ReplayMachine") U ∧ va_AO "ReplayMachine$Note" U ∧ va_AO "ReplayMachine$State" U
def GC (A : Nat → Prop) (U : State) : Prop := GG A U ∧ gl_ctor U
theorem GC_k : px_Gk GC := by
  refine ⟨fun A U g mk a h => ⟨GG_k.1 A U g mk a h.1, va_Nw.same rfl rfl h.2.1, va_Nw.same rfl rfl h.2.2.1, va_AO.moved (u := U) (U := U.calling g mk a) (Vm.Alike.refl U.vm) h.2.2.2.1, va_AO.moved (u := U) (U := U.calling g mk a) (Vm.Alike.refl U.vm) h.2.2.2.2⟩, fun A A' s U H locs h hS hA hW hU => ⟨GG_k.2 A A' s U H locs h.1 hS hA hW hU, va_Nw.warmM hW h.2.1, va_Nw.warmM hW h.2.2.1, va_AO.moved hW.alike h.2.2.2.1, va_AO.moved hW.alike h.2.2.2.2⟩⟩
theorem px_cong {ad : Nat → Nat} {c c' : Nat → va_E} {n : Nat} (h : ∀ j, j < n → c j = c' j) : px_W ad c n = px_W ad c' n := by
  unfold px_W
  apply List.map_congr_left
  intro j hj
  rw [h j (List.mem_range.mp hj)]
def px_Qn (D : va_G) (cl : List vw_C) (ad : Nat → Nat) (n sz k : Nat) (C1 : (Nat → Nat) → Nat → va_E) : Array Value → State → Outcome → State → Prop := fun _ st o t =>
  o = .returned none ∧ (∃ ad' : Nat → Nat, (∀ i, i < n → ad' i = ad i) ∧ px_Inj ad' (n + k) ∧ (∀ i, i < n + k → px_A ad n sz (ad' i)) ∧ va_P D cl (px_W ad' (C1 ad') (n + k)) t.heap) ∧ va_F (px_A ad n sz) st t
def px_N (l : Launch) (y : MethodName) (ws : List Cond) (rm : Room) (G : (Nat → Prop) → State → Prop) (D : va_G) (cl : List vw_C) (tys : List (ClassId × FieldType)) (As : List Value) (ad : Nat → Nat) (c : Nat → va_E) (n k mc ms : Nat) (C1 : (Nat → Nat) → Nat → va_E) : Prop :=
  ∀ sz : Nat, Met l y ws rm (px_Pc G D cl tys As ad c n sz) (px_Qn D cl ad n sz k C1) mc ms (px_A ad n sz)
section CTR
variable {p : Program} {l : Launch} {e : Env} {R : Room} {s : State} {m : MethodId} {args : Array Value} {below : List Frame} {meth : Method} {cd : Code} {Q : State → Prop} {cells slots : Nat}
variable {cc : ByteArray} {Ts : List Cond} {own : String} {G : (Nat → Prop) → State → Prop} {D : va_G} {A : Nat → Prop} {ad : Nat → Nat} {n nL : Nat} {c : Nat → va_E} {pc : Nat} {L : List (Nat × Value)} {st : List Value} {cl : List vw_C} {tys : List (ClassId × FieldType)}
theorem j_cong {c' : Nat → va_E} (h : ∀ j, j < n → c j = c' j) (kk : px_J p l e R s m args below meth cd D cl A ad n nL cells slots Q c' pc L st) : px_J p l e R s m args below meth cd D cl A ad n nL cells slots Q c pc L st :=
  fun ls H locs h1 h2 h3 => kk ls H locs h1 (by rw [← px_cong h]; exact h2) h3
theorem px_startN {y : MethodName} {rm : Room} {As : List Value} {k mc ms : Nat} {C1 : (Nat → Nat) → Nat → va_E} (hG : px_Gk G) (hy : plainName y.cls = true) (hlen : (lg_sl As).length ≤ nL) (hyn : y.name = "<init>")
    (body : ∀ (p : Program) (e : Env) (s : State) (m : MethodId) (args : Array Value) (below : List Frame) (meth : Method) (cd : Code), px_X p s m args cd cc nL Ts y.cls G D cl tys (px_A ad n s.heap.size) ad n → meth.sig.returnType = none → meth.locks = false → meth.name = "<init>" →
      px_J p l e rm s m args below meth cd D cl (px_A ad n s.heap.size) ad n nL 0 0 (MQ below (px_Qn D cl ad n s.heap.size k C1) args s mc ms (px_A ad n s.heap.size)) c 0 (lv_args 0 As) []) :
    px_N l y (Cond.code y cc nL none :: Ts) rm G D cl tys As ad c n k mc ms C1 := by
  intro sz
  refine Met.ofW (cc := cc) (maxL := nL) (ret := none) hy rfl ?_
  intro p e s m args below meth cd s₁ B hml hv
  obtain ⟨rfl, hsz, hP, hK, hI, hg⟩ := hv
  subst hsz
  have hts := atoms_spec (ws := Cond.code y cc nL none :: Ts) B.pre
  have hl := lv_entry As (n := nL) hlen
  rw [lg_entry_eq]
  exact body p e s m _ below meth cd ⟨⟨B.exec, B.bytes, hml, findClass_of_methodNamed B.named, fun w h => hts w (List.mem_cons_of_mem _ h)⟩, hK, hI, fun i hi => Or.inl ⟨i, hi, rfl⟩, fun q hq => Or.inr hq, hG, hg⟩ B.returns B.notSynchronized (by rw [(name_of_methodNamed B.named B.method).1]; exact hyn) _ _ [] hl hP va_S.rf
theorem j_vretN {ad' : Nat → Nat} {n' k mc ms : Nat} {C1 : (Nat → Nat) → Nat → va_E} (X : px_X p s m args cd cc nL Ts own G D cl tys (px_A ad n s.heap.size) ad' n') (hr : meth.sig.returnType = none) (hk : meth.locks = false) (hn : n' = n + k) (ha : ∀ i, i < n → ad' i = ad i) (hc : ∀ j, j < n' → c j = C1 ad' j) (g1 : cells ≤ mc) (g2 : slots ≤ ms) (hd : decode cc pc = .ok (.return_, 1)) :
    px_J p l e R s m args below meth cd D cl (px_A ad n s.heap.size) ad' n' nL cells slots (MQ below (px_Qn D cl ad n s.heap.size k C1) args s mc ms (px_A ad n s.heap.size)) c pc L [] := by
  intro ls H locs h1 h2 h3
  subst hn
  exact W.widen g1 g2 (W.vret X.1.1 X.1.2.1 hr (fun t ht _ => ⟨rfl, ⟨ad', ha, X.2.2.1, X.2.2.2.1, by rw [ht, ← px_cong hc]; exact h2⟩, h3.F ht⟩) h3.2.2 hd hk)
/-- the context behind a new cell -/
theorem px_grow (X : px_X p s m args cd cc nL Ts own G D cl tys A ad n) {q : Nat} {v : va_E} (hD : va_D A (px_W ad c n ++ [(q, v)])) : px_X p s m args cd cc nL Ts own G D cl tys A (va_up ad n q) (n + 1) := by
  rw [px_push] at hD
  exact ⟨X.1, X.2.1, px_injD hD, fun i hi => hD.2 i _ (px_at hi), X.2.2.2.2⟩
theorem px_old {q i : Nat} (h : i < n) : va_up ad n q i = ad i := by
  have : i ≠ n := by omega
  simp [va_up, this]
theorem j_new (X : px_X p s m args cd cc nL Ts own G D cl tys A ad n) {C : String} {T : u_T} {N ci index : Nat} (ty : Nat → FieldType) (hin : ∀ w ∈ u_ws C T N, w ∈ Ts) (hty : ∀ k, k < N → parseFieldDescriptor (T k).2.2.1 = some (ty k)) (hcl : Cond.classLink own index C ∈ Ts) (hins : Cond.instantiable C N ∈ Ts) (hini : Cond.initialized C ∈ Ts) (hc : cl[ci]? = some (C, T, N)) {fs : List Value} (hfs : ∀ j, j < N → defaultValue (ty j) = vp_V fs j) (hcells : cells + 1 ≤ R.cells) (hslots : slots + N ≤ R.slots) (hd : decode cc pc = .ok (.new index, 3))
    (kk : ∀ ad' : Nat → Nat, (∀ i, i < n → ad' i = ad i) → px_X p s m args cd cc nL Ts own G D cl tys A ad' (n + 1) → px_J p l e R s m args below meth cd D cl A ad' (n + 1) nL (cells + 1) (slots + N) Q (va_up c n (.inr (ci, fs))) (pc + 3) L (.ref (ad' n) :: st)) : px_J p l e R s m args below meth cd D cl A ad n nL cells slots Q c pc L st := by
  intro ls H locs h1 h2 h3
  refine va_new X.1.1 X.1.2.1 X.1.2.2.2.2 hin ty hty X.1.2.2.2.1 (X.1.2.2.2.2 _ hcl) (X.1.2.2.2.2 _ hins) (X.1.2.2.2.2 _ hini) X.2.1 h2 (px_D X.2.2.1 X.2.2.2.1) h3 X.2.2.2.2.1 hc hfs hcells hslots hd (fun q H1 g1 g2 g3 => ?_)
  have hk := kk (va_up ad n q) (fun i hi => px_old hi) (px_grow X g2)
  rw [px_push] at g1
  have e : va_up ad n q n = q := by simp [va_up]
  have r := hk ls H1 locs h1 g1 g3
  rw [e] at r
  exact r
theorem arr_same {U : State} {a b : ClassId} {ty : FieldType} (h1 : va_RA U a ty) (h2 : va_RA U b ty) : a = b := by
  cases ty with
  | object C =>
    obtain ⟨_, _, _, _, _, h3⟩ := h1
    obtain ⟨_, _, _, _, _, h4⟩ := h2
    exact Option.some.inj (h3.symm.trans h4)
  | _ => exact Option.some.inj (Eq.trans (Eq.symm h1) h2)
theorem px_arr {cA : ClassId} {ty : FieldType} {t0 : Nat} {a : ClassId} (hK : va_K D cl (tys ++ [(cA, ty)]) s) (ht : tys[t0]? = some (a, ty)) : cA = a := by
  have h1 := (hK.2 tys.length (cA, ty) (by simp)).2
  have h2 := (hK.2 t0 (a, ty) (by rw [List.getElem?_append_left (List.getElem?_eq_some_iff.mp ht).1]; exact ht)).2
  exact arr_same h1 h2
theorem j_newa (X : px_X p s m args cd cc nL Ts own G D cl tys A ad n) {atype : ArrayType} {ty : FieldType} {a : ClassId} (t0 : Nat) (ht : tys[t0]? = some (a, ty)) (harr : Cond.arrayClass (newarray.typeOf atype) ∈ Ts) (hty : newarray.typeOf atype = ty) {k : Int32} {N' : Nat} {a0 : vp_A} (ha : ∀ cA : ClassId, vp_cell cA a0 = arrV cA N' (fun _ => defaultValue ty)) (hn : ¬ k < 0) (hN : k.toNatClampNeg = N') (hbytes : N' * componentBytes ty ≤ 536870912) (hcells : cells + 1 ≤ R.cells) (hslots : slots + N' ≤ R.slots) (hd : decode cc pc = .ok (.newarray atype, 2))
    (kk : ∀ ad' : Nat → Nat, (∀ i, i < n → ad' i = ad i) → px_X p s m args cd cc nL Ts own G D cl tys A ad' (n + 1) → px_J p l e R s m args below meth cd D cl A ad' (n + 1) nL (cells + 1) (slots + N') Q (va_up c n (.inl (a, a0))) (pc + 2) L (.ref (ad' n) :: st)) : px_J p l e R s m args below meth cd D cl A ad n nL cells slots Q c pc L (.int k :: st) := by
  intro ls H locs h1 h2 h3
  refine va_newa X.1.1 X.1.2.1 (X.1.2.2.2.2 _ harr) hty X.2.1 h2 (px_D X.2.2.1 X.2.2.2.1) h3 X.2.2.2.2.1 ha hn hN hbytes hcells hslots hd (fun q cA H1 g0 g1 g2 g3 => ?_)
  cases px_arr g0 ht
  have hk := kk (va_up ad n q) (fun i hi => px_old hi) (px_grow X g2)
  rw [px_push] at g1
  have e : va_up ad n q n = q := by simp [va_up]
  have r := hk ls H1 locs h1 g1 g3
  rw [e] at r
  exact r
theorem j_newq (X : px_X p s m args cd cc nL Ts own G D cl tys A ad n) {C : String} {index : Nat} {a : ClassId} (t0 : Nat) (ht : tys[t0]? = some (a, .object C)) (hcl : Cond.classLink own index C ∈ Ts) (hover : va_AO C s) {k : Int32} {N' : Nat} (hn : ¬ k < 0) (hN : k.toNatClampNeg = N') (hbytes : N' * 4 ≤ 536870912) (hcells : cells + 1 ≤ R.cells) (hslots : slots + N' ≤ R.slots) (hd : decode cc pc = .ok (.anewarray index, 3))
    (kk : ∀ ad' : Nat → Nat, (∀ i, i < n → ad' i = ad i) → px_X p s m args cd cc nL Ts own G D cl tys A ad' (n + 1) → px_J p l e R s m args below meth cd D cl A ad' (n + 1) nL (cells + 1) (slots + N') Q (va_up c n (.inl (a, N', .inr (.inr (.inr (.inr (fun _ => none))))))) (pc + 3) L (.ref (ad' n) :: st)) : px_J p l e R s m args below meth cd D cl A ad n nL cells slots Q c pc L (.int k :: st) := by
  intro ls H locs h1 h2 h3
  refine va_newq X.1.1 X.1.2.1 X.1.2.2.2.1 (X.1.2.2.2.2 _ hcl) hover X.2.1 h2 (px_D X.2.2.1 X.2.2.2.1) h3 X.2.2.2.2.1 hn hN hbytes hcells hslots hd (fun q cA H1 g0 g1 g2 g3 => ?_)
  cases px_arr g0 ht
  have hk := kk (va_up ad n q) (fun i hi => px_old hi) (px_grow X g2)
  rw [px_push] at g1
  have e : va_up ad n q n = q := by simp [va_up]
  have r := hk ls H1 locs h1 g1 g3
  rw [e] at r
  exact r
theorem j_objInit (X : px_X p s m args cd cc nL Ts own G D cl tys A ad n) {idx : Nat} {a : Nat} (hl : Cond.methodLink own idx Lib.objectInit ∈ Ts) (hi : Cond.instanceMethod Lib.objectInit ∈ Ts) (hco : Cond.code Lib.objectInit ⟨#[0xb1]⟩ 1 none ∈ Ts) (hd : decode cc pc = .ok (.invokespecial idx, 3)) (hfr : 1 ≤ R.frames) (hlo : (st.map fun v => v.category).sum + 12 ≤ R.locals)
    (kk : px_J p l e R s m args below meth cd D cl A ad n nL cells slots Q c (pc + 3) L st) : px_J p l e R s m args below meth cd D cl A ad n nL cells slots Q c pc L (.ref a :: st) :=
  fun ls H locs h1 h2 h3 => W.objInit (g := F0 m pc ls (.ref a :: st)) X.1.1 X.1.2.1 X.1.2.2.2.1 (X.1.2.2.2.2 _ hl) (X.1.2.2.2.2 _ hi) (X.1.2.2.2.2 _ hco) rfl (h1.1.trans X.1.2.2.1.symm) rfl hd hfr (by show 2 * 0 + _ + 12 ≤ _; omega) (kk ls H locs h1 h2 h3)
/-- a final field, in a constructor of its own class -/
def px_Ff (Ts : List Cond) (cl : List vw_C) (own : String) (index ci k : Nat) (ty : FieldType) : Prop :=
  ∃ (ref C : String) (T : u_T) (N : Nat) (ty0 : Nat → FieldType), cl[ci]? = some (C, T, N) ∧ (∀ w ∈ u_ws C T N, w ∈ Ts) ∧ k < N ∧ Cond.fieldLink own index ref (T k).2.1 (T k).2.2.1 ∈ Ts ∧ ((T k).1 = ref ∨ Cond.sameField ref (T k).1 (T k).2.1 (T k).2.2.1 ∈ Ts) ∧
    (∀ k, k < N → parseFieldDescriptor (T k).2.2.1 = some (ty0 k)) ∧ (∀ a, a < N → ∀ b, b < N → a ≠ b → (T a).2.1 ≠ (T b).2.1) ∧ (T k).2.2.2 = true ∧ (T k).1 = own ∧ parseFieldDescriptor (T k).2.2.1 = some ty
theorem j_putF (X : px_X p s m args cd cc nL Ts own G D cl tys A ad n) (hmn : meth.name = "<init>") {index ci k : Nat} {ty : FieldType} (F : px_Ff Ts cl own index ci k ty) (i : Nat) (hi : i < n) {fs : List Value} (he : c i = .inr (ci, fs)) {v : Value} (hl : k < fs.length) (hn : narrow ty v = v) (hf : fits ty v = true) (hd : decode cc pc = .ok (.putfield index, 3))
    (kk : px_J p l e R s m args below meth cd D cl A ad n nL cells slots Q (va_up c i (.inr (ci, fs.set k v))) (pc + 3) L st) : px_J p l e R s m args below meth cd D cl A ad n nL cells slots Q c pc L (v :: .ref (ad i) :: st) := by
  intro ls H locs h1 h2 h3
  obtain ⟨ref, C, T, N, ty0, f1, f2, f3, f4, f5, f6, f7, f8, f8b, f9⟩ := F
  refine va_putF (ty := ty) X.1.1 X.1.2.1 X.1.2.2.2.2 f2 ty0 f6 f7 X.1.2.2.2.1 X.2.1 h2 (px_D X.2.2.1 X.2.2.2.1) h3 i (by rw [px_at hi, he]) f1 k f3 (X.1.2.2.2.2 _ f4) (px_same X.1.2.2.2.2 f5) f8 hmn f8b f9 hn hf hl hd (fun H1 locs1 g1 _ g3 => ?_)
  rw [px_set hi] at g1
  exact kk ls H1 locs1 h1 g1 g3
theorem j_runN (X : px_X p s m args cd cc nL Ts own G D cl tys A ad n) {As0 : Array Value} {st0 : List Value} {k mc ms : Nat} {C1 : (Nat → Nat) → Nat → va_E}
    (hr : ∀ (ls : Array Slot) (H : Heap) (locs : List Loc), lv_has ls nL L → va_P D cl (px_W ad c n) H → va_S A s.heap H locs → va_Run p l e R s m args below meth cd H locs cells slots mc ms (F0 m pc ls st0) st (px_Qn D cl ad n H.size k C1 As0) (px_A ad n H.size))
    (kk : ∀ ad' : Nat → Nat, (∀ i, i < n → ad' i = ad i) → px_X p s m args cd cc nL Ts own G D cl tys A ad' (n + k) → px_J p l e R s m args below meth cd D cl A ad' (n + k) nL (cells + mc) (slots + ms) Q (C1 ad') (pc + 3) L st) : px_J p l e R s m args below meth cd D cl A ad n nL cells slots Q c pc L st0 := by
  intro ls H locs h1 h2 h3 T hT Y
  obtain ⟨v, st₀, t, T', L', e0, Y', hL, e1, e2, ⟨hv, ⟨ad', ha, hi, hA1, hP⟩, hz, hk⟩, go⟩ := hr ls H locs h1 h2 h3 T hT Y
  cases hv
  rw [e0] at hz hk
  have hA := px_AA X h3
  obtain ⟨t2, a1, b1⟩ := kk ad' ha ⟨X.1, X.2.1, hi, fun i hi2 => hA _ (hA1 i hi2), X.2.2.2.2⟩ ls T'.heap (locs ++ L') h1 (by rw [e1]; exact hP) ⟨Nat.le_trans h3.1 (by rw [e1]; exact hz), fun q g1 g2 => by rw [e1, hk q (Nat.lt_of_lt_of_le g1 h3.1) (fun z => g2 (hA q z))]; exact h3.2.1 q g1 g2, fun q hq => by
    rcases List.mem_append.mp hq with h | h
    · exact h3.2.2 q h
    · exact hA _ (hL q h)⟩ T' rfl Y'
  exact ⟨t2, go t2 a1, b1⟩
theorem px_CBn {y : MethodName} {bytes : ByteArray} {maxL na index mc ms : Nat} {ret : Option FieldType} {rm : Room} (hts : ∀ w ∈ Ts, w.before args s = true) (h : px_Y Ts y bytes maxL ret na) (hl : Cond.methodLink own index y ∈ Ts) (hc : rm.cells = mc) (hs : rm.slots = ms) (hR : rm.frames + 1 ≤ R.frames ∧ 8 + (maxL + 11) + rm.locals ≤ R.locals) :
    CallB R s args own index y bytes maxL ret (Cond.code y bytes maxL ret :: Ts) rm mc ms na :=
  callB_of na hts (px_good h) rfl hc hs (hts _ h.2.2.1) (hts _ hl) h.2.2.2 hR
/-- invokespecial of a constructor -/
theorem j_init (X : px_X p s m args cd cc nL Ts own G D cl tys A ad n) {y : MethodName} {bytes : ByteArray} {maxL na index k mc ms : Nat} {rm : Room} {As st0 : List Value} {b : Nat} {C1 : (Nat → Nat) → Nat → va_E} (hY : px_Y Ts y bytes maxL none na) (hM : px_N l y (Cond.code y bytes maxL none :: Ts) rm G D cl tys (.ref b :: As) ad c n k mc ms C1) (hl : Cond.methodLink own index y ∈ Ts) (hin : Cond.instanceMethod y ∈ Ts) (hyn : y.name = "<init>")
    (hn : As.length = na) (hst : st0 = As.reverse ++ .ref b :: st) (hW : (st.map fun v => v.category).sum ≤ 8) (hd : decode cc pc = .ok (.invokespecial index, 3)) (hrc : rm.cells = mc) (hrs : rm.slots = ms) (hR : rm.frames + 1 ≤ R.frames ∧ 8 + (maxL + 11) + rm.locals ≤ R.locals) (hf : cells + mc ≤ R.cells ∧ slots + ms ≤ R.slots)
    (kk : ∀ ad' : Nat → Nat, (∀ i, i < n → ad' i = ad i) → px_X p s m args cd cc nL Ts own G D cl tys A ad' (n + k) → px_J p l e R s m args below meth cd D cl A ad' (n + k) nL (cells + mc) (slots + ms) Q (C1 ad') (pc + 3) L st) : px_J p l e R s m args below meth cd D cl A ad n nL cells slots Q c pc L st0 :=
  j_runN X (fun ls H locs h1 h2 h3 => va_runI X.1 (hM H.size) ⟨px_CBn X.1.2.2.2.2 hY hl hrc hrs hR, hyn, X.1.2.2.2.2 _ hin⟩ ⟨px_blind X.2.2.2.2.2.1, px_pre X h2 h3⟩ rfl hn h1.1 hst (lv_room hW) hd hf) kk
/-- of a private constructor of the nest, that makes and changes nothing -/
theorem j_initP {host : String} (X : px_X p s m args cd cc nL Ts own G D cl tys A ad n) {y : MethodName} {bytes : ByteArray} {maxL na index : Nat} {rm : Room} {As st0 : List Value} {b : Nat} (hY : px_Y Ts y bytes maxL none na) (hM : px_P l y (Cond.code y bytes maxL none :: Ts) rm (.ref b :: As) none) (hl : va_Nw (.methodLinkNest own index y host) s) (hin : Cond.instanceMethod y ∈ Ts) (hyn : y.name = "<init>")
    (hn : As.length = na) (hst : st0 = As.reverse ++ .ref b :: st) (hW : (st.map fun v => v.category).sum ≤ 8) (hd : decode cc pc = .ok (.invokespecial index, 3)) (hrc : rm.cells = 0) (hrs : rm.slots = 0) (hR : rm.frames + 1 ≤ R.frames ∧ 8 + (maxL + 11) + rm.locals ≤ R.locals) (hf : cells ≤ R.cells ∧ slots ≤ R.slots)
    (kk : px_J p l e R s m args below meth cd D cl A ad n nL cells slots Q c (pc + 3) L st) : px_J p l e R s m args below meth cd D cl A ad n nL cells slots Q c pc L st0 :=
  fun ls H locs h1 h2 h3 => px_runP (va_runIN X.1 hM ⟨px_CN X.1.2.2.2.2 hY hl hrc hrs hR, hyn, X.1.2.2.2.2 _ hin⟩ ⟨fun _ _ _ _ q => q, fun _ _ _ => rfl⟩ rfl hn h1.1 hst (lv_room hW) hd hf) (kk ls H locs h1 h2 h3)
end CTR
