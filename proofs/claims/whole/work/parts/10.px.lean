/-! worlds by index: cell i lies at ad i and holds c i (c : Nat → va_E), i < n; the judgement px_J with the heap, the locals and the stack as pure data -/
def px_W (ad : Nat → Nat) (c : Nat → va_E) (n : Nat) : va_W := (List.range n).map (fun i => (ad i, c i))
theorem px_len {ad : Nat → Nat} {c : Nat → va_E} {n : Nat} : (px_W ad c n).length = n := by simp [px_W]
theorem px_at {ad : Nat → Nat} {c : Nat → va_E} {n i : Nat} (h : i < n) : (px_W ad c n)[i]? = some (ad i, c i) := by
  unfold px_W
  rw [List.getElem?_map, List.getElem?_range h]
  rfl
theorem px_inv {ad : Nat → Nat} {c : Nat → va_E} {n k : Nat} {q : Nat × va_E} (h : (px_W ad c n)[k]? = some q) : k < n ∧ q = (ad k, c k) := by
  have hk : k < n := by
    have := (List.getElem?_eq_some_iff.mp h).1
    rwa [px_len] at this
  rw [px_at hk] at h
  exact ⟨hk, (Option.some.inj h).symm⟩
theorem px_set {ad : Nat → Nat} {c : Nat → va_E} {n i : Nat} {e : va_E} (h : i < n) : (px_W ad c n).set i (ad i, e) = px_W ad (va_up c i e) n := by
  apply List.ext_getElem?
  intro j
  by_cases hj : j < n
  · by_cases hji : j = i
    · subst hji
      rw [List.getElem?_set_self (by rw [px_len]; exact hj), px_at hj]
      simp [va_up]
    · rw [List.getElem?_set_ne (Ne.symm hji), px_at hj, px_at hj]
      simp [va_up, hji]
  · rw [List.getElem?_eq_none (by rw [List.length_set, px_len]; omega), List.getElem?_eq_none (by rw [px_len]; omega)]
theorem px_push {ad : Nat → Nat} {c : Nat → va_E} {n q : Nat} {e : va_E} : px_W ad c n ++ [(q, e)] = px_W (va_up ad n q) (va_up c n e) (n + 1) := by
  apply List.ext_getElem?
  intro j
  by_cases hj : j < n
  · rw [List.getElem?_append_left (by rw [px_len]; exact hj), px_at hj, px_at (by omega)]
    have : j ≠ n := by omega
    simp [va_up, this]
  · rw [List.getElem?_append_right (by rw [px_len]; omega), px_len]
    by_cases hjn : j = n
    · subst hjn
      rw [px_at (by omega)]
      simp [va_up]
    · rw [List.getElem?_eq_none (by simp; omega), List.getElem?_eq_none (by rw [px_len]; omega)]
def px_Inj (ad : Nat → Nat) (n : Nat) : Prop := ∀ i j, i < n → j < n → ad i = ad j → i = j
theorem px_D {ad : Nat → Nat} {c : Nat → va_E} {n : Nat} {A : Nat → Prop} (hi : px_Inj ad n) (hA : ∀ i, i < n → A (ad i)) : va_D A (px_W ad c n) := by
  refine ⟨fun i j x y hx hy hxy => ?_, fun k q hk => ?_⟩
  · obtain ⟨h1, rfl⟩ := px_inv hx
    obtain ⟨h2, rfl⟩ := px_inv hy
    exact hi i j h1 h2 hxy
  · obtain ⟨h1, rfl⟩ := px_inv hk
    exact hA k h1
theorem px_injD {ad : Nat → Nat} {c : Nat → va_E} {n : Nat} {A : Nat → Prop} (h : va_D A (px_W ad c n)) : px_Inj ad n := fun i j hi hj e => h.1 i j _ _ (px_at hi) (px_at hj) e
/-- which cells a method may change -/
def px_A (ad : Nat → Nat) (n sz : Nat) : Nat → Prop := fun q => (∃ i, i < n ∧ ad i = q) ∨ sz ≤ q
/-- facts of the tables and of old cells that stay: they are blind to frames and move with the tables -/
def px_Gk (G : (Nat → Prop) → State → Prop) : Prop :=
  (∀ (A : Nat → Prop) (U : State) (g : JFrame) (mk : MethodId) (a : Array Value), G A U → G A (U.calling g mk a)) ∧
  ∀ (A A' : Nat → Prop) (s U : State) (H : Heap) (locs : List Loc), G A s → va_S A s.heap H locs → (∀ q, A' q → A q) → s.WarmedH U.vm → U.heap = H → G A' U
/-- what stands fast in a body -/
abbrev px_X (p : Program) (s : State) (m : MethodId) (args : Array Value) (cd : Code) (cc : ByteArray) (nL : Nat) (Ts : List Cond) (own : String) (G : (Nat → Prop) → State → Prop) (D : va_G) (cl : List vw_C) (tys : List (ClassId × FieldType)) (A : Nat → Prop) (ad : Nat → Nat) (n : Nat) : Prop :=
  CallFix p m cd cc nL s args Ts own ∧ va_K D cl tys s ∧ px_Inj ad n ∧ (∀ i, i < n → A (ad i)) ∧ (∀ q, s.heap.size ≤ q → A q) ∧ px_Gk G ∧ G A s
def px_J (p : Program) (l : Launch) (e : Env) (R : Room) (s : State) (m : MethodId) (args : Array Value) (below : List Frame) (meth : Method) (cd : Code) (D : va_G) (cl : List vw_C) (A : Nat → Prop) (ad : Nat → Nat) (n nL cells slots : Nat) (Q : State → Prop) (c : Nat → va_E) (pc : Nat) (L : List (Nat × Value)) (st : List Value) : Prop :=
  ∀ (ls : Array Slot) (H : Heap) (locs : List Loc), lv_has ls nL L → va_P D cl (px_W ad c n) H → va_S A s.heap H locs → W p l e R s m args below meth cd H locs cells slots Q (F0 m pc ls st)
/-- a contract: from the world c, with the arguments As, the method answers res and leaves the world c1; it makes nothing -/
def px_Pc (G : (Nat → Prop) → State → Prop) (D : va_G) (cl : List vw_C) (tys : List (ClassId × FieldType)) (As : List Value) (ad : Nat → Nat) (c : Nat → va_E) (n sz : Nat) : Array Value → State → Prop :=
  va_Pc As (fun U => U.heap.size = sz ∧ va_P D cl (px_W ad c n) U.heap ∧ va_K D cl tys U ∧ px_Inj ad n ∧ G (px_A ad n sz) U)
def px_Qc (D : va_G) (cl : List vw_C) (ad : Nat → Nat) (n sz : Nat) (res : Option Value) (c1 : Nat → va_E) : Array Value → State → Outcome → State → Prop := fun _ st o t =>
  o = .returned res ∧ va_P D cl (px_W ad c1 n) t.heap ∧ va_F (px_A ad n sz) st t
def px_M (l : Launch) (y : MethodName) (ws : List Cond) (rm : Room) (G : (Nat → Prop) → State → Prop) (D : va_G) (cl : List vw_C) (tys : List (ClassId × FieldType)) (As : List Value) (ad : Nat → Nat) (c : Nat → va_E) (n : Nat) (res : Option Value) (c1 : Nat → va_E) : Prop :=
  ∀ sz : Nat, Met l y ws rm (px_Pc G D cl tys As ad c n sz) (px_Qc D cl ad n sz res c1) 0 0 (px_A ad n sz)
theorem px_blind {G : (Nat → Prop) → State → Prop} (hG : px_Gk G) {D : va_G} {cl : List vw_C} {tys : List (ClassId × FieldType)} {As : List Value} {ad : Nat → Nat} {c : Nat → va_E} {n sz : Nat} : FrameBlind (px_Pc G D cl tys As ad c n sz) := by
  intro a U g mk q
  obtain ⟨q0, q1, qP, qK, qD, qG⟩ := q
  exact ⟨q0, q1, qP, va_K.moved (u := U) (U := U.calling g mk a) (Vm.Alike.refl U.vm) qK, qD, hG.1 _ U g mk a qG⟩
/-- a field that getfield at a constant pool's place reads -/
def px_Fd (Ts : List Cond) (cl : List vw_C) (own : String) (index ci k : Nat) : Prop :=
  ∃ (ref C : String) (T : u_T) (N : Nat), cl[ci]? = some (C, T, N) ∧ (∀ w ∈ u_ws C T N, w ∈ Ts) ∧ k < N ∧ Cond.fieldLink own index ref (T k).2.1 (T k).2.2.1 ∈ Ts ∧ ((T k).1 = ref ∨ Cond.sameField ref (T k).1 (T k).2.1 (T k).2.2.1 ∈ Ts)
/-- the same for putfield, of a field that isn't final -/
def px_Fp (Ts : List Cond) (cl : List vw_C) (own : String) (index ci k : Nat) (ty : FieldType) : Prop :=
  ∃ (ref C : String) (T : u_T) (N : Nat) (ty0 : Nat → FieldType), cl[ci]? = some (C, T, N) ∧ (∀ w ∈ u_ws C T N, w ∈ Ts) ∧ k < N ∧ Cond.fieldLink own index ref (T k).2.1 (T k).2.2.1 ∈ Ts ∧ ((T k).1 = ref ∨ Cond.sameField ref (T k).1 (T k).2.1 (T k).2.2.1 ∈ Ts) ∧
    (∀ k, k < N → parseFieldDescriptor (T k).2.2.1 = some (ty0 k)) ∧ (∀ a, a < N → ∀ b, b < N → a ≠ b → (T a).2.1 ≠ (T b).2.1) ∧ (T k).2.2.2 = false ∧ parseFieldDescriptor (T k).2.2.1 = some ty
section PXR
variable {p : Program} {l : Launch} {e : Env} {R : Room} {s : State} {m : MethodId} {args : Array Value} {below : List Frame} {meth : Method} {cd : Code} {Q : State → Prop} {cells slots : Nat}
variable {cc : ByteArray} {Ts : List Cond} {own : String} {G : (Nat → Prop) → State → Prop} {D : va_G} {cl : List vw_C} {A : Nat → Prop} {tys : List (ClassId × FieldType)} {ad : Nat → Nat} {n nL : Nat} {c : Nat → va_E} {pc : Nat} {L : List (Nat × Value)} {st : List Value}
theorem px_same {ref : String} {T : u_T} {k : Nat} (hts : ∀ w ∈ Ts, w.before args s = true) (h : (T k).1 = ref ∨ Cond.sameField ref (T k).1 (T k).2.1 (T k).2.2.1 ∈ Ts) : ∀ x, s.fieldFound? (T k).1 (T k).2.1 (T k).2.2.1 = some x → s.fieldFound? ref (T k).2.1 (T k).2.2.1 = some x := by
  intro x hx
  rcases h with h | h
  · rw [← h]; exact hx
  · exact u_same (hts _ h) x hx
theorem j_get (X : px_X p s m args cd cc nL Ts own G D cl tys A ad n) {index ci k : Nat} (F : px_Fd Ts cl own index ci k) (i : Nat) (hi : i < n) {fs : List Value} (he : c i = .inr (ci, fs)) {v : Value} (hv : fs[k]? = some v) (hd : decode cc pc = .ok (.getfield index, 3))
    (kk : px_J p l e R s m args below meth cd D cl A ad n nL cells slots Q c (pc + 3) L (v :: st)) : px_J p l e R s m args below meth cd D cl A ad n nL cells slots Q c pc L (.ref (ad i) :: st) := by
  intro ls H locs h1 h2 h3
  obtain ⟨ref, C, T, N, f1, f2, f3, f4, f5⟩ := F
  exact va_get X.1.1 X.1.2.1 X.1.2.2.2.2 f2 X.1.2.2.2.1 X.2.1 h2 i (by rw [px_at hi, he]) f1 k f3 (X.1.2.2.2.2 _ f4) (px_same X.1.2.2.2.2 f5) hv hd (kk ls H locs h1 h2 h3)
theorem j_put (X : px_X p s m args cd cc nL Ts own G D cl tys A ad n) {index ci k : Nat} {ty : FieldType} (F : px_Fp Ts cl own index ci k ty) (i : Nat) (hi : i < n) {fs : List Value} (he : c i = .inr (ci, fs)) {v : Value} (hl : k < fs.length) (hn : narrow ty v = v) (hf : fits ty v = true) (hd : decode cc pc = .ok (.putfield index, 3))
    (kk : px_J p l e R s m args below meth cd D cl A ad n nL cells slots Q (va_up c i (.inr (ci, fs.set k v))) (pc + 3) L st) : px_J p l e R s m args below meth cd D cl A ad n nL cells slots Q c pc L (v :: .ref (ad i) :: st) := by
  intro ls H locs h1 h2 h3
  obtain ⟨ref, C, T, N, ty0, f1, f2, f3, f4, f5, f6, f7, f8, f9⟩ := F
  refine va_put (ty := ty) X.1.1 X.1.2.1 X.1.2.2.2.2 f2 ty0 f6 f7 X.1.2.2.2.1 X.2.1 h2 (px_D X.2.2.1 X.2.2.2.1) h3 i (by rw [px_at hi, he]) f1 k f3 (X.1.2.2.2.2 _ f4) (px_same X.1.2.2.2.2 f5) f8 f9 hn hf hl hd (fun H1 locs1 g1 _ g3 => ?_)
  rw [px_set hi] at g1
  exact kk ls H1 locs1 h1 g1 g3
theorem j_iald (X : px_X p s m args cd cc nL Ts own G D cl tys A ad n) (i t0 : Nat) (hi : i < n) {cA : ClassId} {len : Nat} {f : Nat → Int32} (he : c i = .inl (cA, len, .inl f)) (ht : tys[t0]? = some (cA, .int)) {x : Int32} (hin : vp_in x len) (hd : decode cc pc = .ok (.iaload, 1))
    (kk : px_J p l e R s m args below meth cd D cl A ad n nL cells slots Q c (pc + 1) L (.int (f x.toNatClampNeg) :: st)) : px_J p l e R s m args below meth cd D cl A ad n nL cells slots Q c pc L (.int x :: .ref (ad i) :: st) := by
  intro ls H locs h1 h2 h3
  exact va_iald X.1.1 X.1.2.1 X.2.1 h2 i t0 (by rw [px_at hi, he]) ht hin hd (kk ls H locs h1 h2 h3)
theorem j_zald (X : px_X p s m args cd cc nL Ts own G D cl tys A ad n) (i t0 : Nat) (hi : i < n) {cA : ClassId} {len : Nat} {f : Nat → Int32} (he : c i = .inl (cA, len, .inl f)) (ht : tys[t0]? = some (cA, .boolean)) {x : Int32} (hin : vp_in x len) (hd : decode cc pc = .ok (.baload, 1))
    (kk : px_J p l e R s m args below meth cd D cl A ad n nL cells slots Q c (pc + 1) L (.int (f x.toNatClampNeg) :: st)) : px_J p l e R s m args below meth cd D cl A ad n nL cells slots Q c pc L (.int x :: .ref (ad i) :: st) := by
  intro ls H locs h1 h2 h3
  exact va_zald X.1.1 X.1.2.1 X.2.1 h2 i t0 (by rw [px_at hi, he]) ht hin hd (kk ls H locs h1 h2 h3)
theorem j_iast (X : px_X p s m args cd cc nL Ts own G D cl tys A ad n) (i t0 : Nat) (hi : i < n) {cA : ClassId} {len : Nat} {f : Nat → Int32} (he : c i = .inl (cA, len, .inl f)) (ht : tys[t0]? = some (cA, .int)) {x y : Int32} (hin : vp_in x len) (hd : decode cc pc = .ok (.iastore, 1))
    (kk : px_J p l e R s m args below meth cd D cl A ad n nL cells slots Q (va_up c i (.inl (cA, len, .inl (upd f x.toNatClampNeg y)))) (pc + 1) L st) : px_J p l e R s m args below meth cd D cl A ad n nL cells slots Q c pc L (.int y :: .int x :: .ref (ad i) :: st) := by
  intro ls H locs h1 h2 h3
  refine va_iast X.1.1 X.1.2.1 X.2.1 h2 (px_D X.2.2.1 X.2.2.2.1) h3 i t0 (by rw [px_at hi, he]) ht hin hd (fun H1 locs1 g1 _ g3 => ?_)
  rw [px_set hi] at g1
  exact kk ls H1 locs1 h1 g1 g3
theorem j_zast (X : px_X p s m args cd cc nL Ts own G D cl tys A ad n) (i t0 : Nat) (hi : i < n) {cA : ClassId} {len : Nat} {f : Nat → Int32} (he : c i = .inl (cA, len, .inl f)) (ht : tys[t0]? = some (cA, .boolean)) {x y : Int32} (hin : vp_in x len) (hd : decode cc pc = .ok (.bastore, 1))
    (kk : px_J p l e R s m args below meth cd D cl A ad n nL cells slots Q (va_up c i (.inl (cA, len, .inl (upd f x.toNatClampNeg (vp_nar .boolean y))))) (pc + 1) L st) : px_J p l e R s m args below meth cd D cl A ad n nL cells slots Q c pc L (.int y :: .int x :: .ref (ad i) :: st) := by
  intro ls H locs h1 h2 h3
  refine va_zast X.1.1 X.1.2.1 X.2.1 h2 (px_D X.2.2.1 X.2.2.2.1) h3 i t0 (by rw [px_at hi, he]) ht hin hd (fun H1 locs1 g1 _ g3 => ?_)
  rw [px_set hi] at g1
  exact kk ls H1 locs1 h1 g1 g3
theorem j_aald (X : px_X p s m args cd cc nL Ts own G D cl tys A ad n) (i t0 : Nat) (hi : i < n) {cA : ClassId} {C : String} {len : Nat} {f : Nat → Option Nat} (he : c i = .inl (cA, len, .inr (.inr (.inr (.inr f))))) (ht : tys[t0]? = some (cA, .object C)) {x : Int32} (hin : vp_in x len) (hd : decode cc pc = .ok (.aaload, 1))
    (kk : px_J p l e R s m args below meth cd D cl A ad n nL cells slots Q c (pc + 1) L (va_rf (f x.toNatClampNeg) :: st)) : px_J p l e R s m args below meth cd D cl A ad n nL cells slots Q c pc L (.int x :: .ref (ad i) :: st) := by
  intro ls H locs h1 h2 h3
  exact va_aldq X.1.1 X.1.2.1 X.2.1 h2 i t0 (by rw [px_at hi, he]) ht hin hd (kk ls H locs h1 h2 h3)
theorem j_aast (X : px_X p s m args cd cc nL Ts own G D cl tys A ad n) (i t0 j ci : Nat) (hi : i < n) (hj : j < n) {cA : ClassId} {r : vw_C} {len : Nat} {vs : List Value} {f : Nat → Option Nat} (he : c i = .inl (cA, len, .inr (.inr (.inr (.inr f))))) (ht : tys[t0]? = some (cA, .object r.1)) (hv : c j = .inr (ci, vs)) (hc : cl[ci]? = some r) {x : Int32} (hin : vp_in x len) (hd : decode cc pc = .ok (.aastore, 1))
    (kk : px_J p l e R s m args below meth cd D cl A ad n nL cells slots Q (va_up c i (.inl (cA, len, .inr (.inr (.inr (.inr (va_up f x.toNatClampNeg (some (ad j))))))))) (pc + 1) L st) : px_J p l e R s m args below meth cd D cl A ad n nL cells slots Q c pc L (.ref (ad j) :: .int x :: .ref (ad i) :: st) := by
  intro ls H locs h1 h2 h3
  refine va_astq X.1.1 X.1.2.1 X.2.1 h2 (px_D X.2.2.1 X.2.2.2.1) h3 i t0 j ci (by rw [px_at hi, he]) ht (by rw [px_at hj, hv]) hc hin hd (fun H1 locs1 g1 _ g3 => ?_)
  rw [px_set hi] at g1
  exact kk ls H1 locs1 h1 g1 g3
theorem j_iconst (X : px_X p s m args cd cc nL Ts own G D cl tys A ad n) {k : Int} {v : Int32} (hd : decode cc pc = .ok (.iconst k, 1)) (hv : Int32.ofInt k = v) (kk : px_J p l e R s m args below meth cd D cl A ad n nL cells slots Q c (pc + 1) L (.int v :: st)) : px_J p l e R s m args below meth cd D cl A ad n nL cells slots Q c pc L (st) := fun ls H locs h1 h2 h3 => lv_iconst X.1.1 X.1.2.1 hd hv (kk ls H locs h1 h2 h3)
theorem j_bipush (X : px_X p s m args cd cc nL Ts own G D cl tys A ad n) {k : Int} {v : Int32} (hd : decode cc pc = .ok (.bipush k, 2)) (hv : (Int8.ofInt k).toInt32 = v) (kk : px_J p l e R s m args below meth cd D cl A ad n nL cells slots Q c (pc + 2) L (.int v :: st)) : px_J p l e R s m args below meth cd D cl A ad n nL cells slots Q c pc L (st) := fun ls H locs h1 h2 h3 => lv_bipush X.1.1 X.1.2.1 hd hv (kk ls H locs h1 h2 h3)
theorem j_sipush (X : px_X p s m args cd cc nL Ts own G D cl tys A ad n) {k : Int} {v : Int32} (hd : decode cc pc = .ok (.sipush k, 3)) (hv : (Int16.ofInt k).toInt32 = v) (kk : px_J p l e R s m args below meth cd D cl A ad n nL cells slots Q c (pc + 3) L (.int v :: st)) : px_J p l e R s m args below meth cd D cl A ad n nL cells slots Q c pc L (st) := fun ls H locs h1 h2 h3 => lv_sipush X.1.1 X.1.2.1 hd hv (kk ls H locs h1 h2 h3)
theorem j_iadd (X : px_X p s m args cd cc nL Ts own G D cl tys A ad n) {x y : Int32} (hd : decode cc pc = .ok (.iadd, 1)) (kk : px_J p l e R s m args below meth cd D cl A ad n nL cells slots Q c (pc + 1) L (.int (x + y) :: st)) : px_J p l e R s m args below meth cd D cl A ad n nL cells slots Q c pc L (.int y :: .int x :: st) := fun ls H locs h1 h2 h3 => lv_iadd X.1.1 X.1.2.1 hd (kk ls H locs h1 h2 h3)
theorem j_isub (X : px_X p s m args cd cc nL Ts own G D cl tys A ad n) {x y : Int32} (hd : decode cc pc = .ok (.isub, 1)) (kk : px_J p l e R s m args below meth cd D cl A ad n nL cells slots Q c (pc + 1) L (.int (x - y) :: st)) : px_J p l e R s m args below meth cd D cl A ad n nL cells slots Q c pc L (.int y :: .int x :: st) := fun ls H locs h1 h2 h3 => lv_isub X.1.1 X.1.2.1 hd (kk ls H locs h1 h2 h3)
theorem j_imul (X : px_X p s m args cd cc nL Ts own G D cl tys A ad n) {x y : Int32} (hd : decode cc pc = .ok (.imul, 1)) (kk : px_J p l e R s m args below meth cd D cl A ad n nL cells slots Q c (pc + 1) L (.int (x * y) :: st)) : px_J p l e R s m args below meth cd D cl A ad n nL cells slots Q c pc L (.int y :: .int x :: st) := fun ls H locs h1 h2 h3 => lv_imul X.1.1 X.1.2.1 hd (kk ls H locs h1 h2 h3)
theorem j_iand (X : px_X p s m args cd cc nL Ts own G D cl tys A ad n) {x y : Int32} (hd : decode cc pc = .ok (.iand, 1)) (kk : px_J p l e R s m args below meth cd D cl A ad n nL cells slots Q c (pc + 1) L (.int (x &&& y) :: st)) : px_J p l e R s m args below meth cd D cl A ad n nL cells slots Q c pc L (.int y :: .int x :: st) := fun ls H locs h1 h2 h3 => lv_iand X.1.1 X.1.2.1 hd (kk ls H locs h1 h2 h3)
theorem j_ior (X : px_X p s m args cd cc nL Ts own G D cl tys A ad n) {x y : Int32} (hd : decode cc pc = .ok (.ior, 1)) (kk : px_J p l e R s m args below meth cd D cl A ad n nL cells slots Q c (pc + 1) L (.int (x ||| y) :: st)) : px_J p l e R s m args below meth cd D cl A ad n nL cells slots Q c pc L (.int y :: .int x :: st) := fun ls H locs h1 h2 h3 => lv_ior X.1.1 X.1.2.1 hd (kk ls H locs h1 h2 h3)
theorem j_ixor (X : px_X p s m args cd cc nL Ts own G D cl tys A ad n) {x y : Int32} (hd : decode cc pc = .ok (.ixor, 1)) (kk : px_J p l e R s m args below meth cd D cl A ad n nL cells slots Q c (pc + 1) L (.int (x ^^^ y) :: st)) : px_J p l e R s m args below meth cd D cl A ad n nL cells slots Q c pc L (.int y :: .int x :: st) := fun ls H locs h1 h2 h3 => lv_ixor X.1.1 X.1.2.1 hd (kk ls H locs h1 h2 h3)
theorem j_idiv (X : px_X p s m args cd cc nL Ts own G D cl tys A ad n) {x y : Int32} (hd : decode cc pc = .ok (.idiv, 1)) (hne : ¬ y = 0) (kk : px_J p l e R s m args below meth cd D cl A ad n nL cells slots Q c (pc + 1) L (.int (x / y) :: st)) : px_J p l e R s m args below meth cd D cl A ad n nL cells slots Q c pc L (.int y :: .int x :: st) := fun ls H locs h1 h2 h3 => lv_idiv X.1.1 X.1.2.1 hd hne (kk ls H locs h1 h2 h3)
theorem j_irem (X : px_X p s m args cd cc nL Ts own G D cl tys A ad n) {x y : Int32} (hd : decode cc pc = .ok (.irem, 1)) (hne : ¬ y = 0) (kk : px_J p l e R s m args below meth cd D cl A ad n nL cells slots Q c (pc + 1) L (.int (x - x / y * y) :: st)) : px_J p l e R s m args below meth cd D cl A ad n nL cells slots Q c pc L (.int y :: .int x :: st) := fun ls H locs h1 h2 h3 => lv_irem X.1.1 X.1.2.1 hd hne (kk ls H locs h1 h2 h3)
theorem j_ineg (X : px_X p s m args cd cc nL Ts own G D cl tys A ad n) {x : Int32} (hd : decode cc pc = .ok (.ineg, 1)) (kk : px_J p l e R s m args below meth cd D cl A ad n nL cells slots Q c (pc + 1) L (.int (-x) :: st)) : px_J p l e R s m args below meth cd D cl A ad n nL cells slots Q c pc L (.int x :: st) := fun ls H locs h1 h2 h3 => lv_ineg X.1.1 X.1.2.1 hd (kk ls H locs h1 h2 h3)
theorem j_ishl (X : px_X p s m args cd cc nL Ts own G D cl tys A ad n) {x y : Int32} (hd : decode cc pc = .ok (.ishl, 1)) (kk : px_J p l e R s m args below meth cd D cl A ad n nL cells slots Q c (pc + 1) L (.int (x <<< (y &&& 31)) :: st)) : px_J p l e R s m args below meth cd D cl A ad n nL cells slots Q c pc L (.int y :: .int x :: st) := fun ls H locs h1 h2 h3 => lv_ishl X.1.1 X.1.2.1 hd (kk ls H locs h1 h2 h3)
theorem j_ishr (X : px_X p s m args cd cc nL Ts own G D cl tys A ad n) {x y : Int32} (hd : decode cc pc = .ok (.ishr, 1)) (kk : px_J p l e R s m args below meth cd D cl A ad n nL cells slots Q c (pc + 1) L (.int (x >>> (y &&& 31)) :: st)) : px_J p l e R s m args below meth cd D cl A ad n nL cells slots Q c pc L (.int y :: .int x :: st) := fun ls H locs h1 h2 h3 => lv_ishr X.1.1 X.1.2.1 hd (kk ls H locs h1 h2 h3)
theorem j_iushr (X : px_X p s m args cd cc nL Ts own G D cl tys A ad n) {x y v : Int32} (hd : decode cc pc = .ok (.iushr, 1)) (hv : (x.toUInt32 >>> (y.toUInt32 &&& Int32.toUInt32 31)).toInt32 = v) (kk : px_J p l e R s m args below meth cd D cl A ad n nL cells slots Q c (pc + 1) L (.int v :: st)) : px_J p l e R s m args below meth cd D cl A ad n nL cells slots Q c pc L (.int y :: .int x :: st) := fun ls H locs h1 h2 h3 => lv_iushr X.1.1 X.1.2.1 hd hv (kk ls H locs h1 h2 h3)
theorem j_i2l (X : px_X p s m args cd cc nL Ts own G D cl tys A ad n) {x : Int32} {v : Int64} (hd : decode cc pc = .ok (.i2l, 1)) (hv : x.toInt64 = v) (kk : px_J p l e R s m args below meth cd D cl A ad n nL cells slots Q c (pc + 1) L (.long v :: st)) : px_J p l e R s m args below meth cd D cl A ad n nL cells slots Q c pc L (.int x :: st) := fun ls H locs h1 h2 h3 => lv_i2l X.1.1 X.1.2.1 hd hv (kk ls H locs h1 h2 h3)
theorem j_dup (X : px_X p s m args cd cc nL Ts own G D cl tys A ad n) {va : Value} (hd : decode cc pc = .ok (.dup, 1)) (ha : va.category = 1) (kk : px_J p l e R s m args below meth cd D cl A ad n nL cells slots Q c (pc + 1) L (va :: va :: st)) : px_J p l e R s m args below meth cd D cl A ad n nL cells slots Q c pc L (va :: st) := fun ls H locs h1 h2 h3 => lv_dup X.1.1 X.1.2.1 hd ha (kk ls H locs h1 h2 h3)
theorem j_pop (X : px_X p s m args cd cc nL Ts own G D cl tys A ad n) {va : Value} (hd : decode cc pc = .ok (.pop, 1)) (ha : va.category = 1) (kk : px_J p l e R s m args below meth cd D cl A ad n nL cells slots Q c (pc + 1) L (st)) : px_J p l e R s m args below meth cd D cl A ad n nL cells slots Q c pc L (va :: st) := fun ls H locs h1 h2 h3 => lv_pop X.1.1 X.1.2.1 hd ha (kk ls H locs h1 h2 h3)
theorem j_dup_x1 (X : px_X p s m args cd cc nL Ts own G D cl tys A ad n) {va vb : Value} (hd : decode cc pc = .ok (.dup_x1, 1)) (ha : va.category = 1) (hb : vb.category = 1) (kk : px_J p l e R s m args below meth cd D cl A ad n nL cells slots Q c (pc + 1) L (va :: vb :: va :: st)) : px_J p l e R s m args below meth cd D cl A ad n nL cells slots Q c pc L (va :: vb :: st) := fun ls H locs h1 h2 h3 => lv_dup_x1 X.1.1 X.1.2.1 hd ha hb (kk ls H locs h1 h2 h3)
theorem j_dup2_11 (X : px_X p s m args cd cc nL Ts own G D cl tys A ad n) {va vb : Value} (hd : decode cc pc = .ok (.dup2, 1)) (ha : va.category = 1) (hb : vb.category = 1) (kk : px_J p l e R s m args below meth cd D cl A ad n nL cells slots Q c (pc + 1) L (va :: vb :: va :: vb :: st)) : px_J p l e R s m args below meth cd D cl A ad n nL cells slots Q c pc L (va :: vb :: st) := fun ls H locs h1 h2 h3 => lv_dup2_11 X.1.1 X.1.2.1 hd ha hb (kk ls H locs h1 h2 h3)
theorem j_null (X : px_X p s m args cd cc nL Ts own G D cl tys A ad n)  (hd : decode cc pc = .ok (.aconst_null, 1)) (kk : px_J p l e R s m args below meth cd D cl A ad n nL cells slots Q c (pc + 1) L (.null :: st)) : px_J p l e R s m args below meth cd D cl A ad n nL cells slots Q c pc L (st) := fun ls H locs h1 h2 h3 => lv_null X.1.1 X.1.2.1 hd (kk ls H locs h1 h2 h3)
theorem j_iload_n (X : px_X p s m args cd cc nL Ts own G D cl tys A ad n) {k : Fin 4} (hd : decode cc pc = .ok (.iload_n k, 1)) (q : Nat) {x : Int32} (hL : L[q]? = some ((k : Nat), .int x)) (kk : px_J p l e R s m args below meth cd D cl A ad n nL cells slots Q c (pc + 1) L (.int x :: st)) : px_J p l e R s m args below meth cd D cl A ad n nL cells slots Q c pc L (st) := fun ls H locs h1 h2 h3 => lv_iload_n X.1.1 X.1.2.1 hd rfl (lv_at h1 q hL) (kk ls H locs h1 h2 h3)
theorem j_iload (X : px_X p s m args cd cc nL Ts own G D cl tys A ad n) {k : Nat} (hd : decode cc pc = .ok (.iload k, 2)) (q : Nat) {x : Int32} (hL : L[q]? = some (k, .int x)) (kk : px_J p l e R s m args below meth cd D cl A ad n nL cells slots Q c (pc + 2) L (.int x :: st)) : px_J p l e R s m args below meth cd D cl A ad n nL cells slots Q c pc L (st) := fun ls H locs h1 h2 h3 => lv_iload X.1.1 X.1.2.1 hd (lv_at h1 q hL) (kk ls H locs h1 h2 h3)
theorem j_istore_n (X : px_X p s m args cd cc nL Ts own G D cl tys A ad n) {k : Fin 4} {x : Int32} (hd : decode cc pc = .ok (.istore_n k, 1)) (L' : List (Nat × Value)) (hn : (k : Nat) < nL) (hl : ((k : Nat), Value.int x) :: L.filter (fun q => !(q.1 == (k : Nat)) && !(q.1 + 1 == (k : Nat) && q.2.category == 2)) = L') (kk : px_J p l e R s m args below meth cd D cl A ad n nL cells slots Q c (pc + 1) L' st) : px_J p l e R s m args below meth cd D cl A ad n nL cells slots Q c pc L (.int x :: st) := fun ls H locs h1 h2 h3 => lv_istore_n X.1.1 X.1.2.1 hd rfl h1 hn hl (fun ls' h' => kk ls' H locs h' h2 h3)
theorem j_istore (X : px_X p s m args cd cc nL Ts own G D cl tys A ad n) {k : Nat} {x : Int32} (hd : decode cc pc = .ok (.istore k, 2)) (L' : List (Nat × Value)) (hn : k < nL) (hl : (k, Value.int x) :: L.filter (fun q => !(q.1 == (k : Nat)) && !(q.1 + 1 == (k : Nat) && q.2.category == 2)) = L') (kk : px_J p l e R s m args below meth cd D cl A ad n nL cells slots Q c (pc + 2) L' st) : px_J p l e R s m args below meth cd D cl A ad n nL cells slots Q c pc L (.int x :: st) := fun ls H locs h1 h2 h3 => lv_istore X.1.1 X.1.2.1 hd h1 hn hl (fun ls' h' => kk ls' H locs h' h2 h3)
theorem j_aload_n (X : px_X p s m args cd cc nL Ts own G D cl tys A ad n) {k : Fin 4} (hd : decode cc pc = .ok (.aload_n k, 1)) (q : Nat) {x : Nat} (hL : L[q]? = some ((k : Nat), .ref x)) (kk : px_J p l e R s m args below meth cd D cl A ad n nL cells slots Q c (pc + 1) L (.ref x :: st)) : px_J p l e R s m args below meth cd D cl A ad n nL cells slots Q c pc L (st) := fun ls H locs h1 h2 h3 => lv_aload_n X.1.1 X.1.2.1 hd rfl (lv_at h1 q hL) (kk ls H locs h1 h2 h3)
theorem j_aload (X : px_X p s m args cd cc nL Ts own G D cl tys A ad n) {k : Nat} (hd : decode cc pc = .ok (.aload k, 2)) (q : Nat) {x : Nat} (hL : L[q]? = some (k, .ref x)) (kk : px_J p l e R s m args below meth cd D cl A ad n nL cells slots Q c (pc + 2) L (.ref x :: st)) : px_J p l e R s m args below meth cd D cl A ad n nL cells slots Q c pc L (st) := fun ls H locs h1 h2 h3 => lv_aload X.1.1 X.1.2.1 hd (lv_at h1 q hL) (kk ls H locs h1 h2 h3)
theorem j_astore_n (X : px_X p s m args cd cc nL Ts own G D cl tys A ad n) {k : Fin 4} {x : Nat} (hd : decode cc pc = .ok (.astore_n k, 1)) (L' : List (Nat × Value)) (hn : (k : Nat) < nL) (hl : ((k : Nat), Value.ref x) :: L.filter (fun q => !(q.1 == (k : Nat)) && !(q.1 + 1 == (k : Nat) && q.2.category == 2)) = L') (kk : px_J p l e R s m args below meth cd D cl A ad n nL cells slots Q c (pc + 1) L' st) : px_J p l e R s m args below meth cd D cl A ad n nL cells slots Q c pc L (.ref x :: st) := fun ls H locs h1 h2 h3 => lv_astore_n X.1.1 X.1.2.1 hd rfl h1 hn hl (fun ls' h' => kk ls' H locs h' h2 h3)
theorem j_astore (X : px_X p s m args cd cc nL Ts own G D cl tys A ad n) {k : Nat} {x : Nat} (hd : decode cc pc = .ok (.astore k, 2)) (L' : List (Nat × Value)) (hn : k < nL) (hl : (k, Value.ref x) :: L.filter (fun q => !(q.1 == (k : Nat)) && !(q.1 + 1 == (k : Nat) && q.2.category == 2)) = L') (kk : px_J p l e R s m args below meth cd D cl A ad n nL cells slots Q c (pc + 2) L' st) : px_J p l e R s m args below meth cd D cl A ad n nL cells slots Q c pc L (.ref x :: st) := fun ls H locs h1 h2 h3 => lv_astore X.1.1 X.1.2.1 hd h1 hn hl (fun ls' h' => kk ls' H locs h' h2 h3)
theorem j_iinc (X : px_X p s m args cd cc nL Ts own G D cl tys A ad n) {k : Nat} {a : Int} {x v : Int32} (hd : decode cc pc = .ok (.iinc k a, 3)) (q : Nat) (L' : List (Nat × Value)) (hL : L[q]? = some (k, .int x)) (hv : x + Int32.ofInt a = v) (hn : k < nL) (hl : (k, Value.int v) :: L.filter (fun q => !(q.1 == k) && !(q.1 + 1 == k && q.2.category == 2)) = L') (kk : px_J p l e R s m args below meth cd D cl A ad n nL cells slots Q c (pc + 3) L' st) : px_J p l e R s m args below meth cd D cl A ad n nL cells slots Q c pc L st := fun ls H locs h1 h2 h3 => lv_iinc X.1.1 X.1.2.1 hd h1 hL hv hn hl (fun ls' h' => kk ls' H locs h' h2 h3)
theorem j_if_eq (X : px_X p s m args cd cc nL Ts own G D cl tys A ad n) {x : Int32} {off : Int} {tgt : Nat} (hd : decode cc pc = .ok (.ifCond .eq off, 3)) (ht : (pc : Int) + off = (tgt : Int)) (kt : x = 0 → px_J p l e R s m args below meth cd D cl A ad n nL cells slots Q c tgt L st) (kf : ¬ x = 0 → px_J p l e R s m args below meth cd D cl A ad n nL cells slots Q c (pc + 3) L st) : px_J p l e R s m args below meth cd D cl A ad n nL cells slots Q c pc L (.int x :: st) := fun ls H locs h1 h2 h3 => lv_if_eq X.1.1 X.1.2.1 hd ht (fun g => kt g ls H locs h1 h2 h3) (fun g => kf g ls H locs h1 h2 h3)
theorem j_if_ne (X : px_X p s m args cd cc nL Ts own G D cl tys A ad n) {x : Int32} {off : Int} {tgt : Nat} (hd : decode cc pc = .ok (.ifCond .ne off, 3)) (ht : (pc : Int) + off = (tgt : Int)) (kt : ¬ x = 0 → px_J p l e R s m args below meth cd D cl A ad n nL cells slots Q c tgt L st) (kf : x = 0 → px_J p l e R s m args below meth cd D cl A ad n nL cells slots Q c (pc + 3) L st) : px_J p l e R s m args below meth cd D cl A ad n nL cells slots Q c pc L (.int x :: st) := fun ls H locs h1 h2 h3 => lv_if_ne X.1.1 X.1.2.1 hd ht (fun g => kt g ls H locs h1 h2 h3) (fun g => kf (by first | exact g | exact Classical.not_not.mp g) ls H locs h1 h2 h3)
theorem j_if_lt (X : px_X p s m args cd cc nL Ts own G D cl tys A ad n) {x : Int32} {off : Int} {tgt : Nat} (hd : decode cc pc = .ok (.ifCond .lt off, 3)) (ht : (pc : Int) + off = (tgt : Int)) (kt : x < 0 → px_J p l e R s m args below meth cd D cl A ad n nL cells slots Q c tgt L st) (kf : ¬ x < 0 → px_J p l e R s m args below meth cd D cl A ad n nL cells slots Q c (pc + 3) L st) : px_J p l e R s m args below meth cd D cl A ad n nL cells slots Q c pc L (.int x :: st) := fun ls H locs h1 h2 h3 => lv_if_lt X.1.1 X.1.2.1 hd ht (fun g => kt g ls H locs h1 h2 h3) (fun g => kf g ls H locs h1 h2 h3)
theorem j_if_ge (X : px_X p s m args cd cc nL Ts own G D cl tys A ad n) {x : Int32} {off : Int} {tgt : Nat} (hd : decode cc pc = .ok (.ifCond .ge off, 3)) (ht : (pc : Int) + off = (tgt : Int)) (kt : 0 ≤ x → px_J p l e R s m args below meth cd D cl A ad n nL cells slots Q c tgt L st) (kf : ¬ 0 ≤ x → px_J p l e R s m args below meth cd D cl A ad n nL cells slots Q c (pc + 3) L st) : px_J p l e R s m args below meth cd D cl A ad n nL cells slots Q c pc L (.int x :: st) := fun ls H locs h1 h2 h3 => lv_if_ge X.1.1 X.1.2.1 hd ht (fun g => kt g ls H locs h1 h2 h3) (fun g => kf g ls H locs h1 h2 h3)
theorem j_if_gt (X : px_X p s m args cd cc nL Ts own G D cl tys A ad n) {x : Int32} {off : Int} {tgt : Nat} (hd : decode cc pc = .ok (.ifCond .gt off, 3)) (ht : (pc : Int) + off = (tgt : Int)) (kt : 0 < x → px_J p l e R s m args below meth cd D cl A ad n nL cells slots Q c tgt L st) (kf : ¬ 0 < x → px_J p l e R s m args below meth cd D cl A ad n nL cells slots Q c (pc + 3) L st) : px_J p l e R s m args below meth cd D cl A ad n nL cells slots Q c pc L (.int x :: st) := fun ls H locs h1 h2 h3 => lv_if_gt X.1.1 X.1.2.1 hd ht (fun g => kt g ls H locs h1 h2 h3) (fun g => kf g ls H locs h1 h2 h3)
theorem j_if_le (X : px_X p s m args cd cc nL Ts own G D cl tys A ad n) {x : Int32} {off : Int} {tgt : Nat} (hd : decode cc pc = .ok (.ifCond .le off, 3)) (ht : (pc : Int) + off = (tgt : Int)) (kt : x ≤ 0 → px_J p l e R s m args below meth cd D cl A ad n nL cells slots Q c tgt L st) (kf : ¬ x ≤ 0 → px_J p l e R s m args below meth cd D cl A ad n nL cells slots Q c (pc + 3) L st) : px_J p l e R s m args below meth cd D cl A ad n nL cells slots Q c pc L (.int x :: st) := fun ls H locs h1 h2 h3 => lv_if_le X.1.1 X.1.2.1 hd ht (fun g => kt g ls H locs h1 h2 h3) (fun g => kf g ls H locs h1 h2 h3)
theorem j_icmp_eq (X : px_X p s m args cd cc nL Ts own G D cl tys A ad n) {x y : Int32} {off : Int} {tgt : Nat} (hd : decode cc pc = .ok (.if_icmp .eq off, 3)) (ht : (pc : Int) + off = (tgt : Int)) (kt : x = y → px_J p l e R s m args below meth cd D cl A ad n nL cells slots Q c tgt L st) (kf : ¬ x = y → px_J p l e R s m args below meth cd D cl A ad n nL cells slots Q c (pc + 3) L st) : px_J p l e R s m args below meth cd D cl A ad n nL cells slots Q c pc L (.int y :: .int x :: st) := fun ls H locs h1 h2 h3 => lv_icmp_eq X.1.1 X.1.2.1 hd ht (fun g => kt g ls H locs h1 h2 h3) (fun g => kf g ls H locs h1 h2 h3)
theorem j_icmp_ne (X : px_X p s m args cd cc nL Ts own G D cl tys A ad n) {x y : Int32} {off : Int} {tgt : Nat} (hd : decode cc pc = .ok (.if_icmp .ne off, 3)) (ht : (pc : Int) + off = (tgt : Int)) (kt : ¬ x = y → px_J p l e R s m args below meth cd D cl A ad n nL cells slots Q c tgt L st) (kf : x = y → px_J p l e R s m args below meth cd D cl A ad n nL cells slots Q c (pc + 3) L st) : px_J p l e R s m args below meth cd D cl A ad n nL cells slots Q c pc L (.int y :: .int x :: st) := fun ls H locs h1 h2 h3 => lv_icmp_ne X.1.1 X.1.2.1 hd ht (fun g => kt g ls H locs h1 h2 h3) (fun g => kf (by first | exact g | exact Classical.not_not.mp g) ls H locs h1 h2 h3)
theorem j_icmp_lt (X : px_X p s m args cd cc nL Ts own G D cl tys A ad n) {x y : Int32} {off : Int} {tgt : Nat} (hd : decode cc pc = .ok (.if_icmp .lt off, 3)) (ht : (pc : Int) + off = (tgt : Int)) (kt : x < y → px_J p l e R s m args below meth cd D cl A ad n nL cells slots Q c tgt L st) (kf : ¬ x < y → px_J p l e R s m args below meth cd D cl A ad n nL cells slots Q c (pc + 3) L st) : px_J p l e R s m args below meth cd D cl A ad n nL cells slots Q c pc L (.int y :: .int x :: st) := fun ls H locs h1 h2 h3 => lv_icmp_lt X.1.1 X.1.2.1 hd ht (fun g => kt g ls H locs h1 h2 h3) (fun g => kf g ls H locs h1 h2 h3)
theorem j_icmp_ge (X : px_X p s m args cd cc nL Ts own G D cl tys A ad n) {x y : Int32} {off : Int} {tgt : Nat} (hd : decode cc pc = .ok (.if_icmp .ge off, 3)) (ht : (pc : Int) + off = (tgt : Int)) (kt : y ≤ x → px_J p l e R s m args below meth cd D cl A ad n nL cells slots Q c tgt L st) (kf : ¬ y ≤ x → px_J p l e R s m args below meth cd D cl A ad n nL cells slots Q c (pc + 3) L st) : px_J p l e R s m args below meth cd D cl A ad n nL cells slots Q c pc L (.int y :: .int x :: st) := fun ls H locs h1 h2 h3 => lv_icmp_ge X.1.1 X.1.2.1 hd ht (fun g => kt g ls H locs h1 h2 h3) (fun g => kf g ls H locs h1 h2 h3)
theorem j_icmp_gt (X : px_X p s m args cd cc nL Ts own G D cl tys A ad n) {x y : Int32} {off : Int} {tgt : Nat} (hd : decode cc pc = .ok (.if_icmp .gt off, 3)) (ht : (pc : Int) + off = (tgt : Int)) (kt : y < x → px_J p l e R s m args below meth cd D cl A ad n nL cells slots Q c tgt L st) (kf : ¬ y < x → px_J p l e R s m args below meth cd D cl A ad n nL cells slots Q c (pc + 3) L st) : px_J p l e R s m args below meth cd D cl A ad n nL cells slots Q c pc L (.int y :: .int x :: st) := fun ls H locs h1 h2 h3 => lv_icmp_gt X.1.1 X.1.2.1 hd ht (fun g => kt g ls H locs h1 h2 h3) (fun g => kf g ls H locs h1 h2 h3)
theorem j_icmp_le (X : px_X p s m args cd cc nL Ts own G D cl tys A ad n) {x y : Int32} {off : Int} {tgt : Nat} (hd : decode cc pc = .ok (.if_icmp .le off, 3)) (ht : (pc : Int) + off = (tgt : Int)) (kt : x ≤ y → px_J p l e R s m args below meth cd D cl A ad n nL cells slots Q c tgt L st) (kf : ¬ x ≤ y → px_J p l e R s m args below meth cd D cl A ad n nL cells slots Q c (pc + 3) L st) : px_J p l e R s m args below meth cd D cl A ad n nL cells slots Q c pc L (.int y :: .int x :: st) := fun ls H locs h1 h2 h3 => lv_icmp_le X.1.1 X.1.2.1 hd ht (fun g => kt g ls H locs h1 h2 h3) (fun g => kf g ls H locs h1 h2 h3)
theorem j_goto (X : px_X p s m args cd cc nL Ts own G D cl tys A ad n) {off : Int} {tgt : Nat} (hd : decode cc pc = .ok (.goto off, 3)) (ht : (pc : Int) + off = (tgt : Int)) (kk : px_J p l e R s m args below meth cd D cl A ad n nL cells slots Q c tgt L st) : px_J p l e R s m args below meth cd D cl A ad n nL cells slots Q c pc L st := fun ls H locs h1 h2 h3 => lv_goto X.1.1 X.1.2.1 hd ht (kk ls H locs h1 h2 h3)
theorem j_tableOut (X : px_X p s m args cd cc nL Ts own G D cl tys A ad n) {dflt lo hi : Int} {offs : Array Int} {len : Nat} {x : Int32} {tgt : Nat} (hd : decode cc pc = .ok (.tableswitch dflt lo hi offs, len)) (h : x.toInt < lo ∨ hi < x.toInt) (ht : (pc : Int) + dflt = (tgt : Int)) (kk : px_J p l e R s m args below meth cd D cl A ad n nL cells slots Q c tgt L st) : px_J p l e R s m args below meth cd D cl A ad n nL cells slots Q c pc L (.int x :: st) := fun ls H locs h1 h2 h3 => lv_tableOut X.1.1 X.1.2.1 hd h ht (kk ls H locs h1 h2 h3)
theorem j_tableIn (X : px_X p s m args cd cc nL Ts own G D cl tys A ad n) {dflt lo hi : Int} {offs : Array Int} {len : Nat} {x : Int32} {off : Int} {tgt : Nat} (hd : decode cc pc = .ok (.tableswitch dflt lo hi offs, len)) (g1 : ¬ x.toInt < lo) (g2 : ¬ hi < x.toInt) (ho : offs[(x.toInt - lo).toNat]? = some off) (ht : (pc : Int) + off = (tgt : Int)) (kk : px_J p l e R s m args below meth cd D cl A ad n nL cells slots Q c tgt L st) : px_J p l e R s m args below meth cd D cl A ad n nL cells slots Q c pc L (.int x :: st) := fun ls H locs h1 h2 h3 => lv_tableIn X.1.1 X.1.2.1 hd g1 g2 ho ht (kk ls H locs h1 h2 h3)
theorem j_ldc (X : px_X p s m args cd cc nL Ts own G D cl tys A ad n) {index : Nat} {v : Int32} (hc : Cond.constant own index v ∈ Ts) (hd : decode cc pc = .ok (.ldc index, 2)) (kk : px_J p l e R s m args below meth cd D cl A ad n nL cells slots Q c (pc + 2) L (.int v :: st)) : px_J p l e R s m args below meth cd D cl A ad n nL cells slots Q c pc L st := fun ls H locs h1 h2 h3 => lv_ldc X.1.1 X.1.2.1 X.1.2.2.2.1 (X.1.2.2.2.2 _ hc) hd (kk ls H locs h1 h2 h3)
theorem j_topi {x : Int32} (kk : ∀ y : Int32, y = x → px_J p l e R s m args below meth cd D cl A ad n nL cells slots Q c pc L (.int y :: st)) : px_J p l e R s m args below meth cd D cl A ad n nL cells slots Q c pc L (.int x :: st) := kk x rfl
theorem j_w {c' : Nat → va_E} (h : c = c') (kk : px_J p l e R s m args below meth cd D cl A ad n nL cells slots Q c' pc L st) : px_J p l e R s m args below meth cd D cl A ad n nL cells slots Q c pc L st := h ▸ kk
theorem px_start {y : MethodName} {ret : Option FieldType} {rm : Room} {As : List Value} {res : Option Value} {c1 : Nat → va_E} (hG : px_Gk G) (hy : plainName y.cls = true) (hlen : (lg_sl As).length ≤ nL)
    (body : ∀ (p : Program) (e : Env) (s : State) (m : MethodId) (args : Array Value) (below : List Frame) (meth : Method) (cd : Code), px_X p s m args cd cc nL Ts y.cls G D cl tys (px_A ad n s.heap.size) ad n → meth.sig.returnType = ret → meth.locks = false →
      px_J p l e rm s m args below meth cd D cl (px_A ad n s.heap.size) ad n nL 0 0 (MQ below (px_Qc D cl ad n s.heap.size res c1) args s 0 0 (px_A ad n s.heap.size)) c 0 (lv_args 0 As) []) :
    px_M l y (Cond.code y cc nL ret :: Ts) rm G D cl tys As ad c n res c1 := by
  intro sz
  refine Met.ofW (cc := cc) (maxL := nL) (ret := ret) hy rfl ?_
  intro p e s m args below meth cd s₁ B hml hv
  obtain ⟨rfl, hsz, hP, hK, hI, hg⟩ := hv
  subst hsz
  have hts := atoms_spec (ws := Cond.code y cc nL ret :: Ts) B.pre
  have hl := lv_entry As (n := nL) hlen
  rw [lg_entry_eq]
  exact body p e s m _ below meth cd ⟨⟨B.exec, B.bytes, hml, findClass_of_methodNamed B.named, fun w h => hts w (List.mem_cons_of_mem _ h)⟩, hK, hI, fun i hi => Or.inl ⟨i, hi, rfl⟩, fun q hq => Or.inr hq, hG, hg⟩ B.returns B.notSynchronized _ _ [] hl hP va_S.rf
theorem j_iret (X : px_X p s m args cd cc nL Ts own G D cl tys A ad n) (hr : meth.sig.returnType = some .int) (hk : meth.locks = false) {v : Int32} {res : Option Value} {c1 : Nat → va_E} (hv : res = some (.int v)) (hc : c = c1) (hd : decode cc pc = .ok (.ireturn, 1)) :
    px_J p l e R s m args below meth cd D cl (px_A ad n s.heap.size) ad n nL 0 0 (MQ below (px_Qc D cl ad n s.heap.size res c1) args s 0 0 (px_A ad n s.heap.size)) c pc L [.int v] := by
  intro ls H locs h1 h2 h3
  subst hv; subst hc
  exact W.iret X.1.1 X.1.2.1 hr (fun t ht _ => ⟨rfl, by rw [ht]; exact h2, h3.F ht⟩) h3.2.2 hd hk
theorem j_zret (X : px_X p s m args cd cc nL Ts own G D cl tys A ad n) {ty : FieldType} (hr : meth.sig.returnType = some ty) (hk : meth.locks = false) {v : Int32} {res : Option Value} {c1 : Nat → va_E} (hn : narrow ty (.int v) = .int v) (hv : res = some (.int v)) (hc : c = c1) (hd : decode cc pc = .ok (.ireturn, 1)) :
    px_J p l e R s m args below meth cd D cl (px_A ad n s.heap.size) ad n nL 0 0 (MQ below (px_Qc D cl ad n s.heap.size res c1) args s 0 0 (px_A ad n s.heap.size)) c pc L [.int v] := by
  intro ls H locs h1 h2 h3
  subst hv; subst hc
  exact W.zret X.1.1 X.1.2.1 hr hn (fun t ht _ => ⟨rfl, by rw [ht]; exact h2, h3.F ht⟩) h3.2.2 hd hk
theorem j_vret (X : px_X p s m args cd cc nL Ts own G D cl tys A ad n) (hr : meth.sig.returnType = none) (hk : meth.locks = false) {res : Option Value} {c1 : Nat → va_E} (hv : res = none) (hc : c = c1) (hd : decode cc pc = .ok (.return_, 1)) :
    px_J p l e R s m args below meth cd D cl (px_A ad n s.heap.size) ad n nL 0 0 (MQ below (px_Qc D cl ad n s.heap.size res c1) args s 0 0 (px_A ad n s.heap.size)) c pc L [] := by
  intro ls H locs h1 h2 h3
  subst hv; subst hc
  exact W.vret X.1.1 X.1.2.1 hr (fun t ht _ => ⟨rfl, by rw [ht]; exact h2, h3.F ht⟩) h3.2.2 hd hk
theorem j_aret (X : px_X p s m args cd cc nL Ts own G D cl tys A ad n) {C : String} (hr : meth.sig.returnType = some (.object C)) (hk : meth.locks = false) {v : Nat} {res : Option Value} {c1 : Nat → va_E} (hv : res = some (.ref v)) (hc : c = c1) (hd : decode cc pc = .ok (.areturn, 1)) :
    px_J p l e R s m args below meth cd D cl (px_A ad n s.heap.size) ad n nL 0 0 (MQ below (px_Qc D cl ad n s.heap.size res c1) args s 0 0 (px_A ad n s.heap.size)) c pc L [.ref v] := by
  intro ls H locs h1 h2 h3
  subst hv; subst hc
  exact W.aret X.1.1 X.1.2.1 hr (Or.inl ⟨C, rfl⟩) (Or.inr ⟨v, rfl⟩) (fun t ht _ => ⟨rfl, by rw [ht]; exact h2, h3.F ht⟩) h3.2.2 hd hk
theorem px_AA (X : px_X p s m args cd cc nL Ts own G D cl tys A ad n) {H : Heap} {locs : List Loc} (h3 : va_S A s.heap H locs) : ∀ q, px_A ad n H.size q → A q := fun q h => by
  rcases h with ⟨i, hi, rfl⟩ | h
  · exact X.2.2.2.1 i hi
  · exact X.2.2.2.2.1 q (Nat.le_trans h3.1 h)
theorem j_run (X : px_X p s m args cd cc nL Ts own G D cl tys A ad n) {As0 : Array Value} {res : Option Value} {c1 : Nat → va_E} {st0 : List Value}
    (hr : ∀ (ls : Array Slot) (H : Heap) (locs : List Loc), lv_has ls nL L → va_P D cl (px_W ad c n) H → va_S A s.heap H locs → va_Run p l e R s m args below meth cd H locs cells slots 0 0 (F0 m pc ls st0) st (px_Qc D cl ad n H.size res c1 As0) (px_A ad n H.size))
    (kk : px_J p l e R s m args below meth cd D cl A ad n nL cells slots Q c1 (pc + 3) L (res.toList ++ st)) : px_J p l e R s m args below meth cd D cl A ad n nL cells slots Q c pc L st0 := by
  intro ls H locs h1 h2 h3 T hT Y
  obtain ⟨v, st₀, t, T', L', e0, Y', hL, e1, e2, ⟨hv, hP, hz, hk⟩, go⟩ := hr ls H locs h1 h2 h3 T hT Y
  cases hv
  rw [e0] at hz hk
  have hA := px_AA X h3
  obtain ⟨t2, a1, b1⟩ := kk ls T'.heap (locs ++ L') h1 (by rw [e1]; exact hP) ⟨Nat.le_trans h3.1 (by rw [e1]; exact hz), fun q g1 g2 => by rw [e1, hk q (Nat.lt_of_lt_of_le g1 h3.1) (fun z => g2 (hA q z))]; exact h3.2.1 q g1 g2, fun q hq => by
    rcases List.mem_append.mp hq with h | h
    · exact h3.2.2 q h
    · exact hA _ (hL q h)⟩ T' rfl Y'
  exact ⟨t2, go t2 a1, b1⟩
theorem px_pre (X : px_X p s m args cd cc nL Ts own G D cl tys A ad n) {H : Heap} {locs : List Loc} {As : List Value} (h2 : va_P D cl (px_W ad c n) H) (h3 : va_S A s.heap H locs) : ∀ U : State, U.heap = H → s.WarmedH U.vm → px_Pc G D cl tys As ad c n H.size As.toArray U := fun U hU hW =>
  ⟨rfl, by rw [hU], by rw [hU]; exact h2, va_K.moved hW.alike X.2.1, X.2.2.1, X.2.2.2.2.2.1.2 A _ s U H locs X.2.2.2.2.2.2 h3 (px_AA X h3) hW hU⟩
/-- words that every state with the same tables keeps -/
def px_Ok (Ts : List Cond) : Prop := ∀ w ∈ Ts, (w.onTables && w.keeps) = true ∨ ∃ ty, w = .arrayClass ty
/-- what a call needs of the tables, whoever calls -/
def px_Y (Ts : List Cond) (y : MethodName) (bytes : ByteArray) (maxL : Nat) (ret : Option FieldType) (na : Nat) : Prop :=
  px_Ok Ts ∧ Cond.code y bytes maxL ret ∈ Ts ∧ Cond.initialized y.cls ∈ Ts ∧ y.cls ≠ "java/lang/invoke/MethodHandle" ∧ y.cls ≠ "java/lang/invoke/VarHandle" ∧ (parseMethodDescriptor y.desc).map (fun d => d.parameters.length) = some na
theorem px_good {y : MethodName} {bytes : ByteArray} {maxL na : Nat} {ret : Option FieldType} (h : px_Y Ts y bytes maxL ret na) : GoodIn Ts (Cond.code y bytes maxL ret :: Ts) := by
  intro w hw
  have : w ∈ Ts := by
    rcases List.mem_cons.mp hw with rfl | h2
    · exact h.2.1
    · exact h2
  exact ⟨this, h.1 w this⟩
theorem px_CB {y : MethodName} {bytes : ByteArray} {maxL na index : Nat} {ret : Option FieldType} {rm : Room} (hts : ∀ w ∈ Ts, w.before args s = true) (h : px_Y Ts y bytes maxL ret na) (hl : Cond.methodLink own index y ∈ Ts) (hc : rm.cells = 0) (hs : rm.slots = 0) (hR : rm.frames + 1 ≤ R.frames ∧ 8 + (maxL + 11) + rm.locals ≤ R.locals) :
    CallB R s args own index y bytes maxL ret (Cond.code y bytes maxL ret :: Ts) rm 0 0 na :=
  callB_of na hts (px_good h) rfl hc hs (hts _ h.2.2.1) (hts _ hl) h.2.2.2 hR
theorem px_CN {y : MethodName} {bytes : ByteArray} {maxL na index : Nat} {ret : Option FieldType} {rm : Room} {host : String} (hts : ∀ w ∈ Ts, w.before args s = true) (h : px_Y Ts y bytes maxL ret na) (hl : va_Nw (.methodLinkNest own index y host) s) (hc : rm.cells = 0) (hs : rm.slots = 0) (hR : rm.frames + 1 ≤ R.frames ∧ 8 + (maxL + 11) + rm.locals ≤ R.locals) :
    va_CN R s args own index y host bytes maxL ret (Cond.code y bytes maxL ret :: Ts) rm 0 0 na :=
  va_cnB na hts (px_good h) rfl hc hs hl (hts _ h.2.2.1) h.2.2.2 hR
section PXC
variable {y : MethodName} {bytes : ByteArray} {maxL na index : Nat} {ret : Option FieldType} {rm : Room} {As : List Value} {res : Option Value} {c1 : Nat → va_E} {st0 : List Value}
/-- invokevirtual of a method of the receiver's own class -/
theorem j_callV (X : px_X p s m args cd cc nL Ts own G D cl tys A ad n) (i : Nat) (hi : i < n) (hY : px_Y Ts y bytes maxL ret na) (hM : px_M l y (Cond.code y bytes maxL ret :: Ts) rm G D cl tys (.ref (ad i) :: As) ad c n res c1) (hl : Cond.methodLink own index y ∈ Ts) (hin : Cond.instanceMethod y ∈ Ts) (hse : Cond.selects y.cls y y ∈ Ts)
    {ci : Nat} {fs : List Value} {T : u_T} {N : Nat} (he : c i = .inr (ci, fs)) (hc : cl[ci]? = some (y.cls, T, N)) (hn : As.length = na) (hst : st0 = As.reverse ++ .ref (ad i) :: st) (hW : (st.map fun v => v.category).sum ≤ 8) (hd : decode cc pc = .ok (.invokevirtual index, 3)) (hrc : rm.cells = 0) (hrs : rm.slots = 0) (hR : rm.frames + 1 ≤ R.frames ∧ 8 + (maxL + 11) + rm.locals ≤ R.locals) (hf : cells ≤ R.cells ∧ slots ≤ R.slots)
    (kk : px_J p l e R s m args below meth cd D cl A ad n nL cells slots Q c1 (pc + 3) L (res.toList ++ st)) : px_J p l e R s m args below meth cd D cl A ad n nL cells slots Q c pc L st0 :=
  j_run X (fun ls H locs h1 h2 h3 => va_runV (C := y.cls) X.1 (hM H.size) ⟨px_CB X.1.2.2.2.2 hY hl hrc hrs hR, X.1.2.2.2.2 _ hin, X.1.2.2.2.2 _ hse⟩ ⟨px_blind X.2.2.2.2.2.1, va_recv X.2.1 h2 hc (by rw [px_at hi, he]), px_pre X h2 h3⟩ rfl hn h1.1 hst (lv_room hW) hd hf) kk
/-- invokevirtual of a private method of the nest -/
theorem j_callVN {host : String} (X : px_X p s m args cd cc nL Ts own G D cl tys A ad n) (i : Nat) (hi : i < n) (hY : px_Y Ts y bytes maxL ret na) (hM : px_M l y (Cond.code y bytes maxL ret :: Ts) rm G D cl tys (.ref (ad i) :: As) ad c n res c1) (hl : va_Nw (.methodLinkNest own index y host) s) (hin : Cond.instanceMethod y ∈ Ts) (hse : Cond.selects y.cls y y ∈ Ts)
    {ci : Nat} {fs : List Value} {T : u_T} {N : Nat} (he : c i = .inr (ci, fs)) (hc : cl[ci]? = some (y.cls, T, N)) (hn : As.length = na) (hst : st0 = As.reverse ++ .ref (ad i) :: st) (hW : (st.map fun v => v.category).sum ≤ 8) (hd : decode cc pc = .ok (.invokevirtual index, 3)) (hrc : rm.cells = 0) (hrs : rm.slots = 0) (hR : rm.frames + 1 ≤ R.frames ∧ 8 + (maxL + 11) + rm.locals ≤ R.locals) (hf : cells ≤ R.cells ∧ slots ≤ R.slots)
    (kk : px_J p l e R s m args below meth cd D cl A ad n nL cells slots Q c1 (pc + 3) L (res.toList ++ st)) : px_J p l e R s m args below meth cd D cl A ad n nL cells slots Q c pc L st0 :=
  j_run X (fun ls H locs h1 h2 h3 => va_runVN (C := y.cls) X.1 (hM H.size) ⟨px_CN X.1.2.2.2.2 hY hl hrc hrs hR, X.1.2.2.2.2 _ hin, X.1.2.2.2.2 _ hse⟩ ⟨px_blind X.2.2.2.2.2.1, va_recv X.2.1 h2 hc (by rw [px_at hi, he]), px_pre X h2 h3⟩ rfl hn h1.1 hst (lv_room hW) hd hf) kk
/-- invokestatic -/
theorem j_callS (X : px_X p s m args cd cc nL Ts own G D cl tys A ad n) (hY : px_Y Ts y bytes maxL ret na) (hM : px_M l y (Cond.code y bytes maxL ret :: Ts) rm G D cl tys As ad c n res c1) (hl : Cond.methodLink own index y ∈ Ts) (hsy : Cond.static y ∈ Ts)
    (hn : As.length = na) (hst : st0 = As.reverse ++ st) (hW : (st.map fun v => v.category).sum ≤ 8) (hd : decode cc pc = .ok (.invokestatic index, 3)) (hrc : rm.cells = 0) (hrs : rm.slots = 0) (hR : rm.frames + 1 ≤ R.frames ∧ 8 + (maxL + 11) + rm.locals ≤ R.locals) (hf : cells ≤ R.cells ∧ slots ≤ R.slots)
    (kk : px_J p l e R s m args below meth cd D cl A ad n nL cells slots Q c1 (pc + 3) L (res.toList ++ st)) : px_J p l e R s m args below meth cd D cl A ad n nL cells slots Q c pc L st0 :=
  j_run X (fun ls H locs h1 h2 h3 => va_runS X.1 (hM H.size) ⟨px_CB X.1.2.2.2.2 hY hl hrc hrs hR, X.1.2.2.2.2 _ hsy⟩ ⟨px_blind X.2.2.2.2.2.1, px_pre X h2 h3⟩ rfl hn h1.1 hst (lv_room hW) hd hf) kk
theorem j_callSN {host : String} (X : px_X p s m args cd cc nL Ts own G D cl tys A ad n) (hY : px_Y Ts y bytes maxL ret na) (hM : px_M l y (Cond.code y bytes maxL ret :: Ts) rm G D cl tys As ad c n res c1) (hl : va_Nw (.methodLinkNest own index y host) s) (hsy : Cond.static y ∈ Ts)
    (hn : As.length = na) (hst : st0 = As.reverse ++ st) (hW : (st.map fun v => v.category).sum ≤ 8) (hd : decode cc pc = .ok (.invokestatic index, 3)) (hrc : rm.cells = 0) (hrs : rm.slots = 0) (hR : rm.frames + 1 ≤ R.frames ∧ 8 + (maxL + 11) + rm.locals ≤ R.locals) (hf : cells ≤ R.cells ∧ slots ≤ R.slots)
    (kk : px_J p l e R s m args below meth cd D cl A ad n nL cells slots Q c1 (pc + 3) L (res.toList ++ st)) : px_J p l e R s m args below meth cd D cl A ad n nL cells slots Q c pc L st0 :=
  j_run X (fun ls H locs h1 h2 h3 => va_runSN X.1 (hM H.size) ⟨px_CN X.1.2.2.2.2 hY hl hrc hrs hR, X.1.2.2.2.2 _ hsy, trivial⟩ ⟨px_blind X.2.2.2.2.2.1, px_pre X h2 h3⟩ rfl hn h1.1 hst (lv_room hW) hd hf) kk
def px_U (Ts : List Cond) (own : String) (index : Nat) (C owner : String) (x y : MethodName) (na : Nat) : Prop :=
  Cond.methodLink own index x ∈ Ts ∧ Cond.sameMethod x.cls owner x.name x.desc ∈ Ts ∧ Cond.selects C x y ∈ Ts ∧ Cond.instanceMethod y ∈ Ts ∧ y = ⟨owner, x.name, x.desc⟩ ∧ owner ≠ "java/lang/invoke/MethodHandle" ∧ owner ≠ "java/lang/invoke/VarHandle" ∧ (parseMethodDescriptor x.desc).map (fun d => d.parameters.length) = some na
theorem px_goodU {x : MethodName} {C owner : String} (h : px_Y Ts y bytes maxL ret na) (u : px_U Ts own index C owner x y na) : GoodIn Ts (va_wsU own index C owner x y (Cond.code y bytes maxL ret :: Ts)) := by
  intro w hw
  have : w ∈ Ts := by
    unfold va_wsU at hw
    rcases List.mem_append.mp hw with h2 | h2
    · simp only [List.mem_cons, List.not_mem_nil, or_false] at h2
      rcases h2 with rfl | rfl | rfl | rfl | rfl
      · exact u.1
      · exact u.2.1
      · exact u.2.2.1
      · exact u.2.2.2.1
      · exact h.2.2.1
    · exact (px_good h w h2).1
  exact ⟨this, h.1 w this⟩
/-- invokevirtual of a method that the receiver's class inherits -/
theorem j_callU {x : MethodName} {C owner : String} (X : px_X p s m args cd cc nL Ts own G D cl tys A ad n) (i : Nat) (hi : i < n) (hY : px_Y Ts y bytes maxL ret na) (hM : px_M l y (Cond.code y bytes maxL ret :: Ts) rm G D cl tys (.ref (ad i) :: As) ad c n res c1) (hU : px_U Ts own index C owner x y na)
    {ci : Nat} {fs : List Value} {T : u_T} {N : Nat} (he : c i = .inr (ci, fs)) (hc : cl[ci]? = some (C, T, N)) (hn : As.length = na) (hst : st0 = As.reverse ++ .ref (ad i) :: st) (hW : (st.map fun v => v.category).sum ≤ 8) (hd : decode cc pc = .ok (.invokevirtual index, 3)) (hrc : rm.cells = 0) (hrs : rm.slots = 0) (hR : rm.frames + 1 ≤ R.frames ∧ 8 + (maxL + 11) + rm.locals ≤ R.locals) (hf : cells ≤ R.cells ∧ slots ≤ R.slots)
    (kk : px_J p l e R s m args below meth cd D cl A ad n nL cells slots Q c1 (pc + 3) L (res.toList ++ st)) : px_J p l e R s m args below meth cd D cl A ad n nL cells slots Q c pc L st0 :=
  j_run X (fun ls H locs h1 h2 h3 => va_runU (C := C) X.1 (hM H.size) (va_cwU na X.1.2.2.2.2 (px_goodU hY hU) rfl hrc hrs hU.2.2.2.2.1 hU.2.2.2.2.2 hR) ⟨px_blind X.2.2.2.2.2.1, va_recv X.2.1 h2 hc (by rw [px_at hi, he]), px_pre X h2 h3⟩ rfl hn h1.1 hst (lv_room hW) hd hf) kk
end PXC
end PXR
