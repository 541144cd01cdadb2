/-! the law's own rows: its script, its helper cell, calls of its helpers -/
section LRW
variable {p : Program} {l : Launch} {e : Env} {R : Room} {s : State} {m : MethodId} {args : Array Value} {below : List Frame} {meth : Method} {cd : Code} {Q : State → Prop} {cells slots : Nat}
variable {cc : ByteArray} {Ts : List Cond} {own : String} {G : (Nat → Prop) → State → Prop} {D : va_G} {A : Nat → Prop} {ad : Nat → Nat} {n nL : Nat} {c : Nat → va_E} {pc : Nat} {L : List (Nat × Value)} {st : List Value} {cl : List vw_C} {tys : List (ClassId × FieldType)}
theorem j_sld (X : px_X p s m args cd cc nL Ts own G D cl tys A ad n) {b N : Nat} {xs : Nat → Int32} (hX : va_X b N xs s s.heap) (hbl : b < s.heap.size) (hbA : ¬ A b) {x : Int32} (hin : vp_in x N) (hd : decode cc pc = .ok (.iaload, 1))
    (kk : px_J p l e R s m args below meth cd D cl A ad n nL cells slots Q c (pc + 1) L (.int (xs x.toNatClampNeg) :: st)) : px_J p l e R s m args below meth cd D cl A ad n nL cells slots Q c pc L (.int x :: .ref b :: st) :=
  fun ls H locs h1 h2 h3 => va_sld X.1.1 X.1.2.1 hX hbl hbA h3 hin hd (kk ls H locs h1 h2 h3)
theorem j_slen (X : px_X p s m args cd cc nL Ts own G D cl tys A ad n) {b N : Nat} {xs : Nat → Int32} (hX : va_X b N xs s s.heap) (hbl : b < s.heap.size) (hbA : ¬ A b) (hd : decode cc pc = .ok (.arraylength, 1))
    (kk : px_J p l e R s m args below meth cd D cl A ad n nL cells slots Q c (pc + 1) L (.int (Int32.ofNat N) :: st)) : px_J p l e R s m args below meth cd D cl A ad n nL cells slots Q c pc L (.ref b :: st) :=
  fun ls H locs h1 h2 h3 => va_slen X.1.1 X.1.2.1 hX hbl hbA h3 hd (kk ls H locs h1 h2 h3)
theorem j_lcmp (X : px_X p s m args cd cc nL Ts own G D cl tys A ad n) {x y : Int64} (hd : decode cc pc = .ok (.lcmp, 1))
    (kk : px_J p l e R s m args below meth cd D cl A ad n nL cells slots Q c (pc + 1) L (.int (lg_cmp x y) :: st)) : px_J p l e R s m args below meth cd D cl A ad n nL cells slots Q c pc L (.long y :: .long x :: st) :=
  fun ls H locs h1 h2 h3 => W.lcmp X.1.1 X.1.2.1 hd (kk ls H locs h1 h2 h3)
theorem lg_same {x y : Int64} (h : x = y) : lg_cmp x y = 0 := by
  subst h
  unfold lg_cmp
  simp
/-- what a call of a method with handlers needs of the tables -/
def px_YW (Ts : List Cond) (y : MethodName) (bytes : ByteArray) (maxL : Nat) (ret : Option FieldType) (hh : List (Nat × Nat × Nat × Nat)) (na : Nat) : Prop :=
  px_Ok Ts ∧ Cond.codeWith y bytes maxL ret hh ∈ Ts ∧ Cond.initialized y.cls ∈ Ts ∧ y.cls ≠ "java/lang/invoke/MethodHandle" ∧ y.cls ≠ "java/lang/invoke/VarHandle" ∧ (parseMethodDescriptor y.desc).map (fun d => d.parameters.length) = some na
theorem px_runW (X : CallFix p m cd cc nL s args Ts own) {y : MethodName} {bytes : ByteArray} {maxL na index mc ms : Nat} {ret : Option FieldType} {hh : List (Nat × Nat × Nat × Nat)} {rm : Room} {Pc : Array Value → State → Prop} {Qc : Array Value → State → Outcome → State → Prop} {free : Addr → Prop} {H : Heap} {locs : List Loc} {As rest : List Value} {g : JFrame}
    (hY : px_YW Ts y bytes maxL ret hh na) (hM : Met l y (Cond.codeWith y bytes maxL ret hh :: Ts) rm Pc Qc mc ms free) (hl : Cond.methodLink own index y ∈ Ts) (hsy : Cond.static y ∈ Ts) (hrc : rm.cells = mc) (hrs : rm.slots = ms) (hR : rm.frames + 1 ≤ R.frames ∧ 8 + (maxL + 11) + rm.locals ≤ R.locals) (hp : PreS s H Pc As)
    (hg : g.method = m) (hn : As.length = na) (hsize : g.locals.size = nL) (hstack : g.stack = As.reverse ++ rest) (hW : 2 * g.monitorRoom + (rest.map fun v => v.category).sum ≤ 8) (hdg : decode cc g.pc = .ok (.invokestatic index, 3)) (hf : cells + mc ≤ R.cells ∧ slots + ms ≤ R.slots) :
    va_Run p l e R s m args below meth cd H locs cells slots mc ms g rest (Qc As.toArray) free := by
  obtain ⟨hx, hb, hml, ho, hts⟩ := X
  obtain ⟨y1, y2, y3, y4, y5, y6⟩ := hY
  have hmem : ∀ w ∈ Cond.codeWith y bytes maxL ret hh :: Ts, w ∈ Ts := fun w hw => by
    rcases List.mem_cons.mp hw with rfl | h
    · exact y2
    · exact h
  have hK : Back l R p e below s args y 3 8 (PreOf R mc ms Pc) (PostOf Qc mc ms free) := va_backW (hh := hh) (bytes := bytes) (maxL := maxL) (ret := ret) hM hp.1 hrc hrs hR.1 hR.2 (fun w hw a' U hWU => word_at hWU (y1 w (hmem w hw)) (hts w (hmem w hw))) List.mem_cons_self (fun a' U hWU => word_at hWU (y1 _ y3) (hts _ y3))
  obtain ⟨mk, methM, cM, hnamed, hmethM, -, -, -, -, -, -, hsigM⟩ := Cond.codeWith_spec (hts _ y2)
  have hstatic : methM.isStatic = true := Cond.static_spec hnamed hmethM (hts _ hsy)
  obtain ⟨kP, hkP, -⟩ := className_of_methodNamed hnamed
  have hinitP : kP.init = .initialized := Cond.initialized_spec (findClass_of_methodNamed hnamed) hkP (hts _ y3)
  have hlen : As.length = methM.sig.parameters.length := by
    rw [hsigM] at y6
    rw [hn]
    exact (Option.some.inj y6).symm
  intro T hT Y
  obtain ⟨vm₁, X₁, hstep₁⟩ := Y.invokestatic hx ho (hts _ hl) hnamed hmethM hstatic hkP hinitP ⟨y4, y5⟩ (g := g) hg (argsL := As) (rest := rest) hlen hstack (by rw [hb]; exact hdg)
  obtain ⟨v, ⟨U', l2, c2, s2⟩, X', ⟨g', mk', t, L, e1, e2, hq, h1, hL, h2, h3⟩, hsteps⟩ := hK m meth cd ⟨T.setVm vm₁, locs, cells, slots⟩ { g with stack := rest } (.invokestatic index) mk As.toArray X₁ hg (hsize.trans hml.symm) (by rw [hb]; exact hdg) hW (X₁.named hnamed) ⟨hf.1, hf.2, hp.2 (T.setVm vm₁) hT X₁.warmed⟩
  dsimp only [Pt.U, Pt.locs, Pt.cells, Pt.slots] at X' e1 e2 h1 h2 h3 hsteps
  subst h1; subst h2; subst h3
  exact ⟨v, (T.setVm vm₁).calling g' mk' As.toArray, t, U', L, hT, X', hL, e1, e2, hq, fun target h => hstep₁ _ fun acts => by rw [doInvoke_state]; exact hsteps.trans h⟩
/-- a call of a helper of the law -/
theorem j_callH (X : px_X p s m args cd cc nL Ts own G D cl tys A ad n) {y : MethodName} {bytes : ByteArray} {maxL na index : Nat} {ret : Option FieldType} {hh : List (Nat × Nat × Nat × Nat)} {rm : Room} {As st0 : List Value} {res : Option Value} {c1 : Nat → va_E} (hY : px_YW Ts y bytes maxL ret hh na) (hM : px_H l y (Cond.codeWith y bytes maxL ret hh :: Ts) rm G D cl tys As ad c n res c1) (hl : Cond.methodLink own index y ∈ Ts) (hsy : Cond.static y ∈ Ts)
    (hn : As.length = na) (hst : st0 = As.reverse ++ st) (hW : (st.map fun v => v.category).sum ≤ 8) (hd : decode cc pc = .ok (.invokestatic index, 3)) (hrc : rm.cells = 1) (hrs : rm.slots = 6) (hR : rm.frames + 1 ≤ R.frames ∧ 8 + (maxL + 11) + rm.locals ≤ R.locals) (hf : cells + 1 ≤ R.cells ∧ slots + 6 ≤ R.slots)
    (kk : px_J p l e R s m args below meth cd D cl A ad n nL (cells + 1) (slots + 6) Q c1 (pc + 3) L (res.toList ++ st)) : px_J p l e R s m args below meth cd D cl A ad n nL cells slots Q c pc L st0 := by
  intro ls H locs h1 h2 h3 T hT Y
  obtain ⟨v, st₀, t, T', L', e0, Y', hL, e1, e2, ⟨hv, hP, hz, hk⟩, go⟩ := px_runW X.1 hY (hM H.size) hl hsy hrc hrs hR ⟨px_blind X.2.2.2.2.2.1, px_pre X h2 h3⟩ (g := F0 m pc ls st0) rfl hn h1.1 hst (lv_room hW) hd hf T hT Y
  cases hv
  rw [e0] at hz hk
  have hA := px_AA X h3
  obtain ⟨t2, a1, b1⟩ := kk ls T'.heap (locs ++ L') h1 (by rw [e1]; exact hP) ⟨Nat.le_trans h3.1 (by rw [e1]; exact hz), fun q g1 g2 => by rw [e1, hk q (Nat.lt_of_lt_of_le g1 h3.1) (fun z => g2 (hA q z))]; exact h3.2.1 q g1 g2, fun q hq => by
    rcases List.mem_append.mp hq with h | h
    · exact h3.2.2 q h
    · exact hA _ (hL q h)⟩ T' rfl Y'
  exact ⟨t2, go t2 a1, b1⟩
/-- the script's element k, 0 beyond its end -/
def scr (N : Nat) (xs : Nat → Int32) (k : Int32) : Int32 := if k < Int32.ofNat N then xs k.toNatClampNeg else 0
theorem c_La_cell (b N : Nat) (xs : Nat → Int32) (k : Int32) (hN : N < 2 ^ 31) (hk : ¬ k < 0) : Met l y_La_cell (Cond.code y_La_cell b_La_cell 2 (some .int) :: WS) { frames := 0, cells := 0, slots := 0, locals := 0 } (va_Pc [.ref b, .int k] (fun U => va_X b N xs U U.heap)) (px_Qp (some (.int (scr N xs k)))) 0 0 (fun _ => False) := by
  refine Met.ofW (cc := b_La_cell) (maxL := 2) (ret := some .int) (by decide) rfl ?_
  intro p e s m args below meth cd s₁ B hml hv
  obtain ⟨rfl, hX⟩ := hv
  have hl : lv_has _ 2 [(0, .ref b), (1, .int k)] := lv_entry [.ref b, .int k] (n := 2) (Nat.le_of_ble_eq_true rfl)
  rw [lg_entry_eq]
  have hbl : b < s.heap.size := by
    obtain ⟨c9, h9, -⟩ := hX
    exact (Array.getElem?_eq_some_iff.mp h9).1
  refine lv_iload_n B.exec B.bytes d_La_cell_0 rfl (lv_at hl 1 rfl) ?_
  refine lv_aload_n B.exec B.bytes d_La_cell_1 rfl (lv_at hl 0 rfl) ?_
  refine va_slen B.exec B.bytes hX hbl (A := fun _ => False) (fun h => h) va_S.rf d_La_cell_2 ?_
  refine lv_icmp_ge B.exec B.bytes d_La_cell_3 (tgt := 12) (by decide) (fun h => ?_) (fun h => ?_)
  · refine lv_iconst B.exec B.bytes (v := 0) d_La_cell_12 (by decide) ?_
    refine W.iret B.exec B.bytes B.returns (fun t ht _ => ⟨?_, ht⟩) (fun q hq => by cases hq) d_La_cell_13 B.notSynchronized
    have h2 : ¬ k < Int32.ofNat N := by simpa [Int32.not_lt] using h
    rw [scr, if_neg h2]
  · have h2 : k < Int32.ofNat N := by simpa [Int32.not_le] using h
    refine lv_aload_n B.exec B.bytes d_La_cell_6 rfl (lv_at hl 0 rfl) ?_
    refine lv_iload_n B.exec B.bytes d_La_cell_7 rfl (lv_at hl 1 rfl) ?_
    refine va_sld B.exec B.bytes hX hbl (A := fun _ => False) (fun h => h) va_S.rf ?_ d_La_cell_8 ?_
    · rintro (h3 | h3)
      · exact hk h3
      · have h4 : k.toInt < N := by
          have := Int32.lt_iff_toInt_lt.mp h2
          rwa [Int32.toInt_ofNat_of_lt hN] at this
        have h5 : ¬ k.toInt < 0 := fun z => hk (Int32.lt_iff_toInt_lt.mpr (by simpa using z))
        have : k.toNatClampNeg = k.toInt.toNat := rfl
        omega
    · refine lv_goto B.exec B.bytes d_La_cell_9 (tgt := 13) (by decide) ?_
      refine W.iret B.exec B.bytes B.returns (fun t ht _ => ⟨?_, ht⟩) (fun q hq => by cases hq) d_La_cell_13 B.notSynchronized
      rw [scr, if_pos h2]
theorem j_cell (X : px_X p s m args cd cc nL WS "ReplayMachineLaw" G D cl tys A ad n) {b N : Nat} {xs : Nat → Int32} (hX : va_X b N xs s s.heap) (hbl : b < s.heap.size) (hbA : ¬ A b) (hN : N < 2 ^ 31) {k : Int32} (hk : ¬ k < 0)
    (hW : (st.map fun v => v.category).sum ≤ 8) (hd : decode cc pc = .ok (.invokestatic 52, 3)) (hR : 1 ≤ R.frames ∧ 21 ≤ R.locals) (hf : cells ≤ R.cells ∧ slots ≤ R.slots)
    (kk : px_J p l e R s m args below meth cd D cl A ad n nL cells slots Q c (pc + 3) L (.int (scr N xs k) :: st)) : px_J p l e R s m args below meth cd D cl A ad n nL cells slots Q c pc L (.int k :: .ref b :: st) := by
  intro ls H locs h1 h2 h3
  refine px_runP (st := st) (aa := #[Value.ref b, Value.int k]) (va_runS X.1 (c_La_cell b N xs k hN hk) (As := [.ref b, .int k]) ⟨px_CB X.1.2.2.2.2 (y := y_La_cell) (bytes := b_La_cell) (maxL := 2) (ret := some .int) (na := 2) ⟨WS_ok, mw_345, mw_0, by decide, by decide, by decide +kernel⟩ mw_343 rfl rfl ⟨hR.1, hR.2⟩, X.1.2.2.2.2 _ mw_344⟩ ⟨fun a U g mk q => ⟨q.1, q.2⟩, fun U hU hWU => ⟨rfl, ?_⟩⟩ rfl rfl h1.1 rfl (lv_room hW) hd hf) (kk ls H locs h1 h2 h3)
  show va_X b N xs U U.heap
  rw [hU]
  exact va_X.moved hWU.alike (hX.kept (h3.2.1 b hbl hbA))
end LRW
