section
-- ===== PART A: goes FIRST, ahead of the names: the tables' words, and 'selects' of the private methods out of them =====
/-- a private method of a class that the tables say can be made, by its rows of tables_1 -/
def lw_okq (q : MethodName × Nat) : Prop := (q.1.cls ≠ "java/lang/invoke/MethodHandle" ∧ q.1.cls ≠ "java/lang/invoke/VarHandle") ∧ Cond.instantiable q.1.cls q.2 ∈ tables_1 ∧ Cond.privateMethod q.1 ∈ tables_1 ∧ Cond.instanceMethod q.1 ∈ tables_1
theorem lw_p0 : lw_okq (⟨"ReplayMachine", "advance", "()I"⟩, 6) := ⟨⟨by decide +kernel, by decide +kernel⟩, List.mem_of_getElem? (i := 18) (by decide +kernel), List.mem_of_getElem? (i := 212) (by decide +kernel), List.mem_of_getElem? (i := 213) (by decide +kernel)⟩
theorem lw_p1 : lw_okq (⟨"ReplayMachine$Machine", "hasTooFew", "(II)Z"⟩, 6) := ⟨⟨by decide +kernel, by decide +kernel⟩, List.mem_of_getElem? (i := 26) (by decide +kernel), List.mem_of_getElem? (i := 223) (by decide +kernel), List.mem_of_getElem? (i := 224) (by decide +kernel)⟩
theorem lw_p2 : lw_okq (⟨"ReplayMachine$Machine", "argumentPlace", "(I)I"⟩, 6) := ⟨⟨by decide +kernel, by decide +kernel⟩, List.mem_of_getElem? (i := 26) (by decide +kernel), List.mem_of_getElem? (i := 227) (by decide +kernel), List.mem_of_getElem? (i := 228) (by decide +kernel)⟩
theorem lw_p3 : lw_okq (⟨"ReplayMachine$Machine", "fromTop", "(I)I"⟩, 6) := ⟨⟨by decide +kernel, by decide +kernel⟩, List.mem_of_getElem? (i := 26) (by decide +kernel), List.mem_of_getElem? (i := 233) (by decide +kernel), List.mem_of_getElem? (i := 234) (by decide +kernel)⟩
theorem lw_p4 : lw_okq (⟨"ReplayMachine$Machine", "push", "(I)V"⟩, 6) := ⟨⟨by decide +kernel, by decide +kernel⟩, List.mem_of_getElem? (i := 26) (by decide +kernel), List.mem_of_getElem? (i := 265) (by decide +kernel), List.mem_of_getElem? (i := 266) (by decide +kernel)⟩
theorem lw_p5 : lw_okq (⟨"ReplayMachine$Machine", "put", "(II)V"⟩, 6) := ⟨⟨by decide +kernel, by decide +kernel⟩, List.mem_of_getElem? (i := 26) (by decide +kernel), List.mem_of_getElem? (i := 269) (by decide +kernel), List.mem_of_getElem? (i := 270) (by decide +kernel)⟩
theorem lw_p6 : lw_okq (⟨"ReplayMachine$Machine", "exchange", "()V"⟩, 6) := ⟨⟨by decide +kernel, by decide +kernel⟩, List.mem_of_getElem? (i := 26) (by decide +kernel), List.mem_of_getElem? (i := 277) (by decide +kernel), List.mem_of_getElem? (i := 278) (by decide +kernel)⟩
theorem lw_p7 : lw_okq (⟨"ReplayMachine$Machine", "replaceTwo", "(I)V"⟩, 6) := ⟨⟨by decide +kernel, by decide +kernel⟩, List.mem_of_getElem? (i := 26) (by decide +kernel), List.mem_of_getElem? (i := 284) (by decide +kernel), List.mem_of_getElem? (i := 285) (by decide +kernel)⟩
theorem lw_p8 : lw_okq (⟨"ReplayMachine$Machine", "load", "()V"⟩, 6) := ⟨⟨by decide +kernel, by decide +kernel⟩, List.mem_of_getElem? (i := 26) (by decide +kernel), List.mem_of_getElem? (i := 288) (by decide +kernel), List.mem_of_getElem? (i := 289) (by decide +kernel)⟩
theorem lw_p9 : lw_okq (⟨"ReplayMachine$Machine", "store", "()V"⟩, 6) := ⟨⟨by decide +kernel, by decide +kernel⟩, List.mem_of_getElem? (i := 26) (by decide +kernel), List.mem_of_getElem? (i := 292) (by decide +kernel), List.mem_of_getElem? (i := 293) (by decide +kernel)⟩
theorem lw_p10 : lw_okq (⟨"ReplayMachine$Machine", "jumpIf", "(ZI)V"⟩, 6) := ⟨⟨by decide +kernel, by decide +kernel⟩, List.mem_of_getElem? (i := 26) (by decide +kernel), List.mem_of_getElem? (i := 296) (by decide +kernel), List.mem_of_getElem? (i := 297) (by decide +kernel)⟩
theorem lw_p11 : lw_okq (⟨"ReplayMachine$Machine", "enter", "(I)V"⟩, 6) := ⟨⟨by decide +kernel, by decide +kernel⟩, List.mem_of_getElem? (i := 26) (by decide +kernel), List.mem_of_getElem? (i := 300) (by decide +kernel), List.mem_of_getElem? (i := 301) (by decide +kernel)⟩
theorem lw_p12 : lw_okq (⟨"ReplayMachine$Machine", "leave", "()V"⟩, 6) := ⟨⟨by decide +kernel, by decide +kernel⟩, List.mem_of_getElem? (i := 26) (by decide +kernel), List.mem_of_getElem? (i := 304) (by decide +kernel), List.mem_of_getElem? (i := 305) (by decide +kernel)⟩
theorem lw_p13 : lw_okq (⟨"ReplayMachine$Machine", "takeInput", "()V"⟩, 6) := ⟨⟨by decide +kernel, by decide +kernel⟩, List.mem_of_getElem? (i := 26) (by decide +kernel), List.mem_of_getElem? (i := 308) (by decide +kernel), List.mem_of_getElem? (i := 309) (by decide +kernel)⟩
theorem lw_p14 : lw_okq (⟨"ReplayMachine$Machine", "pushRandom", "(I)V"⟩, 6) := ⟨⟨by decide +kernel, by decide +kernel⟩, List.mem_of_getElem? (i := 26) (by decide +kernel), List.mem_of_getElem? (i := 312) (by decide +kernel), List.mem_of_getElem? (i := 313) (by decide +kernel)⟩
theorem lw_p15 : lw_okq (⟨"ReplayMachine$Checkpoints", "isMultiple", "(I)Z"⟩, 3) := ⟨⟨by decide +kernel, by decide +kernel⟩, List.mem_of_getElem? (i := 158) (by decide +kernel), List.mem_of_getElem? (i := 321) (by decide +kernel), List.mem_of_getElem? (i := 322) (by decide +kernel)⟩
def lw_privs_1 : List (MethodName × Nat) := [(⟨"ReplayMachine", "advance", "()I"⟩, 6), (⟨"ReplayMachine$Machine", "hasTooFew", "(II)Z"⟩, 6), (⟨"ReplayMachine$Machine", "argumentPlace", "(I)I"⟩, 6), (⟨"ReplayMachine$Machine", "fromTop", "(I)I"⟩, 6), (⟨"ReplayMachine$Machine", "push", "(I)V"⟩, 6), (⟨"ReplayMachine$Machine", "put", "(II)V"⟩, 6), (⟨"ReplayMachine$Machine", "exchange", "()V"⟩, 6), (⟨"ReplayMachine$Machine", "replaceTwo", "(I)V"⟩, 6), (⟨"ReplayMachine$Machine", "load", "()V"⟩, 6), (⟨"ReplayMachine$Machine", "store", "()V"⟩, 6), (⟨"ReplayMachine$Machine", "jumpIf", "(ZI)V"⟩, 6), (⟨"ReplayMachine$Machine", "enter", "(I)V"⟩, 6), (⟨"ReplayMachine$Machine", "leave", "()V"⟩, 6), (⟨"ReplayMachine$Machine", "takeInput", "()V"⟩, 6), (⟨"ReplayMachine$Machine", "pushRandom", "(I)V"⟩, 6), (⟨"ReplayMachine$Checkpoints", "isMultiple", "(I)Z"⟩, 3)]
theorem lw_r1 : ∀ q ∈ lw_privs_1, lw_okq q := List.forall_mem_cons.mpr ⟨lw_p0, List.forall_mem_cons.mpr ⟨lw_p1, List.forall_mem_cons.mpr ⟨lw_p2, List.forall_mem_cons.mpr ⟨lw_p3, List.forall_mem_cons.mpr ⟨lw_p4, List.forall_mem_cons.mpr ⟨lw_p5, List.forall_mem_cons.mpr ⟨lw_p6, List.forall_mem_cons.mpr ⟨lw_p7, List.forall_mem_cons.mpr ⟨lw_p8, List.forall_mem_cons.mpr ⟨lw_p9, List.forall_mem_cons.mpr ⟨lw_p10, List.forall_mem_cons.mpr ⟨lw_p11, List.forall_mem_cons.mpr ⟨lw_p12, List.forall_mem_cons.mpr ⟨lw_p13, List.forall_mem_cons.mpr ⟨lw_p14, List.forall_mem_cons.mpr ⟨lw_p15, fun _ h => absurd h List.not_mem_nil⟩⟩⟩⟩⟩⟩⟩⟩⟩⟩⟩⟩⟩⟩⟩⟩
theorem lw_p16 : lw_okq (⟨"ReplayMachine$Checkpoints", "thinOut", "()V"⟩, 3) := ⟨⟨by decide +kernel, by decide +kernel⟩, List.mem_of_getElem? (i := 158) (by decide +kernel), List.mem_of_getElem? (i := 325) (by decide +kernel), List.mem_of_getElem? (i := 326) (by decide +kernel)⟩
theorem lw_p17 : lw_okq (⟨"java/lang/Throwable", "fillInStackTrace", "(I)Ljava/lang/Throwable;"⟩, 6) := ⟨⟨by decide +kernel, by decide +kernel⟩, List.mem_of_getElem? (i := 394) (by decide +kernel), List.mem_of_getElem? (i := 392) (by decide +kernel), List.mem_of_getElem? (i := 393) (by decide +kernel)⟩
theorem lw_p18 : lw_okq (⟨"ReplayMachine", "stopHere", "()I"⟩, 6) := ⟨⟨by decide +kernel, by decide +kernel⟩, List.mem_of_getElem? (i := 18) (by decide +kernel), List.mem_of_getElem? (i := 467) (by decide +kernel), List.mem_of_getElem? (i := 468) (by decide +kernel)⟩
theorem lw_p19 : lw_okq (⟨"ReplayMachine", "travel", "(I)V"⟩, 6) := ⟨⟨by decide +kernel, by decide +kernel⟩, List.mem_of_getElem? (i := 18) (by decide +kernel), List.mem_of_getElem? (i := 478) (by decide +kernel), List.mem_of_getElem? (i := 479) (by decide +kernel)⟩
theorem lw_p20 : lw_okq (⟨"ReplayMachineModel", "mark", "()V"⟩, 23) := ⟨⟨by decide +kernel, by decide +kernel⟩, List.mem_of_getElem? (i := 561) (by decide +kernel), List.mem_of_getElem? (i := 567) (by decide +kernel), List.mem_of_getElem? (i := 568) (by decide +kernel)⟩
theorem lw_p21 : lw_okq (⟨"ReplayMachineModel", "advance", "()I"⟩, 23) := ⟨⟨by decide +kernel, by decide +kernel⟩, List.mem_of_getElem? (i := 561) (by decide +kernel), List.mem_of_getElem? (i := 657) (by decide +kernel), List.mem_of_getElem? (i := 658) (by decide +kernel)⟩
theorem lw_p22 : lw_okq (⟨"ReplayMachineModel", "check", "()I"⟩, 23) := ⟨⟨by decide +kernel, by decide +kernel⟩, List.mem_of_getElem? (i := 561) (by decide +kernel), List.mem_of_getElem? (i := 661) (by decide +kernel), List.mem_of_getElem? (i := 662) (by decide +kernel)⟩
theorem lw_p23 : lw_okq (⟨"ReplayMachineModel", "isArgument", "(I)Z"⟩, 23) := ⟨⟨by decide +kernel, by decide +kernel⟩, List.mem_of_getElem? (i := 561) (by decide +kernel), List.mem_of_getElem? (i := 668) (by decide +kernel), List.mem_of_getElem? (i := 669) (by decide +kernel)⟩
theorem lw_p24 : lw_okq (⟨"ReplayMachineModel", "perform", "()V"⟩, 23) := ⟨⟨by decide +kernel, by decide +kernel⟩, List.mem_of_getElem? (i := 561) (by decide +kernel), List.mem_of_getElem? (i := 675) (by decide +kernel), List.mem_of_getElem? (i := 676) (by decide +kernel)⟩
theorem lw_p25 : lw_okq (⟨"ReplayMachineModel", "push", "(I)V"⟩, 23) := ⟨⟨by decide +kernel, by decide +kernel⟩, List.mem_of_getElem? (i := 561) (by decide +kernel), List.mem_of_getElem? (i := 679) (by decide +kernel), List.mem_of_getElem? (i := 680) (by decide +kernel)⟩
theorem lw_p26 : lw_okq (⟨"ReplayMachineModel", "pop", "()I"⟩, 23) := ⟨⟨by decide +kernel, by decide +kernel⟩, List.mem_of_getElem? (i := 561) (by decide +kernel), List.mem_of_getElem? (i := 683) (by decide +kernel), List.mem_of_getElem? (i := 684) (by decide +kernel)⟩
theorem lw_p27 : lw_okq (⟨"ReplayMachineModel", "branch", "(II)V"⟩, 23) := ⟨⟨by decide +kernel, by decide +kernel⟩, List.mem_of_getElem? (i := 561) (by decide +kernel), List.mem_of_getElem? (i := 687) (by decide +kernel), List.mem_of_getElem? (i := 688) (by decide +kernel)⟩
theorem lw_p28 : lw_okq (⟨"ReplayMachineModel", "call", "(I)V"⟩, 23) := ⟨⟨by decide +kernel, by decide +kernel⟩, List.mem_of_getElem? (i := 561) (by decide +kernel), List.mem_of_getElem? (i := 691) (by decide +kernel), List.mem_of_getElem? (i := 692) (by decide +kernel)⟩
theorem lw_p29 : lw_okq (⟨"ReplayMachineModel", "giveBack", "()V"⟩, 23) := ⟨⟨by decide +kernel, by decide +kernel⟩, List.mem_of_getElem? (i := 561) (by decide +kernel), List.mem_of_getElem? (i := 695) (by decide +kernel), List.mem_of_getElem? (i := 696) (by decide +kernel)⟩
theorem lw_p30 : lw_okq (⟨"ReplayMachineModel", "draw", "(I)I"⟩, 23) := ⟨⟨by decide +kernel, by decide +kernel⟩, List.mem_of_getElem? (i := 561) (by decide +kernel), List.mem_of_getElem? (i := 699) (by decide +kernel), List.mem_of_getElem? (i := 700) (by decide +kernel)⟩
theorem lw_p31 : lw_okq (⟨"ReplayMachineModel", "grow", "()V"⟩, 23) := ⟨⟨by decide +kernel, by decide +kernel⟩, List.mem_of_getElem? (i := 561) (by decide +kernel), List.mem_of_getElem? (i := 708) (by decide +kernel), List.mem_of_getElem? (i := 709) (by decide +kernel)⟩
def lw_privs_2 : List (MethodName × Nat) := [(⟨"ReplayMachine$Checkpoints", "thinOut", "()V"⟩, 3), (⟨"java/lang/Throwable", "fillInStackTrace", "(I)Ljava/lang/Throwable;"⟩, 6), (⟨"ReplayMachine", "stopHere", "()I"⟩, 6), (⟨"ReplayMachine", "travel", "(I)V"⟩, 6), (⟨"ReplayMachineModel", "mark", "()V"⟩, 23), (⟨"ReplayMachineModel", "advance", "()I"⟩, 23), (⟨"ReplayMachineModel", "check", "()I"⟩, 23), (⟨"ReplayMachineModel", "isArgument", "(I)Z"⟩, 23), (⟨"ReplayMachineModel", "perform", "()V"⟩, 23), (⟨"ReplayMachineModel", "push", "(I)V"⟩, 23), (⟨"ReplayMachineModel", "pop", "()I"⟩, 23), (⟨"ReplayMachineModel", "branch", "(II)V"⟩, 23), (⟨"ReplayMachineModel", "call", "(I)V"⟩, 23), (⟨"ReplayMachineModel", "giveBack", "()V"⟩, 23), (⟨"ReplayMachineModel", "draw", "(I)I"⟩, 23), (⟨"ReplayMachineModel", "grow", "()V"⟩, 23)]
theorem lw_r2 : ∀ q ∈ lw_privs_2, lw_okq q := List.forall_mem_cons.mpr ⟨lw_p16, List.forall_mem_cons.mpr ⟨lw_p17, List.forall_mem_cons.mpr ⟨lw_p18, List.forall_mem_cons.mpr ⟨lw_p19, List.forall_mem_cons.mpr ⟨lw_p20, List.forall_mem_cons.mpr ⟨lw_p21, List.forall_mem_cons.mpr ⟨lw_p22, List.forall_mem_cons.mpr ⟨lw_p23, List.forall_mem_cons.mpr ⟨lw_p24, List.forall_mem_cons.mpr ⟨lw_p25, List.forall_mem_cons.mpr ⟨lw_p26, List.forall_mem_cons.mpr ⟨lw_p27, List.forall_mem_cons.mpr ⟨lw_p28, List.forall_mem_cons.mpr ⟨lw_p29, List.forall_mem_cons.mpr ⟨lw_p30, List.forall_mem_cons.mpr ⟨lw_p31, fun _ h => absurd h List.not_mem_nil⟩⟩⟩⟩⟩⟩⟩⟩⟩⟩⟩⟩⟩⟩⟩⟩
theorem lw_p32 : lw_okq (⟨"ReplayMachineModel", "remember", "()V"⟩, 23) := ⟨⟨by decide +kernel, by decide +kernel⟩, List.mem_of_getElem? (i := 561) (by decide +kernel), List.mem_of_getElem? (i := 716) (by decide +kernel), List.mem_of_getElem? (i := 717) (by decide +kernel)⟩
theorem lw_p33 : lw_okq (⟨"ReplayMachineModel", "stop", "()I"⟩, 23) := ⟨⟨by decide +kernel, by decide +kernel⟩, List.mem_of_getElem? (i := 561) (by decide +kernel), List.mem_of_getElem? (i := 720) (by decide +kernel), List.mem_of_getElem? (i := 721) (by decide +kernel)⟩
theorem lw_p34 : lw_okq (⟨"ReplayMachineModel", "account", "(I)V"⟩, 23) := ⟨⟨by decide +kernel, by decide +kernel⟩, List.mem_of_getElem? (i := 561) (by decide +kernel), List.mem_of_getElem? (i := 728) (by decide +kernel), List.mem_of_getElem? (i := 729) (by decide +kernel)⟩
theorem lw_p35 : lw_okq (⟨"ReplayMachineModel", "seek", "(I)V"⟩, 23) := ⟨⟨by decide +kernel, by decide +kernel⟩, List.mem_of_getElem? (i := 561) (by decide +kernel), List.mem_of_getElem? (i := 732) (by decide +kernel), List.mem_of_getElem? (i := 733) (by decide +kernel)⟩
theorem lw_p36 : lw_okq (⟨"ReplayMachineModel", "backOne", "()I"⟩, 23) := ⟨⟨by decide +kernel, by decide +kernel⟩, List.mem_of_getElem? (i := 561) (by decide +kernel), List.mem_of_getElem? (i := 740) (by decide +kernel), List.mem_of_getElem? (i := 741) (by decide +kernel)⟩
theorem lw_p37 : lw_okq (⟨"ReplayMachineModel", "fail", "(I)I"⟩, 23) := ⟨⟨by decide +kernel, by decide +kernel⟩, List.mem_of_getElem? (i := 561) (by decide +kernel), List.mem_of_getElem? (i := 767) (by decide +kernel), List.mem_of_getElem? (i := 768) (by decide +kernel)⟩
def lw_privs_3 : List (MethodName × Nat) := [(⟨"ReplayMachineModel", "remember", "()V"⟩, 23), (⟨"ReplayMachineModel", "stop", "()I"⟩, 23), (⟨"ReplayMachineModel", "account", "(I)V"⟩, 23), (⟨"ReplayMachineModel", "seek", "(I)V"⟩, 23), (⟨"ReplayMachineModel", "backOne", "()I"⟩, 23), (⟨"ReplayMachineModel", "fail", "(I)I"⟩, 23)]
theorem lw_r3 : ∀ q ∈ lw_privs_3, lw_okq q := List.forall_mem_cons.mpr ⟨lw_p32, List.forall_mem_cons.mpr ⟨lw_p33, List.forall_mem_cons.mpr ⟨lw_p34, List.forall_mem_cons.mpr ⟨lw_p35, List.forall_mem_cons.mpr ⟨lw_p36, List.forall_mem_cons.mpr ⟨lw_p37, fun _ h => absurd h List.not_mem_nil⟩⟩⟩⟩⟩⟩
def lw_privs : List (MethodName × Nat) := lw_privs_1 ++ (lw_privs_2 ++ (lw_privs_3))
def lw_tbl : List Cond := k2_sels lw_privs ++ tables_1
theorem lw_privs_ok : ∀ q ∈ lw_privs, lw_okq q := by
  show ∀ q ∈ lw_privs_1 ++ (lw_privs_2 ++ (lw_privs_3)), lw_okq q
  exact List.forall_mem_append.mpr ⟨lw_r1, List.forall_mem_append.mpr ⟨lw_r2, lw_r3⟩⟩
end
section
/-! worlds by index: cell i lies at ad i and holds c i (c : Nat → va_E), i < n; the judgement px_J with the heap, the locals and the stack as pure data -/
def px_W (ad : Nat → Nat) (c : Nat → va_E) (n : Nat) : va_W := (List.range n).map (fun i => (ad i, c i))
theorem px_len {ad : Nat → Nat} {c : Nat → va_E} {n : Nat} : (px_W ad c n).length = n := by simp [px_W]
theorem px_at {ad : Nat → Nat} {c : Nat → va_E} {n i : Nat} (h : i < n) : (px_W ad c n)[i]? = some (ad i, c i) := by
  unfold px_W
  rw [List.getElem?_map, List.getElem?_range h]
  rfl
theorem px_inv {ad : Nat → Nat} {c : Nat → va_E} {n k : Nat} {q : Nat × va_E} (h : (px_W ad c n)[k]? = some q) : k < n ∧ q = (ad k, c k) := by
  have hk : k < n := by
    have := (List.getElem?_eq_some_iff.mp h).1
    rwa [px_len] at this
  rw [px_at hk] at h
  exact ⟨hk, (Option.some.inj h).symm⟩
theorem px_set {ad : Nat → Nat} {c : Nat → va_E} {n i : Nat} {e : va_E} (h : i < n) : (px_W ad c n).set i (ad i, e) = px_W ad (va_up c i e) n := by
  apply List.ext_getElem?
  intro j
  by_cases hj : j < n
  · by_cases hji : j = i
    · subst hji
      rw [List.getElem?_set_self (by rw [px_len]; exact hj), px_at hj]
      simp [va_up]
    · rw [List.getElem?_set_ne (Ne.symm hji), px_at hj, px_at hj]
      simp [va_up, hji]
  · rw [List.getElem?_eq_none (by rw [List.length_set, px_len]; omega), List.getElem?_eq_none (by rw [px_len]; omega)]
theorem px_push {ad : Nat → Nat} {c : Nat → va_E} {n q : Nat} {e : va_E} : px_W ad c n ++ [(q, e)] = px_W (va_up ad n q) (va_up c n e) (n + 1) := by
  apply List.ext_getElem?
  intro j
  by_cases hj : j < n
  · rw [List.getElem?_append_left (by rw [px_len]; exact hj), px_at hj, px_at (by omega)]
    have : j ≠ n := by omega
    simp [va_up, this]
  · rw [List.getElem?_append_right (by rw [px_len]; omega), px_len]
    by_cases hjn : j = n
    · subst hjn
      rw [px_at (by omega)]
      simp [va_up]
    · rw [List.getElem?_eq_none (by simp; omega), List.getElem?_eq_none (by rw [px_len]; omega)]
def px_Inj (ad : Nat → Nat) (n : Nat) : Prop := ∀ i j, i < n → j < n → ad i = ad j → i = j
theorem px_D {ad : Nat → Nat} {c : Nat → va_E} {n : Nat} {A : Nat → Prop} (hi : px_Inj ad n) (hA : ∀ i, i < n → A (ad i)) : va_D A (px_W ad c n) := by
  refine ⟨fun i j x y hx hy hxy => ?_, fun k q hk => ?_⟩
  · obtain ⟨h1, rfl⟩ := px_inv hx
    obtain ⟨h2, rfl⟩ := px_inv hy
    exact hi i j h1 h2 hxy
  · obtain ⟨h1, rfl⟩ := px_inv hk
    exact hA k h1
theorem px_injD {ad : Nat → Nat} {c : Nat → va_E} {n : Nat} {A : Nat → Prop} (h : va_D A (px_W ad c n)) : px_Inj ad n := fun i j hi hj e => h.1 i j _ _ (px_at hi) (px_at hj) e
/-- which cells a method may change -/
def px_A (ad : Nat → Nat) (n sz : Nat) : Nat → Prop := fun q => (∃ i, i < n ∧ ad i = q) ∨ sz ≤ q
/-- facts of the tables and of old cells that stay: they are blind to frames and move with the tables -/
def px_Gk (G : (Nat → Prop) → State → Prop) : Prop :=
  (∀ (A : Nat → Prop) (U : State) (g : JFrame) (mk : MethodId) (a : Array Value), G A U → G A (U.calling g mk a)) ∧
  ∀ (A A' : Nat → Prop) (s U : State) (H : Heap) (locs : List Loc), G A s → va_S A s.heap H locs → (∀ q, A' q → A q) → s.WarmedH U.vm → U.heap = H → G A' U
/-- what stands fast in a body -/
abbrev px_X (p : Program) (s : State) (m : MethodId) (args : Array Value) (cd : Code) (cc : ByteArray) (nL : Nat) (Ts : List Cond) (own : String) (G : (Nat → Prop) → State → Prop) (D : va_G) (cl : List vw_C) (tys : List (ClassId × FieldType)) (A : Nat → Prop) (ad : Nat → Nat) (n : Nat) : Prop :=
  CallFix p m cd cc nL s args Ts own ∧ va_K D cl tys s ∧ px_Inj ad n ∧ (∀ i, i < n → A (ad i)) ∧ (∀ q, s.heap.size ≤ q → A q) ∧ px_Gk G ∧ G A s
def px_J (p : Program) (l : Launch) (e : Env) (R : Room) (s : State) (m : MethodId) (args : Array Value) (below : List Frame) (meth : Method) (cd : Code) (D : va_G) (cl : List vw_C) (A : Nat → Prop) (ad : Nat → Nat) (n nL cells slots : Nat) (Q : State → Prop) (c : Nat → va_E) (pc : Nat) (L : List (Nat × Value)) (st : List Value) : Prop :=
  ∀ (ls : Array Slot) (H : Heap) (locs : List Loc), lv_has ls nL L → va_P D cl (px_W ad c n) H → va_S A s.heap H locs → W p l e R s m args below meth cd H locs cells slots Q (F0 m pc ls st)
/-- a contract: from the world c, with the arguments As, the method answers res and leaves the world c1; it makes nothing -/
def px_Pc (G : (Nat → Prop) → State → Prop) (D : va_G) (cl : List vw_C) (tys : List (ClassId × FieldType)) (As : List Value) (ad : Nat → Nat) (c : Nat → va_E) (n sz : Nat) : Array Value → State → Prop :=
  va_Pc As (fun U => U.heap.size = sz ∧ va_P D cl (px_W ad c n) U.heap ∧ va_K D cl tys U ∧ px_Inj ad n ∧ G (px_A ad n sz) U)
def px_Qc (D : va_G) (cl : List vw_C) (ad : Nat → Nat) (n sz : Nat) (res : Option Value) (c1 : Nat → va_E) : Array Value → State → Outcome → State → Prop := fun _ st o t =>
  o = .returned res ∧ va_P D cl (px_W ad c1 n) t.heap ∧ va_F (px_A ad n sz) st t
def px_M (l : Launch) (y : MethodName) (ws : List Cond) (rm : Room) (G : (Nat → Prop) → State → Prop) (D : va_G) (cl : List vw_C) (tys : List (ClassId × FieldType)) (As : List Value) (ad : Nat → Nat) (c : Nat → va_E) (n : Nat) (res : Option Value) (c1 : Nat → va_E) : Prop :=
  ∀ sz : Nat, Met l y ws rm (px_Pc G D cl tys As ad c n sz) (px_Qc D cl ad n sz res c1) 0 0 (px_A ad n sz)
theorem px_blind {G : (Nat → Prop) → State → Prop} (hG : px_Gk G) {D : va_G} {cl : List vw_C} {tys : List (ClassId × FieldType)} {As : List Value} {ad : Nat → Nat} {c : Nat → va_E} {n sz : Nat} : FrameBlind (px_Pc G D cl tys As ad c n sz) := by
  intro a U g mk q
  obtain ⟨q0, q1, qP, qK, qD, qG⟩ := q
  exact ⟨q0, q1, qP, va_K.moved (u := U) (U := U.calling g mk a) (Vm.Alike.refl U.vm) qK, qD, hG.1 _ U g mk a qG⟩
/-- a field that getfield at a constant pool's place reads -/
def px_Fd (Ts : List Cond) (cl : List vw_C) (own : String) (index ci k : Nat) : Prop :=
  ∃ (ref C : String) (T : u_T) (N : Nat), cl[ci]? = some (C, T, N) ∧ (∀ w ∈ u_ws C T N, w ∈ Ts) ∧ k < N ∧ Cond.fieldLink own index ref (T k).2.1 (T k).2.2.1 ∈ Ts ∧ ((T k).1 = ref ∨ Cond.sameField ref (T k).1 (T k).2.1 (T k).2.2.1 ∈ Ts)
/-- the same for putfield, of a field that isn't final -/
def px_Fp (Ts : List Cond) (cl : List vw_C) (own : String) (index ci k : Nat) (ty : FieldType) : Prop :=
  ∃ (ref C : String) (T : u_T) (N : Nat) (ty0 : Nat → FieldType), cl[ci]? = some (C, T, N) ∧ (∀ w ∈ u_ws C T N, w ∈ Ts) ∧ k < N ∧ Cond.fieldLink own index ref (T k).2.1 (T k).2.2.1 ∈ Ts ∧ ((T k).1 = ref ∨ Cond.sameField ref (T k).1 (T k).2.1 (T k).2.2.1 ∈ Ts) ∧
    (∀ k, k < N → parseFieldDescriptor (T k).2.2.1 = some (ty0 k)) ∧ (∀ a, a < N → ∀ b, b < N → a ≠ b → (T a).2.1 ≠ (T b).2.1) ∧ (T k).2.2.2 = false ∧ parseFieldDescriptor (T k).2.2.1 = some ty
section PXR
variable {p : Program} {l : Launch} {e : Env} {R : Room} {s : State} {m : MethodId} {args : Array Value} {below : List Frame} {meth : Method} {cd : Code} {Q : State → Prop} {cells slots : Nat}
variable {cc : ByteArray} {Ts : List Cond} {own : String} {G : (Nat → Prop) → State → Prop} {D : va_G} {cl : List vw_C} {A : Nat → Prop} {tys : List (ClassId × FieldType)} {ad : Nat → Nat} {n nL : Nat} {c : Nat → va_E} {pc : Nat} {L : List (Nat × Value)} {st : List Value}
theorem px_same {ref : String} {T : u_T} {k : Nat} (hts : ∀ w ∈ Ts, w.before args s = true) (h : (T k).1 = ref ∨ Cond.sameField ref (T k).1 (T k).2.1 (T k).2.2.1 ∈ Ts) : ∀ x, s.fieldFound? (T k).1 (T k).2.1 (T k).2.2.1 = some x → s.fieldFound? ref (T k).2.1 (T k).2.2.1 = some x := by
  intro x hx
  rcases h with h | h
  · rw [← h]; exact hx
  · exact u_same (hts _ h) x hx
theorem j_get (X : px_X p s m args cd cc nL Ts own G D cl tys A ad n) {index ci k : Nat} (F : px_Fd Ts cl own index ci k) (i : Nat) (hi : i < n) {fs : List Value} (he : c i = .inr (ci, fs)) {v : Value} (hv : fs[k]? = some v) (hd : decode cc pc = .ok (.getfield index, 3))
    (kk : px_J p l e R s m args below meth cd D cl A ad n nL cells slots Q c (pc + 3) L (v :: st)) : px_J p l e R s m args below meth cd D cl A ad n nL cells slots Q c pc L (.ref (ad i) :: st) := by
  intro ls H locs h1 h2 h3
  obtain ⟨ref, C, T, N, f1, f2, f3, f4, f5⟩ := F
  exact va_get X.1.1 X.1.2.1 X.1.2.2.2.2 f2 X.1.2.2.2.1 X.2.1 h2 i (by rw [px_at hi, he]) f1 k f3 (X.1.2.2.2.2 _ f4) (px_same X.1.2.2.2.2 f5) hv hd (kk ls H locs h1 h2 h3)
theorem j_put (X : px_X p s m args cd cc nL Ts own G D cl tys A ad n) {index ci k : Nat} {ty : FieldType} (F : px_Fp Ts cl own index ci k ty) (i : Nat) (hi : i < n) {fs : List Value} (he : c i = .inr (ci, fs)) {v : Value} (hl : k < fs.length) (hn : narrow ty v = v) (hf : fits ty v = true) (hd : decode cc pc = .ok (.putfield index, 3))
    (kk : px_J p l e R s m args below meth cd D cl A ad n nL cells slots Q (va_up c i (.inr (ci, fs.set k v))) (pc + 3) L st) : px_J p l e R s m args below meth cd D cl A ad n nL cells slots Q c pc L (v :: .ref (ad i) :: st) := by
  intro ls H locs h1 h2 h3
  obtain ⟨ref, C, T, N, ty0, f1, f2, f3, f4, f5, f6, f7, f8, f9⟩ := F
  refine va_put (ty := ty) X.1.1 X.1.2.1 X.1.2.2.2.2 f2 ty0 f6 f7 X.1.2.2.2.1 X.2.1 h2 (px_D X.2.2.1 X.2.2.2.1) h3 i (by rw [px_at hi, he]) f1 k f3 (X.1.2.2.2.2 _ f4) (px_same X.1.2.2.2.2 f5) f8 f9 hn hf hl hd (fun H1 locs1 g1 _ g3 => ?_)
  rw [px_set hi] at g1
  exact kk ls H1 locs1 h1 g1 g3
theorem j_iald (X : px_X p s m args cd cc nL Ts own G D cl tys A ad n) (i t0 : Nat) (hi : i < n) {cA : ClassId} {len : Nat} {f : Nat → Int32} (he : c i = .inl (cA, len, .inl f)) (ht : tys[t0]? = some (cA, .int)) {x : Int32} (hin : vp_in x len) (hd : decode cc pc = .ok (.iaload, 1))
    (kk : px_J p l e R s m args below meth cd D cl A ad n nL cells slots Q c (pc + 1) L (.int (f x.toNatClampNeg) :: st)) : px_J p l e R s m args below meth cd D cl A ad n nL cells slots Q c pc L (.int x :: .ref (ad i) :: st) := by
  intro ls H locs h1 h2 h3
  exact va_iald X.1.1 X.1.2.1 X.2.1 h2 i t0 (by rw [px_at hi, he]) ht hin hd (kk ls H locs h1 h2 h3)
theorem j_zald (X : px_X p s m args cd cc nL Ts own G D cl tys A ad n) (i t0 : Nat) (hi : i < n) {cA : ClassId} {len : Nat} {f : Nat → Int32} (he : c i = .inl (cA, len, .inl f)) (ht : tys[t0]? = some (cA, .boolean)) {x : Int32} (hin : vp_in x len) (hd : decode cc pc = .ok (.baload, 1))
    (kk : px_J p l e R s m args below meth cd D cl A ad n nL cells slots Q c (pc + 1) L (.int (f x.toNatClampNeg) :: st)) : px_J p l e R s m args below meth cd D cl A ad n nL cells slots Q c pc L (.int x :: .ref (ad i) :: st) := by
  intro ls H locs h1 h2 h3
  exact va_zald X.1.1 X.1.2.1 X.2.1 h2 i t0 (by rw [px_at hi, he]) ht hin hd (kk ls H locs h1 h2 h3)
theorem j_iast (X : px_X p s m args cd cc nL Ts own G D cl tys A ad n) (i t0 : Nat) (hi : i < n) {cA : ClassId} {len : Nat} {f : Nat → Int32} (he : c i = .inl (cA, len, .inl f)) (ht : tys[t0]? = some (cA, .int)) {x y : Int32} (hin : vp_in x len) (hd : decode cc pc = .ok (.iastore, 1))
    (kk : px_J p l e R s m args below meth cd D cl A ad n nL cells slots Q (va_up c i (.inl (cA, len, .inl (upd f x.toNatClampNeg y)))) (pc + 1) L st) : px_J p l e R s m args below meth cd D cl A ad n nL cells slots Q c pc L (.int y :: .int x :: .ref (ad i) :: st) := by
  intro ls H locs h1 h2 h3
  refine va_iast X.1.1 X.1.2.1 X.2.1 h2 (px_D X.2.2.1 X.2.2.2.1) h3 i t0 (by rw [px_at hi, he]) ht hin hd (fun H1 locs1 g1 _ g3 => ?_)
  rw [px_set hi] at g1
  exact kk ls H1 locs1 h1 g1 g3
theorem j_zast (X : px_X p s m args cd cc nL Ts own G D cl tys A ad n) (i t0 : Nat) (hi : i < n) {cA : ClassId} {len : Nat} {f : Nat → Int32} (he : c i = .inl (cA, len, .inl f)) (ht : tys[t0]? = some (cA, .boolean)) {x y : Int32} (hin : vp_in x len) (hd : decode cc pc = .ok (.bastore, 1))
    (kk : px_J p l e R s m args below meth cd D cl A ad n nL cells slots Q (va_up c i (.inl (cA, len, .inl (upd f x.toNatClampNeg (vp_nar .boolean y))))) (pc + 1) L st) : px_J p l e R s m args below meth cd D cl A ad n nL cells slots Q c pc L (.int y :: .int x :: .ref (ad i) :: st) := by
  intro ls H locs h1 h2 h3
  refine va_zast X.1.1 X.1.2.1 X.2.1 h2 (px_D X.2.2.1 X.2.2.2.1) h3 i t0 (by rw [px_at hi, he]) ht hin hd (fun H1 locs1 g1 _ g3 => ?_)
  rw [px_set hi] at g1
  exact kk ls H1 locs1 h1 g1 g3
theorem j_aald (X : px_X p s m args cd cc nL Ts own G D cl tys A ad n) (i t0 : Nat) (hi : i < n) {cA : ClassId} {C : String} {len : Nat} {f : Nat → Option Nat} (he : c i = .inl (cA, len, .inr (.inr (.inr (.inr f))))) (ht : tys[t0]? = some (cA, .object C)) {x : Int32} (hin : vp_in x len) (hd : decode cc pc = .ok (.aaload, 1))
    (kk : px_J p l e R s m args below meth cd D cl A ad n nL cells slots Q c (pc + 1) L (va_rf (f x.toNatClampNeg) :: st)) : px_J p l e R s m args below meth cd D cl A ad n nL cells slots Q c pc L (.int x :: .ref (ad i) :: st) := by
  intro ls H locs h1 h2 h3
  exact va_aldq X.1.1 X.1.2.1 X.2.1 h2 i t0 (by rw [px_at hi, he]) ht hin hd (kk ls H locs h1 h2 h3)
theorem j_aast (X : px_X p s m args cd cc nL Ts own G D cl tys A ad n) (i t0 j ci : Nat) (hi : i < n) (hj : j < n) {cA : ClassId} {r : vw_C} {len : Nat} {vs : List Value} {f : Nat → Option Nat} (he : c i = .inl (cA, len, .inr (.inr (.inr (.inr f))))) (ht : tys[t0]? = some (cA, .object r.1)) (hv : c j = .inr (ci, vs)) (hc : cl[ci]? = some r) {x : Int32} (hin : vp_in x len) (hd : decode cc pc = .ok (.aastore, 1))
    (kk : px_J p l e R s m args below meth cd D cl A ad n nL cells slots Q (va_up c i (.inl (cA, len, .inr (.inr (.inr (.inr (va_up f x.toNatClampNeg (some (ad j))))))))) (pc + 1) L st) : px_J p l e R s m args below meth cd D cl A ad n nL cells slots Q c pc L (.ref (ad j) :: .int x :: .ref (ad i) :: st) := by
  intro ls H locs h1 h2 h3
  refine va_astq X.1.1 X.1.2.1 X.2.1 h2 (px_D X.2.2.1 X.2.2.2.1) h3 i t0 j ci (by rw [px_at hi, he]) ht (by rw [px_at hj, hv]) hc hin hd (fun H1 locs1 g1 _ g3 => ?_)
  rw [px_set hi] at g1
  exact kk ls H1 locs1 h1 g1 g3
theorem j_iconst (X : px_X p s m args cd cc nL Ts own G D cl tys A ad n) {k : Int} {v : Int32} (hd : decode cc pc = .ok (.iconst k, 1)) (hv : Int32.ofInt k = v) (kk : px_J p l e R s m args below meth cd D cl A ad n nL cells slots Q c (pc + 1) L (.int v :: st)) : px_J p l e R s m args below meth cd D cl A ad n nL cells slots Q c pc L (st) := fun ls H locs h1 h2 h3 => lv_iconst X.1.1 X.1.2.1 hd hv (kk ls H locs h1 h2 h3)
theorem j_bipush (X : px_X p s m args cd cc nL Ts own G D cl tys A ad n) {k : Int} {v : Int32} (hd : decode cc pc = .ok (.bipush k, 2)) (hv : (Int8.ofInt k).toInt32 = v) (kk : px_J p l e R s m args below meth cd D cl A ad n nL cells slots Q c (pc + 2) L (.int v :: st)) : px_J p l e R s m args below meth cd D cl A ad n nL cells slots Q c pc L (st) := fun ls H locs h1 h2 h3 => lv_bipush X.1.1 X.1.2.1 hd hv (kk ls H locs h1 h2 h3)
theorem j_sipush (X : px_X p s m args cd cc nL Ts own G D cl tys A ad n) {k : Int} {v : Int32} (hd : decode cc pc = .ok (.sipush k, 3)) (hv : (Int16.ofInt k).toInt32 = v) (kk : px_J p l e R s m args below meth cd D cl A ad n nL cells slots Q c (pc + 3) L (.int v :: st)) : px_J p l e R s m args below meth cd D cl A ad n nL cells slots Q c pc L (st) := fun ls H locs h1 h2 h3 => lv_sipush X.1.1 X.1.2.1 hd hv (kk ls H locs h1 h2 h3)
theorem j_iadd (X : px_X p s m args cd cc nL Ts own G D cl tys A ad n) {x y : Int32} (hd : decode cc pc = .ok (.iadd, 1)) (kk : px_J p l e R s m args below meth cd D cl A ad n nL cells slots Q c (pc + 1) L (.int (x + y) :: st)) : px_J p l e R s m args below meth cd D cl A ad n nL cells slots Q c pc L (.int y :: .int x :: st) := fun ls H locs h1 h2 h3 => lv_iadd X.1.1 X.1.2.1 hd (kk ls H locs h1 h2 h3)
theorem j_isub (X : px_X p s m args cd cc nL Ts own G D cl tys A ad n) {x y : Int32} (hd : decode cc pc = .ok (.isub, 1)) (kk : px_J p l e R s m args below meth cd D cl A ad n nL cells slots Q c (pc + 1) L (.int (x - y) :: st)) : px_J p l e R s m args below meth cd D cl A ad n nL cells slots Q c pc L (.int y :: .int x :: st) := fun ls H locs h1 h2 h3 => lv_isub X.1.1 X.1.2.1 hd (kk ls H locs h1 h2 h3)
theorem j_imul (X : px_X p s m args cd cc nL Ts own G D cl tys A ad n) {x y : Int32} (hd : decode cc pc = .ok (.imul, 1)) (kk : px_J p l e R s m args below meth cd D cl A ad n nL cells slots Q c (pc + 1) L (.int (x * y) :: st)) : px_J p l e R s m args below meth cd D cl A ad n nL cells slots Q c pc L (.int y :: .int x :: st) := fun ls H locs h1 h2 h3 => lv_imul X.1.1 X.1.2.1 hd (kk ls H locs h1 h2 h3)
theorem j_iand (X : px_X p s m args cd cc nL Ts own G D cl tys A ad n) {x y : Int32} (hd : decode cc pc = .ok (.iand, 1)) (kk : px_J p l e R s m args below meth cd D cl A ad n nL cells slots Q c (pc + 1) L (.int (x &&& y) :: st)) : px_J p l e R s m args below meth cd D cl A ad n nL cells slots Q c pc L (.int y :: .int x :: st) := fun ls H locs h1 h2 h3 => lv_iand X.1.1 X.1.2.1 hd (kk ls H locs h1 h2 h3)
theorem j_ior (X : px_X p s m args cd cc nL Ts own G D cl tys A ad n) {x y : Int32} (hd : decode cc pc = .ok (.ior, 1)) (kk : px_J p l e R s m args below meth cd D cl A ad n nL cells slots Q c (pc + 1) L (.int (x ||| y) :: st)) : px_J p l e R s m args below meth cd D cl A ad n nL cells slots Q c pc L (.int y :: .int x :: st) := fun ls H locs h1 h2 h3 => lv_ior X.1.1 X.1.2.1 hd (kk ls H locs h1 h2 h3)
theorem j_ixor (X : px_X p s m args cd cc nL Ts own G D cl tys A ad n) {x y : Int32} (hd : decode cc pc = .ok (.ixor, 1)) (kk : px_J p l e R s m args below meth cd D cl A ad n nL cells slots Q c (pc + 1) L (.int (x ^^^ y) :: st)) : px_J p l e R s m args below meth cd D cl A ad n nL cells slots Q c pc L (.int y :: .int x :: st) := fun ls H locs h1 h2 h3 => lv_ixor X.1.1 X.1.2.1 hd (kk ls H locs h1 h2 h3)
theorem j_idiv (X : px_X p s m args cd cc nL Ts own G D cl tys A ad n) {x y : Int32} (hd : decode cc pc = .ok (.idiv, 1)) (hne : ¬ y = 0) (kk : px_J p l e R s m args below meth cd D cl A ad n nL cells slots Q c (pc + 1) L (.int (x / y) :: st)) : px_J p l e R s m args below meth cd D cl A ad n nL cells slots Q c pc L (.int y :: .int x :: st) := fun ls H locs h1 h2 h3 => lv_idiv X.1.1 X.1.2.1 hd hne (kk ls H locs h1 h2 h3)
theorem j_irem (X : px_X p s m args cd cc nL Ts own G D cl tys A ad n) {x y : Int32} (hd : decode cc pc = .ok (.irem, 1)) (hne : ¬ y = 0) (kk : px_J p l e R s m args below meth cd D cl A ad n nL cells slots Q c (pc + 1) L (.int (x - x / y * y) :: st)) : px_J p l e R s m args below meth cd D cl A ad n nL cells slots Q c pc L (.int y :: .int x :: st) := fun ls H locs h1 h2 h3 => lv_irem X.1.1 X.1.2.1 hd hne (kk ls H locs h1 h2 h3)
theorem j_ineg (X : px_X p s m args cd cc nL Ts own G D cl tys A ad n) {x : Int32} (hd : decode cc pc = .ok (.ineg, 1)) (kk : px_J p l e R s m args below meth cd D cl A ad n nL cells slots Q c (pc + 1) L (.int (-x) :: st)) : px_J p l e R s m args below meth cd D cl A ad n nL cells slots Q c pc L (.int x :: st) := fun ls H locs h1 h2 h3 => lv_ineg X.1.1 X.1.2.1 hd (kk ls H locs h1 h2 h3)
theorem j_ishl (X : px_X p s m args cd cc nL Ts own G D cl tys A ad n) {x y : Int32} (hd : decode cc pc = .ok (.ishl, 1)) (kk : px_J p l e R s m args below meth cd D cl A ad n nL cells slots Q c (pc + 1) L (.int (x <<< (y &&& 31)) :: st)) : px_J p l e R s m args below meth cd D cl A ad n nL cells slots Q c pc L (.int y :: .int x :: st) := fun ls H locs h1 h2 h3 => lv_ishl X.1.1 X.1.2.1 hd (kk ls H locs h1 h2 h3)
theorem j_ishr (X : px_X p s m args cd cc nL Ts own G D cl tys A ad n) {x y : Int32} (hd : decode cc pc = .ok (.ishr, 1)) (kk : px_J p l e R s m args below meth cd D cl A ad n nL cells slots Q c (pc + 1) L (.int (x >>> (y &&& 31)) :: st)) : px_J p l e R s m args below meth cd D cl A ad n nL cells slots Q c pc L (.int y :: .int x :: st) := fun ls H locs h1 h2 h3 => lv_ishr X.1.1 X.1.2.1 hd (kk ls H locs h1 h2 h3)
theorem j_iushr (X : px_X p s m args cd cc nL Ts own G D cl tys A ad n) {x y v : Int32} (hd : decode cc pc = .ok (.iushr, 1)) (hv : (x.toUInt32 >>> (y.toUInt32 &&& Int32.toUInt32 31)).toInt32 = v) (kk : px_J p l e R s m args below meth cd D cl A ad n nL cells slots Q c (pc + 1) L (.int v :: st)) : px_J p l e R s m args below meth cd D cl A ad n nL cells slots Q c pc L (.int y :: .int x :: st) := fun ls H locs h1 h2 h3 => lv_iushr X.1.1 X.1.2.1 hd hv (kk ls H locs h1 h2 h3)
theorem j_i2l (X : px_X p s m args cd cc nL Ts own G D cl tys A ad n) {x : Int32} {v : Int64} (hd : decode cc pc = .ok (.i2l, 1)) (hv : x.toInt64 = v) (kk : px_J p l e R s m args below meth cd D cl A ad n nL cells slots Q c (pc + 1) L (.long v :: st)) : px_J p l e R s m args below meth cd D cl A ad n nL cells slots Q c pc L (.int x :: st) := fun ls H locs h1 h2 h3 => lv_i2l X.1.1 X.1.2.1 hd hv (kk ls H locs h1 h2 h3)
theorem j_dup (X : px_X p s m args cd cc nL Ts own G D cl tys A ad n) {va : Value} (hd : decode cc pc = .ok (.dup, 1)) (ha : va.category = 1) (kk : px_J p l e R s m args below meth cd D cl A ad n nL cells slots Q c (pc + 1) L (va :: va :: st)) : px_J p l e R s m args below meth cd D cl A ad n nL cells slots Q c pc L (va :: st) := fun ls H locs h1 h2 h3 => lv_dup X.1.1 X.1.2.1 hd ha (kk ls H locs h1 h2 h3)
theorem j_pop (X : px_X p s m args cd cc nL Ts own G D cl tys A ad n) {va : Value} (hd : decode cc pc = .ok (.pop, 1)) (ha : va.category = 1) (kk : px_J p l e R s m args below meth cd D cl A ad n nL cells slots Q c (pc + 1) L (st)) : px_J p l e R s m args below meth cd D cl A ad n nL cells slots Q c pc L (va :: st) := fun ls H locs h1 h2 h3 => lv_pop X.1.1 X.1.2.1 hd ha (kk ls H locs h1 h2 h3)
theorem j_dup_x1 (X : px_X p s m args cd cc nL Ts own G D cl tys A ad n) {va vb : Value} (hd : decode cc pc = .ok (.dup_x1, 1)) (ha : va.category = 1) (hb : vb.category = 1) (kk : px_J p l e R s m args below meth cd D cl A ad n nL cells slots Q c (pc + 1) L (va :: vb :: va :: st)) : px_J p l e R s m args below meth cd D cl A ad n nL cells slots Q c pc L (va :: vb :: st) := fun ls H locs h1 h2 h3 => lv_dup_x1 X.1.1 X.1.2.1 hd ha hb (kk ls H locs h1 h2 h3)
theorem j_dup2_11 (X : px_X p s m args cd cc nL Ts own G D cl tys A ad n) {va vb : Value} (hd : decode cc pc = .ok (.dup2, 1)) (ha : va.category = 1) (hb : vb.category = 1) (kk : px_J p l e R s m args below meth cd D cl A ad n nL cells slots Q c (pc + 1) L (va :: vb :: va :: vb :: st)) : px_J p l e R s m args below meth cd D cl A ad n nL cells slots Q c pc L (va :: vb :: st) := fun ls H locs h1 h2 h3 => lv_dup2_11 X.1.1 X.1.2.1 hd ha hb (kk ls H locs h1 h2 h3)
theorem j_null (X : px_X p s m args cd cc nL Ts own G D cl tys A ad n)  (hd : decode cc pc = .ok (.aconst_null, 1)) (kk : px_J p l e R s m args below meth cd D cl A ad n nL cells slots Q c (pc + 1) L (.null :: st)) : px_J p l e R s m args below meth cd D cl A ad n nL cells slots Q c pc L (st) := fun ls H locs h1 h2 h3 => lv_null X.1.1 X.1.2.1 hd (kk ls H locs h1 h2 h3)
theorem j_iload_n (X : px_X p s m args cd cc nL Ts own G D cl tys A ad n) {k : Fin 4} (hd : decode cc pc = .ok (.iload_n k, 1)) (q : Nat) {x : Int32} (hL : L[q]? = some ((k : Nat), .int x)) (kk : px_J p l e R s m args below meth cd D cl A ad n nL cells slots Q c (pc + 1) L (.int x :: st)) : px_J p l e R s m args below meth cd D cl A ad n nL cells slots Q c pc L (st) := fun ls H locs h1 h2 h3 => lv_iload_n X.1.1 X.1.2.1 hd rfl (lv_at h1 q hL) (kk ls H locs h1 h2 h3)
theorem j_iload (X : px_X p s m args cd cc nL Ts own G D cl tys A ad n) {k : Nat} (hd : decode cc pc = .ok (.iload k, 2)) (q : Nat) {x : Int32} (hL : L[q]? = some (k, .int x)) (kk : px_J p l e R s m args below meth cd D cl A ad n nL cells slots Q c (pc + 2) L (.int x :: st)) : px_J p l e R s m args below meth cd D cl A ad n nL cells slots Q c pc L (st) := fun ls H locs h1 h2 h3 => lv_iload X.1.1 X.1.2.1 hd (lv_at h1 q hL) (kk ls H locs h1 h2 h3)
theorem j_istore_n (X : px_X p s m args cd cc nL Ts own G D cl tys A ad n) {k : Fin 4} {x : Int32} (hd : decode cc pc = .ok (.istore_n k, 1)) (L' : List (Nat × Value)) (hn : (k : Nat) < nL) (hl : ((k : Nat), Value.int x) :: L.filter (fun q => !(q.1 == (k : Nat)) && !(q.1 + 1 == (k : Nat) && q.2.category == 2)) = L') (kk : px_J p l e R s m args below meth cd D cl A ad n nL cells slots Q c (pc + 1) L' st) : px_J p l e R s m args below meth cd D cl A ad n nL cells slots Q c pc L (.int x :: st) := fun ls H locs h1 h2 h3 => lv_istore_n X.1.1 X.1.2.1 hd rfl h1 hn hl (fun ls' h' => kk ls' H locs h' h2 h3)
theorem j_istore (X : px_X p s m args cd cc nL Ts own G D cl tys A ad n) {k : Nat} {x : Int32} (hd : decode cc pc = .ok (.istore k, 2)) (L' : List (Nat × Value)) (hn : k < nL) (hl : (k, Value.int x) :: L.filter (fun q => !(q.1 == (k : Nat)) && !(q.1 + 1 == (k : Nat) && q.2.category == 2)) = L') (kk : px_J p l e R s m args below meth cd D cl A ad n nL cells slots Q c (pc + 2) L' st) : px_J p l e R s m args below meth cd D cl A ad n nL cells slots Q c pc L (.int x :: st) := fun ls H locs h1 h2 h3 => lv_istore X.1.1 X.1.2.1 hd h1 hn hl (fun ls' h' => kk ls' H locs h' h2 h3)
theorem j_aload_n (X : px_X p s m args cd cc nL Ts own G D cl tys A ad n) {k : Fin 4} (hd : decode cc pc = .ok (.aload_n k, 1)) (q : Nat) {x : Nat} (hL : L[q]? = some ((k : Nat), .ref x)) (kk : px_J p l e R s m args below meth cd D cl A ad n nL cells slots Q c (pc + 1) L (.ref x :: st)) : px_J p l e R s m args below meth cd D cl A ad n nL cells slots Q c pc L (st) := fun ls H locs h1 h2 h3 => lv_aload_n X.1.1 X.1.2.1 hd rfl (lv_at h1 q hL) (kk ls H locs h1 h2 h3)
theorem j_aload (X : px_X p s m args cd cc nL Ts own G D cl tys A ad n) {k : Nat} (hd : decode cc pc = .ok (.aload k, 2)) (q : Nat) {x : Nat} (hL : L[q]? = some (k, .ref x)) (kk : px_J p l e R s m args below meth cd D cl A ad n nL cells slots Q c (pc + 2) L (.ref x :: st)) : px_J p l e R s m args below meth cd D cl A ad n nL cells slots Q c pc L (st) := fun ls H locs h1 h2 h3 => lv_aload X.1.1 X.1.2.1 hd (lv_at h1 q hL) (kk ls H locs h1 h2 h3)
theorem j_astore_n (X : px_X p s m args cd cc nL Ts own G D cl tys A ad n) {k : Fin 4} {x : Nat} (hd : decode cc pc = .ok (.astore_n k, 1)) (L' : List (Nat × Value)) (hn : (k : Nat) < nL) (hl : ((k : Nat), Value.ref x) :: L.filter (fun q => !(q.1 == (k : Nat)) && !(q.1 + 1 == (k : Nat) && q.2.category == 2)) = L') (kk : px_J p l e R s m args below meth cd D cl A ad n nL cells slots Q c (pc + 1) L' st) : px_J p l e R s m args below meth cd D cl A ad n nL cells slots Q c pc L (.ref x :: st) := fun ls H locs h1 h2 h3 => lv_astore_n X.1.1 X.1.2.1 hd rfl h1 hn hl (fun ls' h' => kk ls' H locs h' h2 h3)
theorem j_astore (X : px_X p s m args cd cc nL Ts own G D cl tys A ad n) {k : Nat} {x : Nat} (hd : decode cc pc = .ok (.astore k, 2)) (L' : List (Nat × Value)) (hn : k < nL) (hl : (k, Value.ref x) :: L.filter (fun q => !(q.1 == (k : Nat)) && !(q.1 + 1 == (k : Nat) && q.2.category == 2)) = L') (kk : px_J p l e R s m args below meth cd D cl A ad n nL cells slots Q c (pc + 2) L' st) : px_J p l e R s m args below meth cd D cl A ad n nL cells slots Q c pc L (.ref x :: st) := fun ls H locs h1 h2 h3 => lv_astore X.1.1 X.1.2.1 hd h1 hn hl (fun ls' h' => kk ls' H locs h' h2 h3)
theorem j_iinc (X : px_X p s m args cd cc nL Ts own G D cl tys A ad n) {k : Nat} {a : Int} {x v : Int32} (hd : decode cc pc = .ok (.iinc k a, 3)) (q : Nat) (L' : List (Nat × Value)) (hL : L[q]? = some (k, .int x)) (hv : x + Int32.ofInt a = v) (hn : k < nL) (hl : (k, Value.int v) :: L.filter (fun q => !(q.1 == k) && !(q.1 + 1 == k && q.2.category == 2)) = L') (kk : px_J p l e R s m args below meth cd D cl A ad n nL cells slots Q c (pc + 3) L' st) : px_J p l e R s m args below meth cd D cl A ad n nL cells slots Q c pc L st := fun ls H locs h1 h2 h3 => lv_iinc X.1.1 X.1.2.1 hd h1 hL hv hn hl (fun ls' h' => kk ls' H locs h' h2 h3)
theorem j_if_eq (X : px_X p s m args cd cc nL Ts own G D cl tys A ad n) {x : Int32} {off : Int} {tgt : Nat} (hd : decode cc pc = .ok (.ifCond .eq off, 3)) (ht : (pc : Int) + off = (tgt : Int)) (kt : x = 0 → px_J p l e R s m args below meth cd D cl A ad n nL cells slots Q c tgt L st) (kf : ¬ x = 0 → px_J p l e R s m args below meth cd D cl A ad n nL cells slots Q c (pc + 3) L st) : px_J p l e R s m args below meth cd D cl A ad n nL cells slots Q c pc L (.int x :: st) := fun ls H locs h1 h2 h3 => lv_if_eq X.1.1 X.1.2.1 hd ht (fun g => kt g ls H locs h1 h2 h3) (fun g => kf g ls H locs h1 h2 h3)
theorem j_if_ne (X : px_X p s m args cd cc nL Ts own G D cl tys A ad n) {x : Int32} {off : Int} {tgt : Nat} (hd : decode cc pc = .ok (.ifCond .ne off, 3)) (ht : (pc : Int) + off = (tgt : Int)) (kt : ¬ x = 0 → px_J p l e R s m args below meth cd D cl A ad n nL cells slots Q c tgt L st) (kf : x = 0 → px_J p l e R s m args below meth cd D cl A ad n nL cells slots Q c (pc + 3) L st) : px_J p l e R s m args below meth cd D cl A ad n nL cells slots Q c pc L (.int x :: st) := fun ls H locs h1 h2 h3 => lv_if_ne X.1.1 X.1.2.1 hd ht (fun g => kt g ls H locs h1 h2 h3) (fun g => kf (by first | exact g | exact Classical.not_not.mp g) ls H locs h1 h2 h3)
theorem j_if_lt (X : px_X p s m args cd cc nL Ts own G D cl tys A ad n) {x : Int32} {off : Int} {tgt : Nat} (hd : decode cc pc = .ok (.ifCond .lt off, 3)) (ht : (pc : Int) + off = (tgt : Int)) (kt : x < 0 → px_J p l e R s m args below meth cd D cl A ad n nL cells slots Q c tgt L st) (kf : ¬ x < 0 → px_J p l e R s m args below meth cd D cl A ad n nL cells slots Q c (pc + 3) L st) : px_J p l e R s m args below meth cd D cl A ad n nL cells slots Q c pc L (.int x :: st) := fun ls H locs h1 h2 h3 => lv_if_lt X.1.1 X.1.2.1 hd ht (fun g => kt g ls H locs h1 h2 h3) (fun g => kf g ls H locs h1 h2 h3)
theorem j_if_ge (X : px_X p s m args cd cc nL Ts own G D cl tys A ad n) {x : Int32} {off : Int} {tgt : Nat} (hd : decode cc pc = .ok (.ifCond .ge off, 3)) (ht : (pc : Int) + off = (tgt : Int)) (kt : 0 ≤ x → px_J p l e R s m args below meth cd D cl A ad n nL cells slots Q c tgt L st) (kf : ¬ 0 ≤ x → px_J p l e R s m args below meth cd D cl A ad n nL cells slots Q c (pc + 3) L st) : px_J p l e R s m args below meth cd D cl A ad n nL cells slots Q c pc L (.int x :: st) := fun ls H locs h1 h2 h3 => lv_if_ge X.1.1 X.1.2.1 hd ht (fun g => kt g ls H locs h1 h2 h3) (fun g => kf g ls H locs h1 h2 h3)
theorem j_if_gt (X : px_X p s m args cd cc nL Ts own G D cl tys A ad n) {x : Int32} {off : Int} {tgt : Nat} (hd : decode cc pc = .ok (.ifCond .gt off, 3)) (ht : (pc : Int) + off = (tgt : Int)) (kt : 0 < x → px_J p l e R s m args below meth cd D cl A ad n nL cells slots Q c tgt L st) (kf : ¬ 0 < x → px_J p l e R s m args below meth cd D cl A ad n nL cells slots Q c (pc + 3) L st) : px_J p l e R s m args below meth cd D cl A ad n nL cells slots Q c pc L (.int x :: st) := fun ls H locs h1 h2 h3 => lv_if_gt X.1.1 X.1.2.1 hd ht (fun g => kt g ls H locs h1 h2 h3) (fun g => kf g ls H locs h1 h2 h3)
theorem j_if_le (X : px_X p s m args cd cc nL Ts own G D cl tys A ad n) {x : Int32} {off : Int} {tgt : Nat} (hd : decode cc pc = .ok (.ifCond .le off, 3)) (ht : (pc : Int) + off = (tgt : Int)) (kt : x ≤ 0 → px_J p l e R s m args below meth cd D cl A ad n nL cells slots Q c tgt L st) (kf : ¬ x ≤ 0 → px_J p l e R s m args below meth cd D cl A ad n nL cells slots Q c (pc + 3) L st) : px_J p l e R s m args below meth cd D cl A ad n nL cells slots Q c pc L (.int x :: st) := fun ls H locs h1 h2 h3 => lv_if_le X.1.1 X.1.2.1 hd ht (fun g => kt g ls H locs h1 h2 h3) (fun g => kf g ls H locs h1 h2 h3)
theorem j_icmp_eq (X : px_X p s m args cd cc nL Ts own G D cl tys A ad n) {x y : Int32} {off : Int} {tgt : Nat} (hd : decode cc pc = .ok (.if_icmp .eq off, 3)) (ht : (pc : Int) + off = (tgt : Int)) (kt : x = y → px_J p l e R s m args below meth cd D cl A ad n nL cells slots Q c tgt L st) (kf : ¬ x = y → px_J p l e R s m args below meth cd D cl A ad n nL cells slots Q c (pc + 3) L st) : px_J p l e R s m args below meth cd D cl A ad n nL cells slots Q c pc L (.int y :: .int x :: st) := fun ls H locs h1 h2 h3 => lv_icmp_eq X.1.1 X.1.2.1 hd ht (fun g => kt g ls H locs h1 h2 h3) (fun g => kf g ls H locs h1 h2 h3)
theorem j_icmp_ne (X : px_X p s m args cd cc nL Ts own G D cl tys A ad n) {x y : Int32} {off : Int} {tgt : Nat} (hd : decode cc pc = .ok (.if_icmp .ne off, 3)) (ht : (pc : Int) + off = (tgt : Int)) (kt : ¬ x = y → px_J p l e R s m args below meth cd D cl A ad n nL cells slots Q c tgt L st) (kf : x = y → px_J p l e R s m args below meth cd D cl A ad n nL cells slots Q c (pc + 3) L st) : px_J p l e R s m args below meth cd D cl A ad n nL cells slots Q c pc L (.int y :: .int x :: st) := fun ls H locs h1 h2 h3 => lv_icmp_ne X.1.1 X.1.2.1 hd ht (fun g => kt g ls H locs h1 h2 h3) (fun g => kf (by first | exact g | exact Classical.not_not.mp g) ls H locs h1 h2 h3)
theorem j_icmp_lt (X : px_X p s m args cd cc nL Ts own G D cl tys A ad n) {x y : Int32} {off : Int} {tgt : Nat} (hd : decode cc pc = .ok (.if_icmp .lt off, 3)) (ht : (pc : Int) + off = (tgt : Int)) (kt : x < y → px_J p l e R s m args below meth cd D cl A ad n nL cells slots Q c tgt L st) (kf : ¬ x < y → px_J p l e R s m args below meth cd D cl A ad n nL cells slots Q c (pc + 3) L st) : px_J p l e R s m args below meth cd D cl A ad n nL cells slots Q c pc L (.int y :: .int x :: st) := fun ls H locs h1 h2 h3 => lv_icmp_lt X.1.1 X.1.2.1 hd ht (fun g => kt g ls H locs h1 h2 h3) (fun g => kf g ls H locs h1 h2 h3)
theorem j_icmp_ge (X : px_X p s m args cd cc nL Ts own G D cl tys A ad n) {x y : Int32} {off : Int} {tgt : Nat} (hd : decode cc pc = .ok (.if_icmp .ge off, 3)) (ht : (pc : Int) + off = (tgt : Int)) (kt : y ≤ x → px_J p l e R s m args below meth cd D cl A ad n nL cells slots Q c tgt L st) (kf : ¬ y ≤ x → px_J p l e R s m args below meth cd D cl A ad n nL cells slots Q c (pc + 3) L st) : px_J p l e R s m args below meth cd D cl A ad n nL cells slots Q c pc L (.int y :: .int x :: st) := fun ls H locs h1 h2 h3 => lv_icmp_ge X.1.1 X.1.2.1 hd ht (fun g => kt g ls H locs h1 h2 h3) (fun g => kf g ls H locs h1 h2 h3)
theorem j_icmp_gt (X : px_X p s m args cd cc nL Ts own G D cl tys A ad n) {x y : Int32} {off : Int} {tgt : Nat} (hd : decode cc pc = .ok (.if_icmp .gt off, 3)) (ht : (pc : Int) + off = (tgt : Int)) (kt : y < x → px_J p l e R s m args below meth cd D cl A ad n nL cells slots Q c tgt L st) (kf : ¬ y < x → px_J p l e R s m args below meth cd D cl A ad n nL cells slots Q c (pc + 3) L st) : px_J p l e R s m args below meth cd D cl A ad n nL cells slots Q c pc L (.int y :: .int x :: st) := fun ls H locs h1 h2 h3 => lv_icmp_gt X.1.1 X.1.2.1 hd ht (fun g => kt g ls H locs h1 h2 h3) (fun g => kf g ls H locs h1 h2 h3)
theorem j_icmp_le (X : px_X p s m args cd cc nL Ts own G D cl tys A ad n) {x y : Int32} {off : Int} {tgt : Nat} (hd : decode cc pc = .ok (.if_icmp .le off, 3)) (ht : (pc : Int) + off = (tgt : Int)) (kt : x ≤ y → px_J p l e R s m args below meth cd D cl A ad n nL cells slots Q c tgt L st) (kf : ¬ x ≤ y → px_J p l e R s m args below meth cd D cl A ad n nL cells slots Q c (pc + 3) L st) : px_J p l e R s m args below meth cd D cl A ad n nL cells slots Q c pc L (.int y :: .int x :: st) := fun ls H locs h1 h2 h3 => lv_icmp_le X.1.1 X.1.2.1 hd ht (fun g => kt g ls H locs h1 h2 h3) (fun g => kf g ls H locs h1 h2 h3)
theorem j_goto (X : px_X p s m args cd cc nL Ts own G D cl tys A ad n) {off : Int} {tgt : Nat} (hd : decode cc pc = .ok (.goto off, 3)) (ht : (pc : Int) + off = (tgt : Int)) (kk : px_J p l e R s m args below meth cd D cl A ad n nL cells slots Q c tgt L st) : px_J p l e R s m args below meth cd D cl A ad n nL cells slots Q c pc L st := fun ls H locs h1 h2 h3 => lv_goto X.1.1 X.1.2.1 hd ht (kk ls H locs h1 h2 h3)
theorem j_tableOut (X : px_X p s m args cd cc nL Ts own G D cl tys A ad n) {dflt lo hi : Int} {offs : Array Int} {len : Nat} {x : Int32} {tgt : Nat} (hd : decode cc pc = .ok (.tableswitch dflt lo hi offs, len)) (h : x.toInt < lo ∨ hi < x.toInt) (ht : (pc : Int) + dflt = (tgt : Int)) (kk : px_J p l e R s m args below meth cd D cl A ad n nL cells slots Q c tgt L st) : px_J p l e R s m args below meth cd D cl A ad n nL cells slots Q c pc L (.int x :: st) := fun ls H locs h1 h2 h3 => lv_tableOut X.1.1 X.1.2.1 hd h ht (kk ls H locs h1 h2 h3)
theorem j_tableIn (X : px_X p s m args cd cc nL Ts own G D cl tys A ad n) {dflt lo hi : Int} {offs : Array Int} {len : Nat} {x : Int32} {off : Int} {tgt : Nat} (hd : decode cc pc = .ok (.tableswitch dflt lo hi offs, len)) (g1 : ¬ x.toInt < lo) (g2 : ¬ hi < x.toInt) (ho : offs[(x.toInt - lo).toNat]? = some off) (ht : (pc : Int) + off = (tgt : Int)) (kk : px_J p l e R s m args below meth cd D cl A ad n nL cells slots Q c tgt L st) : px_J p l e R s m args below meth cd D cl A ad n nL cells slots Q c pc L (.int x :: st) := fun ls H locs h1 h2 h3 => lv_tableIn X.1.1 X.1.2.1 hd g1 g2 ho ht (kk ls H locs h1 h2 h3)
theorem j_ldc (X : px_X p s m args cd cc nL Ts own G D cl tys A ad n) {index : Nat} {v : Int32} (hc : Cond.constant own index v ∈ Ts) (hd : decode cc pc = .ok (.ldc index, 2)) (kk : px_J p l e R s m args below meth cd D cl A ad n nL cells slots Q c (pc + 2) L (.int v :: st)) : px_J p l e R s m args below meth cd D cl A ad n nL cells slots Q c pc L st := fun ls H locs h1 h2 h3 => lv_ldc X.1.1 X.1.2.1 X.1.2.2.2.1 (X.1.2.2.2.2 _ hc) hd (kk ls H locs h1 h2 h3)
theorem j_topi {x : Int32} (kk : ∀ y : Int32, y = x → px_J p l e R s m args below meth cd D cl A ad n nL cells slots Q c pc L (.int y :: st)) : px_J p l e R s m args below meth cd D cl A ad n nL cells slots Q c pc L (.int x :: st) := kk x rfl
theorem j_w {c' : Nat → va_E} (h : c = c') (kk : px_J p l e R s m args below meth cd D cl A ad n nL cells slots Q c' pc L st) : px_J p l e R s m args below meth cd D cl A ad n nL cells slots Q c pc L st := h ▸ kk
theorem px_start {y : MethodName} {ret : Option FieldType} {rm : Room} {As : List Value} {res : Option Value} {c1 : Nat → va_E} (hG : px_Gk G) (hy : plainName y.cls = true) (hlen : (lg_sl As).length ≤ nL)
    (body : ∀ (p : Program) (e : Env) (s : State) (m : MethodId) (args : Array Value) (below : List Frame) (meth : Method) (cd : Code), px_X p s m args cd cc nL Ts y.cls G D cl tys (px_A ad n s.heap.size) ad n → meth.sig.returnType = ret → meth.locks = false →
      px_J p l e rm s m args below meth cd D cl (px_A ad n s.heap.size) ad n nL 0 0 (MQ below (px_Qc D cl ad n s.heap.size res c1) args s 0 0 (px_A ad n s.heap.size)) c 0 (lv_args 0 As) []) :
    px_M l y (Cond.code y cc nL ret :: Ts) rm G D cl tys As ad c n res c1 := by
  intro sz
  refine Met.ofW (cc := cc) (maxL := nL) (ret := ret) hy rfl ?_
  intro p e s m args below meth cd s₁ B hml hv
  obtain ⟨rfl, hsz, hP, hK, hI, hg⟩ := hv
  subst hsz
  have hts := atoms_spec (ws := Cond.code y cc nL ret :: Ts) B.pre
  have hl := lv_entry As (n := nL) hlen
  rw [lg_entry_eq]
  exact body p e s m _ below meth cd ⟨⟨B.exec, B.bytes, hml, findClass_of_methodNamed B.named, fun w h => hts w (List.mem_cons_of_mem _ h)⟩, hK, hI, fun i hi => Or.inl ⟨i, hi, rfl⟩, fun q hq => Or.inr hq, hG, hg⟩ B.returns B.notSynchronized _ _ [] hl hP va_S.rf
theorem j_iret (X : px_X p s m args cd cc nL Ts own G D cl tys A ad n) (hr : meth.sig.returnType = some .int) (hk : meth.locks = false) {v : Int32} {res : Option Value} {c1 : Nat → va_E} (hv : res = some (.int v)) (hc : c = c1) (hd : decode cc pc = .ok (.ireturn, 1)) :
    px_J p l e R s m args below meth cd D cl (px_A ad n s.heap.size) ad n nL 0 0 (MQ below (px_Qc D cl ad n s.heap.size res c1) args s 0 0 (px_A ad n s.heap.size)) c pc L [.int v] := by
  intro ls H locs h1 h2 h3
  subst hv; subst hc
  exact W.iret X.1.1 X.1.2.1 hr (fun t ht _ => ⟨rfl, by rw [ht]; exact h2, h3.F ht⟩) h3.2.2 hd hk
theorem j_zret (X : px_X p s m args cd cc nL Ts own G D cl tys A ad n) {ty : FieldType} (hr : meth.sig.returnType = some ty) (hk : meth.locks = false) {v : Int32} {res : Option Value} {c1 : Nat → va_E} (hn : narrow ty (.int v) = .int v) (hv : res = some (.int v)) (hc : c = c1) (hd : decode cc pc = .ok (.ireturn, 1)) :
    px_J p l e R s m args below meth cd D cl (px_A ad n s.heap.size) ad n nL 0 0 (MQ below (px_Qc D cl ad n s.heap.size res c1) args s 0 0 (px_A ad n s.heap.size)) c pc L [.int v] := by
  intro ls H locs h1 h2 h3
  subst hv; subst hc
  exact W.zret X.1.1 X.1.2.1 hr hn (fun t ht _ => ⟨rfl, by rw [ht]; exact h2, h3.F ht⟩) h3.2.2 hd hk
theorem j_vret (X : px_X p s m args cd cc nL Ts own G D cl tys A ad n) (hr : meth.sig.returnType = none) (hk : meth.locks = false) {res : Option Value} {c1 : Nat → va_E} (hv : res = none) (hc : c = c1) (hd : decode cc pc = .ok (.return_, 1)) :
    px_J p l e R s m args below meth cd D cl (px_A ad n s.heap.size) ad n nL 0 0 (MQ below (px_Qc D cl ad n s.heap.size res c1) args s 0 0 (px_A ad n s.heap.size)) c pc L [] := by
  intro ls H locs h1 h2 h3
  subst hv; subst hc
  exact W.vret X.1.1 X.1.2.1 hr (fun t ht _ => ⟨rfl, by rw [ht]; exact h2, h3.F ht⟩) h3.2.2 hd hk
theorem j_aret (X : px_X p s m args cd cc nL Ts own G D cl tys A ad n) {C : String} (hr : meth.sig.returnType = some (.object C)) (hk : meth.locks = false) {v : Nat} {res : Option Value} {c1 : Nat → va_E} (hv : res = some (.ref v)) (hc : c = c1) (hd : decode cc pc = .ok (.areturn, 1)) :
    px_J p l e R s m args below meth cd D cl (px_A ad n s.heap.size) ad n nL 0 0 (MQ below (px_Qc D cl ad n s.heap.size res c1) args s 0 0 (px_A ad n s.heap.size)) c pc L [.ref v] := by
  intro ls H locs h1 h2 h3
  subst hv; subst hc
  exact W.aret X.1.1 X.1.2.1 hr (Or.inl ⟨C, rfl⟩) (Or.inr ⟨v, rfl⟩) (fun t ht _ => ⟨rfl, by rw [ht]; exact h2, h3.F ht⟩) h3.2.2 hd hk
theorem px_AA (X : px_X p s m args cd cc nL Ts own G D cl tys A ad n) {H : Heap} {locs : List Loc} (h3 : va_S A s.heap H locs) : ∀ q, px_A ad n H.size q → A q := fun q h => by
  rcases h with ⟨i, hi, rfl⟩ | h
  · exact X.2.2.2.1 i hi
  · exact X.2.2.2.2.1 q (Nat.le_trans h3.1 h)
theorem j_run (X : px_X p s m args cd cc nL Ts own G D cl tys A ad n) {As0 : Array Value} {res : Option Value} {c1 : Nat → va_E} {st0 : List Value}
    (hr : ∀ (ls : Array Slot) (H : Heap) (locs : List Loc), lv_has ls nL L → va_P D cl (px_W ad c n) H → va_S A s.heap H locs → va_Run p l e R s m args below meth cd H locs cells slots 0 0 (F0 m pc ls st0) st (px_Qc D cl ad n H.size res c1 As0) (px_A ad n H.size))
    (kk : px_J p l e R s m args below meth cd D cl A ad n nL cells slots Q c1 (pc + 3) L (res.toList ++ st)) : px_J p l e R s m args below meth cd D cl A ad n nL cells slots Q c pc L st0 := by
  intro ls H locs h1 h2 h3 T hT Y
  obtain ⟨v, st₀, t, T', L', e0, Y', hL, e1, e2, ⟨hv, hP, hz, hk⟩, go⟩ := hr ls H locs h1 h2 h3 T hT Y
  cases hv
  rw [e0] at hz hk
  have hA := px_AA X h3
  obtain ⟨t2, a1, b1⟩ := kk ls T'.heap (locs ++ L') h1 (by rw [e1]; exact hP) ⟨Nat.le_trans h3.1 (by rw [e1]; exact hz), fun q g1 g2 => by rw [e1, hk q (Nat.lt_of_lt_of_le g1 h3.1) (fun z => g2 (hA q z))]; exact h3.2.1 q g1 g2, fun q hq => by
    rcases List.mem_append.mp hq with h | h
    · exact h3.2.2 q h
    · exact hA _ (hL q h)⟩ T' rfl Y'
  exact ⟨t2, go t2 a1, b1⟩
theorem px_pre (X : px_X p s m args cd cc nL Ts own G D cl tys A ad n) {H : Heap} {locs : List Loc} {As : List Value} (h2 : va_P D cl (px_W ad c n) H) (h3 : va_S A s.heap H locs) : ∀ U : State, U.heap = H → s.WarmedH U.vm → px_Pc G D cl tys As ad c n H.size As.toArray U := fun U hU hW =>
  ⟨rfl, by rw [hU], by rw [hU]; exact h2, va_K.moved hW.alike X.2.1, X.2.2.1, X.2.2.2.2.2.1.2 A _ s U H locs X.2.2.2.2.2.2 h3 (px_AA X h3) hW hU⟩
/-- words that every state with the same tables keeps -/
def px_Ok (Ts : List Cond) : Prop := ∀ w ∈ Ts, (w.onTables && w.keeps) = true ∨ ∃ ty, w = .arrayClass ty
/-- what a call needs of the tables, whoever calls -/
def px_Y (Ts : List Cond) (y : MethodName) (bytes : ByteArray) (maxL : Nat) (ret : Option FieldType) (na : Nat) : Prop :=
  px_Ok Ts ∧ Cond.code y bytes maxL ret ∈ Ts ∧ Cond.initialized y.cls ∈ Ts ∧ y.cls ≠ "java/lang/invoke/MethodHandle" ∧ y.cls ≠ "java/lang/invoke/VarHandle" ∧ (parseMethodDescriptor y.desc).map (fun d => d.parameters.length) = some na
theorem px_good {y : MethodName} {bytes : ByteArray} {maxL na : Nat} {ret : Option FieldType} (h : px_Y Ts y bytes maxL ret na) : GoodIn Ts (Cond.code y bytes maxL ret :: Ts) := by
  intro w hw
  have : w ∈ Ts := by
    rcases List.mem_cons.mp hw with rfl | h2
    · exact h.2.1
    · exact h2
  exact ⟨this, h.1 w this⟩
theorem px_CB {y : MethodName} {bytes : ByteArray} {maxL na index : Nat} {ret : Option FieldType} {rm : Room} (hts : ∀ w ∈ Ts, w.before args s = true) (h : px_Y Ts y bytes maxL ret na) (hl : Cond.methodLink own index y ∈ Ts) (hc : rm.cells = 0) (hs : rm.slots = 0) (hR : rm.frames + 1 ≤ R.frames ∧ 8 + (maxL + 11) + rm.locals ≤ R.locals) :
    CallB R s args own index y bytes maxL ret (Cond.code y bytes maxL ret :: Ts) rm 0 0 na :=
  callB_of na hts (px_good h) rfl hc hs (hts _ h.2.2.1) (hts _ hl) h.2.2.2 hR
theorem px_CN {y : MethodName} {bytes : ByteArray} {maxL na index : Nat} {ret : Option FieldType} {rm : Room} {host : String} (hts : ∀ w ∈ Ts, w.before args s = true) (h : px_Y Ts y bytes maxL ret na) (hl : va_Nw (.methodLinkNest own index y host) s) (hc : rm.cells = 0) (hs : rm.slots = 0) (hR : rm.frames + 1 ≤ R.frames ∧ 8 + (maxL + 11) + rm.locals ≤ R.locals) :
    va_CN R s args own index y host bytes maxL ret (Cond.code y bytes maxL ret :: Ts) rm 0 0 na :=
  va_cnB na hts (px_good h) rfl hc hs hl (hts _ h.2.2.1) h.2.2.2 hR
section PXC
variable {y : MethodName} {bytes : ByteArray} {maxL na index : Nat} {ret : Option FieldType} {rm : Room} {As : List Value} {res : Option Value} {c1 : Nat → va_E} {st0 : List Value}
/-- invokevirtual of a method of the receiver's own class -/
theorem j_callV (X : px_X p s m args cd cc nL Ts own G D cl tys A ad n) (i : Nat) (hi : i < n) (hY : px_Y Ts y bytes maxL ret na) (hM : px_M l y (Cond.code y bytes maxL ret :: Ts) rm G D cl tys (.ref (ad i) :: As) ad c n res c1) (hl : Cond.methodLink own index y ∈ Ts) (hin : Cond.instanceMethod y ∈ Ts) (hse : Cond.selects y.cls y y ∈ Ts)
    {ci : Nat} {fs : List Value} {T : u_T} {N : Nat} (he : c i = .inr (ci, fs)) (hc : cl[ci]? = some (y.cls, T, N)) (hn : As.length = na) (hst : st0 = As.reverse ++ .ref (ad i) :: st) (hW : (st.map fun v => v.category).sum ≤ 8) (hd : decode cc pc = .ok (.invokevirtual index, 3)) (hrc : rm.cells = 0) (hrs : rm.slots = 0) (hR : rm.frames + 1 ≤ R.frames ∧ 8 + (maxL + 11) + rm.locals ≤ R.locals) (hf : cells ≤ R.cells ∧ slots ≤ R.slots)
    (kk : px_J p l e R s m args below meth cd D cl A ad n nL cells slots Q c1 (pc + 3) L (res.toList ++ st)) : px_J p l e R s m args below meth cd D cl A ad n nL cells slots Q c pc L st0 :=
  j_run X (fun ls H locs h1 h2 h3 => va_runV (C := y.cls) X.1 (hM H.size) ⟨px_CB X.1.2.2.2.2 hY hl hrc hrs hR, X.1.2.2.2.2 _ hin, X.1.2.2.2.2 _ hse⟩ ⟨px_blind X.2.2.2.2.2.1, va_recv X.2.1 h2 hc (by rw [px_at hi, he]), px_pre X h2 h3⟩ rfl hn h1.1 hst (lv_room hW) hd hf) kk
/-- invokevirtual of a private method of the nest -/
theorem j_callVN {host : String} (X : px_X p s m args cd cc nL Ts own G D cl tys A ad n) (i : Nat) (hi : i < n) (hY : px_Y Ts y bytes maxL ret na) (hM : px_M l y (Cond.code y bytes maxL ret :: Ts) rm G D cl tys (.ref (ad i) :: As) ad c n res c1) (hl : va_Nw (.methodLinkNest own index y host) s) (hin : Cond.instanceMethod y ∈ Ts) (hse : Cond.selects y.cls y y ∈ Ts)
    {ci : Nat} {fs : List Value} {T : u_T} {N : Nat} (he : c i = .inr (ci, fs)) (hc : cl[ci]? = some (y.cls, T, N)) (hn : As.length = na) (hst : st0 = As.reverse ++ .ref (ad i) :: st) (hW : (st.map fun v => v.category).sum ≤ 8) (hd : decode cc pc = .ok (.invokevirtual index, 3)) (hrc : rm.cells = 0) (hrs : rm.slots = 0) (hR : rm.frames + 1 ≤ R.frames ∧ 8 + (maxL + 11) + rm.locals ≤ R.locals) (hf : cells ≤ R.cells ∧ slots ≤ R.slots)
    (kk : px_J p l e R s m args below meth cd D cl A ad n nL cells slots Q c1 (pc + 3) L (res.toList ++ st)) : px_J p l e R s m args below meth cd D cl A ad n nL cells slots Q c pc L st0 :=
  j_run X (fun ls H locs h1 h2 h3 => va_runVN (C := y.cls) X.1 (hM H.size) ⟨px_CN X.1.2.2.2.2 hY hl hrc hrs hR, X.1.2.2.2.2 _ hin, X.1.2.2.2.2 _ hse⟩ ⟨px_blind X.2.2.2.2.2.1, va_recv X.2.1 h2 hc (by rw [px_at hi, he]), px_pre X h2 h3⟩ rfl hn h1.1 hst (lv_room hW) hd hf) kk
/-- invokestatic -/
theorem j_callS (X : px_X p s m args cd cc nL Ts own G D cl tys A ad n) (hY : px_Y Ts y bytes maxL ret na) (hM : px_M l y (Cond.code y bytes maxL ret :: Ts) rm G D cl tys As ad c n res c1) (hl : Cond.methodLink own index y ∈ Ts) (hsy : Cond.static y ∈ Ts)
    (hn : As.length = na) (hst : st0 = As.reverse ++ st) (hW : (st.map fun v => v.category).sum ≤ 8) (hd : decode cc pc = .ok (.invokestatic index, 3)) (hrc : rm.cells = 0) (hrs : rm.slots = 0) (hR : rm.frames + 1 ≤ R.frames ∧ 8 + (maxL + 11) + rm.locals ≤ R.locals) (hf : cells ≤ R.cells ∧ slots ≤ R.slots)
    (kk : px_J p l e R s m args below meth cd D cl A ad n nL cells slots Q c1 (pc + 3) L (res.toList ++ st)) : px_J p l e R s m args below meth cd D cl A ad n nL cells slots Q c pc L st0 :=
  j_run X (fun ls H locs h1 h2 h3 => va_runS X.1 (hM H.size) ⟨px_CB X.1.2.2.2.2 hY hl hrc hrs hR, X.1.2.2.2.2 _ hsy⟩ ⟨px_blind X.2.2.2.2.2.1, px_pre X h2 h3⟩ rfl hn h1.1 hst (lv_room hW) hd hf) kk
theorem j_callSN {host : String} (X : px_X p s m args cd cc nL Ts own G D cl tys A ad n) (hY : px_Y Ts y bytes maxL ret na) (hM : px_M l y (Cond.code y bytes maxL ret :: Ts) rm G D cl tys As ad c n res c1) (hl : va_Nw (.methodLinkNest own index y host) s) (hsy : Cond.static y ∈ Ts)
    (hn : As.length = na) (hst : st0 = As.reverse ++ st) (hW : (st.map fun v => v.category).sum ≤ 8) (hd : decode cc pc = .ok (.invokestatic index, 3)) (hrc : rm.cells = 0) (hrs : rm.slots = 0) (hR : rm.frames + 1 ≤ R.frames ∧ 8 + (maxL + 11) + rm.locals ≤ R.locals) (hf : cells ≤ R.cells ∧ slots ≤ R.slots)
    (kk : px_J p l e R s m args below meth cd D cl A ad n nL cells slots Q c1 (pc + 3) L (res.toList ++ st)) : px_J p l e R s m args below meth cd D cl A ad n nL cells slots Q c pc L st0 :=
  j_run X (fun ls H locs h1 h2 h3 => va_runSN X.1 (hM H.size) ⟨px_CN X.1.2.2.2.2 hY hl hrc hrs hR, X.1.2.2.2.2 _ hsy, trivial⟩ ⟨px_blind X.2.2.2.2.2.1, px_pre X h2 h3⟩ rfl hn h1.1 hst (lv_room hW) hd hf) kk
def px_U (Ts : List Cond) (own : String) (index : Nat) (C owner : String) (x y : MethodName) (na : Nat) : Prop :=
  Cond.methodLink own index x ∈ Ts ∧ Cond.sameMethod x.cls owner x.name x.desc ∈ Ts ∧ Cond.selects C x y ∈ Ts ∧ Cond.instanceMethod y ∈ Ts ∧ y = ⟨owner, x.name, x.desc⟩ ∧ owner ≠ "java/lang/invoke/MethodHandle" ∧ owner ≠ "java/lang/invoke/VarHandle" ∧ (parseMethodDescriptor x.desc).map (fun d => d.parameters.length) = some na
theorem px_goodU {x : MethodName} {C owner : String} (h : px_Y Ts y bytes maxL ret na) (u : px_U Ts own index C owner x y na) : GoodIn Ts (va_wsU own index C owner x y (Cond.code y bytes maxL ret :: Ts)) := by
  intro w hw
  have : w ∈ Ts := by
    unfold va_wsU at hw
    rcases List.mem_append.mp hw with h2 | h2
    · simp only [List.mem_cons, List.not_mem_nil, or_false] at h2
      rcases h2 with rfl | rfl | rfl | rfl | rfl
      · exact u.1
      · exact u.2.1
      · exact u.2.2.1
      · exact u.2.2.2.1
      · exact h.2.2.1
    · exact (px_good h w h2).1
  exact ⟨this, h.1 w this⟩
/-- invokevirtual of a method that the receiver's class inherits -/
theorem j_callU {x : MethodName} {C owner : String} (X : px_X p s m args cd cc nL Ts own G D cl tys A ad n) (i : Nat) (hi : i < n) (hY : px_Y Ts y bytes maxL ret na) (hM : px_M l y (Cond.code y bytes maxL ret :: Ts) rm G D cl tys (.ref (ad i) :: As) ad c n res c1) (hU : px_U Ts own index C owner x y na)
    {ci : Nat} {fs : List Value} {T : u_T} {N : Nat} (he : c i = .inr (ci, fs)) (hc : cl[ci]? = some (C, T, N)) (hn : As.length = na) (hst : st0 = As.reverse ++ .ref (ad i) :: st) (hW : (st.map fun v => v.category).sum ≤ 8) (hd : decode cc pc = .ok (.invokevirtual index, 3)) (hrc : rm.cells = 0) (hrs : rm.slots = 0) (hR : rm.frames + 1 ≤ R.frames ∧ 8 + (maxL + 11) + rm.locals ≤ R.locals) (hf : cells ≤ R.cells ∧ slots ≤ R.slots)
    (kk : px_J p l e R s m args below meth cd D cl A ad n nL cells slots Q c1 (pc + 3) L (res.toList ++ st)) : px_J p l e R s m args below meth cd D cl A ad n nL cells slots Q c pc L st0 :=
  j_run X (fun ls H locs h1 h2 h3 => va_runU (C := C) X.1 (hM H.size) (va_cwU na X.1.2.2.2.2 (px_goodU hY hU) rfl hrc hrs hU.2.2.2.2.1 hU.2.2.2.2.2 hR) ⟨px_blind X.2.2.2.2.2.1, va_recv X.2.1 h2 hc (by rw [px_at hi, he]), px_pre X h2 h3⟩ rfl hn h1.1 hst (lv_room hW) hd hf) kk
end PXC
end PXR
end
section
/-! methods that read no cell and write none (px_P), and walks in which nothing has been written yet (px_Z) -/
def px_Z (p : Program) (l : Launch) (e : Env) (R : Room) (s : State) (m : MethodId) (args : Array Value) (below : List Frame) (meth : Method) (cd : Code) (nL : Nat) (Q : State → Prop) (pc : Nat) (L : List (Nat × Value)) (st : List Value) : Prop :=
  ∀ (ls : Array Slot), lv_has ls nL L → W p l e R s m args below meth cd s.heap [] 0 0 Q (F0 m pc ls st)
def px_Qp (res : Option Value) : Array Value → State → Outcome → State → Prop := fun _ st o t => o = .returned res ∧ t.heap = st.heap
def px_P (l : Launch) (y : MethodName) (ws : List Cond) (rm : Room) (As : List Value) (res : Option Value) : Prop :=
  Met l y ws rm (fun a _ => a = As.toArray) (px_Qp res) 0 0 (fun _ => False)
section PZR
variable {p : Program} {l : Launch} {e : Env} {R : Room} {s : State} {m : MethodId} {args : Array Value} {below : List Frame} {meth : Method} {cd : Code} {Q : State → Prop} {cells slots : Nat}
variable {cc : ByteArray} {Ts : List Cond} {own : String} {G : (Nat → Prop) → State → Prop} {D : va_G} {cl : List vw_C} {A : Nat → Prop} {tys : List (ClassId × FieldType)} {ad : Nat → Nat} {n nL : Nat} {c : Nat → va_E} {pc : Nat} {L : List (Nat × Value)} {st : List Value}
theorem z_iconst (X : CallFix p m cd cc nL s args Ts own) {k : Int} {v : Int32} (hd : decode cc pc = .ok (.iconst k, 1)) (hv : Int32.ofInt k = v) (kk : px_Z p l e R s m args below meth cd nL Q (pc + 1) L (.int v :: st)) : px_Z p l e R s m args below meth cd nL Q pc L (st) := fun ls h1 => lv_iconst X.1 X.2.1 hd hv (kk ls h1)
theorem z_bipush (X : CallFix p m cd cc nL s args Ts own) {k : Int} {v : Int32} (hd : decode cc pc = .ok (.bipush k, 2)) (hv : (Int8.ofInt k).toInt32 = v) (kk : px_Z p l e R s m args below meth cd nL Q (pc + 2) L (.int v :: st)) : px_Z p l e R s m args below meth cd nL Q pc L (st) := fun ls h1 => lv_bipush X.1 X.2.1 hd hv (kk ls h1)
theorem z_sipush (X : CallFix p m cd cc nL s args Ts own) {k : Int} {v : Int32} (hd : decode cc pc = .ok (.sipush k, 3)) (hv : (Int16.ofInt k).toInt32 = v) (kk : px_Z p l e R s m args below meth cd nL Q (pc + 3) L (.int v :: st)) : px_Z p l e R s m args below meth cd nL Q pc L (st) := fun ls h1 => lv_sipush X.1 X.2.1 hd hv (kk ls h1)
theorem z_iadd (X : CallFix p m cd cc nL s args Ts own) {x y : Int32} (hd : decode cc pc = .ok (.iadd, 1)) (kk : px_Z p l e R s m args below meth cd nL Q (pc + 1) L (.int (x + y) :: st)) : px_Z p l e R s m args below meth cd nL Q pc L (.int y :: .int x :: st) := fun ls h1 => lv_iadd X.1 X.2.1 hd (kk ls h1)
theorem z_isub (X : CallFix p m cd cc nL s args Ts own) {x y : Int32} (hd : decode cc pc = .ok (.isub, 1)) (kk : px_Z p l e R s m args below meth cd nL Q (pc + 1) L (.int (x - y) :: st)) : px_Z p l e R s m args below meth cd nL Q pc L (.int y :: .int x :: st) := fun ls h1 => lv_isub X.1 X.2.1 hd (kk ls h1)
theorem z_imul (X : CallFix p m cd cc nL s args Ts own) {x y : Int32} (hd : decode cc pc = .ok (.imul, 1)) (kk : px_Z p l e R s m args below meth cd nL Q (pc + 1) L (.int (x * y) :: st)) : px_Z p l e R s m args below meth cd nL Q pc L (.int y :: .int x :: st) := fun ls h1 => lv_imul X.1 X.2.1 hd (kk ls h1)
theorem z_iand (X : CallFix p m cd cc nL s args Ts own) {x y : Int32} (hd : decode cc pc = .ok (.iand, 1)) (kk : px_Z p l e R s m args below meth cd nL Q (pc + 1) L (.int (x &&& y) :: st)) : px_Z p l e R s m args below meth cd nL Q pc L (.int y :: .int x :: st) := fun ls h1 => lv_iand X.1 X.2.1 hd (kk ls h1)
theorem z_ior (X : CallFix p m cd cc nL s args Ts own) {x y : Int32} (hd : decode cc pc = .ok (.ior, 1)) (kk : px_Z p l e R s m args below meth cd nL Q (pc + 1) L (.int (x ||| y) :: st)) : px_Z p l e R s m args below meth cd nL Q pc L (.int y :: .int x :: st) := fun ls h1 => lv_ior X.1 X.2.1 hd (kk ls h1)
theorem z_ixor (X : CallFix p m cd cc nL s args Ts own) {x y : Int32} (hd : decode cc pc = .ok (.ixor, 1)) (kk : px_Z p l e R s m args below meth cd nL Q (pc + 1) L (.int (x ^^^ y) :: st)) : px_Z p l e R s m args below meth cd nL Q pc L (.int y :: .int x :: st) := fun ls h1 => lv_ixor X.1 X.2.1 hd (kk ls h1)
theorem z_idiv (X : CallFix p m cd cc nL s args Ts own) {x y : Int32} (hd : decode cc pc = .ok (.idiv, 1)) (hne : ¬ y = 0) (kk : px_Z p l e R s m args below meth cd nL Q (pc + 1) L (.int (x / y) :: st)) : px_Z p l e R s m args below meth cd nL Q pc L (.int y :: .int x :: st) := fun ls h1 => lv_idiv X.1 X.2.1 hd hne (kk ls h1)
theorem z_irem (X : CallFix p m cd cc nL s args Ts own) {x y : Int32} (hd : decode cc pc = .ok (.irem, 1)) (hne : ¬ y = 0) (kk : px_Z p l e R s m args below meth cd nL Q (pc + 1) L (.int (x - x / y * y) :: st)) : px_Z p l e R s m args below meth cd nL Q pc L (.int y :: .int x :: st) := fun ls h1 => lv_irem X.1 X.2.1 hd hne (kk ls h1)
theorem z_ineg (X : CallFix p m cd cc nL s args Ts own) {x : Int32} (hd : decode cc pc = .ok (.ineg, 1)) (kk : px_Z p l e R s m args below meth cd nL Q (pc + 1) L (.int (-x) :: st)) : px_Z p l e R s m args below meth cd nL Q pc L (.int x :: st) := fun ls h1 => lv_ineg X.1 X.2.1 hd (kk ls h1)
theorem z_ishl (X : CallFix p m cd cc nL s args Ts own) {x y : Int32} (hd : decode cc pc = .ok (.ishl, 1)) (kk : px_Z p l e R s m args below meth cd nL Q (pc + 1) L (.int (x <<< (y &&& 31)) :: st)) : px_Z p l e R s m args below meth cd nL Q pc L (.int y :: .int x :: st) := fun ls h1 => lv_ishl X.1 X.2.1 hd (kk ls h1)
theorem z_ishr (X : CallFix p m cd cc nL s args Ts own) {x y : Int32} (hd : decode cc pc = .ok (.ishr, 1)) (kk : px_Z p l e R s m args below meth cd nL Q (pc + 1) L (.int (x >>> (y &&& 31)) :: st)) : px_Z p l e R s m args below meth cd nL Q pc L (.int y :: .int x :: st) := fun ls h1 => lv_ishr X.1 X.2.1 hd (kk ls h1)
theorem z_iushr (X : CallFix p m cd cc nL s args Ts own) {x y v : Int32} (hd : decode cc pc = .ok (.iushr, 1)) (hv : (x.toUInt32 >>> (y.toUInt32 &&& Int32.toUInt32 31)).toInt32 = v) (kk : px_Z p l e R s m args below meth cd nL Q (pc + 1) L (.int v :: st)) : px_Z p l e R s m args below meth cd nL Q pc L (.int y :: .int x :: st) := fun ls h1 => lv_iushr X.1 X.2.1 hd hv (kk ls h1)
theorem z_i2l (X : CallFix p m cd cc nL s args Ts own) {x : Int32} {v : Int64} (hd : decode cc pc = .ok (.i2l, 1)) (hv : x.toInt64 = v) (kk : px_Z p l e R s m args below meth cd nL Q (pc + 1) L (.long v :: st)) : px_Z p l e R s m args below meth cd nL Q pc L (.int x :: st) := fun ls h1 => lv_i2l X.1 X.2.1 hd hv (kk ls h1)
theorem z_dup (X : CallFix p m cd cc nL s args Ts own) {va : Value} (hd : decode cc pc = .ok (.dup, 1)) (ha : va.category = 1) (kk : px_Z p l e R s m args below meth cd nL Q (pc + 1) L (va :: va :: st)) : px_Z p l e R s m args below meth cd nL Q pc L (va :: st) := fun ls h1 => lv_dup X.1 X.2.1 hd ha (kk ls h1)
theorem z_pop (X : CallFix p m cd cc nL s args Ts own) {va : Value} (hd : decode cc pc = .ok (.pop, 1)) (ha : va.category = 1) (kk : px_Z p l e R s m args below meth cd nL Q (pc + 1) L (st)) : px_Z p l e R s m args below meth cd nL Q pc L (va :: st) := fun ls h1 => lv_pop X.1 X.2.1 hd ha (kk ls h1)
theorem z_dup_x1 (X : CallFix p m cd cc nL s args Ts own) {va vb : Value} (hd : decode cc pc = .ok (.dup_x1, 1)) (ha : va.category = 1) (hb : vb.category = 1) (kk : px_Z p l e R s m args below meth cd nL Q (pc + 1) L (va :: vb :: va :: st)) : px_Z p l e R s m args below meth cd nL Q pc L (va :: vb :: st) := fun ls h1 => lv_dup_x1 X.1 X.2.1 hd ha hb (kk ls h1)
theorem z_dup2_11 (X : CallFix p m cd cc nL s args Ts own) {va vb : Value} (hd : decode cc pc = .ok (.dup2, 1)) (ha : va.category = 1) (hb : vb.category = 1) (kk : px_Z p l e R s m args below meth cd nL Q (pc + 1) L (va :: vb :: va :: vb :: st)) : px_Z p l e R s m args below meth cd nL Q pc L (va :: vb :: st) := fun ls h1 => lv_dup2_11 X.1 X.2.1 hd ha hb (kk ls h1)
theorem z_null (X : CallFix p m cd cc nL s args Ts own)  (hd : decode cc pc = .ok (.aconst_null, 1)) (kk : px_Z p l e R s m args below meth cd nL Q (pc + 1) L (.null :: st)) : px_Z p l e R s m args below meth cd nL Q pc L (st) := fun ls h1 => lv_null X.1 X.2.1 hd (kk ls h1)
theorem z_iload_n (X : CallFix p m cd cc nL s args Ts own) {k : Fin 4} (hd : decode cc pc = .ok (.iload_n k, 1)) (q : Nat) {x : Int32} (hL : L[q]? = some ((k : Nat), .int x)) (kk : px_Z p l e R s m args below meth cd nL Q (pc + 1) L (.int x :: st)) : px_Z p l e R s m args below meth cd nL Q pc L (st) := fun ls h1 => lv_iload_n X.1 X.2.1 hd rfl (lv_at h1 q hL) (kk ls h1)
theorem z_iload (X : CallFix p m cd cc nL s args Ts own) {k : Nat} (hd : decode cc pc = .ok (.iload k, 2)) (q : Nat) {x : Int32} (hL : L[q]? = some (k, .int x)) (kk : px_Z p l e R s m args below meth cd nL Q (pc + 2) L (.int x :: st)) : px_Z p l e R s m args below meth cd nL Q pc L (st) := fun ls h1 => lv_iload X.1 X.2.1 hd (lv_at h1 q hL) (kk ls h1)
theorem z_istore_n (X : CallFix p m cd cc nL s args Ts own) {k : Fin 4} {x : Int32} (hd : decode cc pc = .ok (.istore_n k, 1)) (L' : List (Nat × Value)) (hn : (k : Nat) < nL) (hl : ((k : Nat), Value.int x) :: L.filter (fun q => !(q.1 == (k : Nat)) && !(q.1 + 1 == (k : Nat) && q.2.category == 2)) = L') (kk : px_Z p l e R s m args below meth cd nL Q (pc + 1) L' st) : px_Z p l e R s m args below meth cd nL Q pc L (.int x :: st) := fun ls h1 => lv_istore_n X.1 X.2.1 hd rfl h1 hn hl (fun ls' h' => kk ls' h')
theorem z_istore (X : CallFix p m cd cc nL s args Ts own) {k : Nat} {x : Int32} (hd : decode cc pc = .ok (.istore k, 2)) (L' : List (Nat × Value)) (hn : k < nL) (hl : (k, Value.int x) :: L.filter (fun q => !(q.1 == (k : Nat)) && !(q.1 + 1 == (k : Nat) && q.2.category == 2)) = L') (kk : px_Z p l e R s m args below meth cd nL Q (pc + 2) L' st) : px_Z p l e R s m args below meth cd nL Q pc L (.int x :: st) := fun ls h1 => lv_istore X.1 X.2.1 hd h1 hn hl (fun ls' h' => kk ls' h')
theorem z_aload_n (X : CallFix p m cd cc nL s args Ts own) {k : Fin 4} (hd : decode cc pc = .ok (.aload_n k, 1)) (q : Nat) {x : Nat} (hL : L[q]? = some ((k : Nat), .ref x)) (kk : px_Z p l e R s m args below meth cd nL Q (pc + 1) L (.ref x :: st)) : px_Z p l e R s m args below meth cd nL Q pc L (st) := fun ls h1 => lv_aload_n X.1 X.2.1 hd rfl (lv_at h1 q hL) (kk ls h1)
theorem z_aload (X : CallFix p m cd cc nL s args Ts own) {k : Nat} (hd : decode cc pc = .ok (.aload k, 2)) (q : Nat) {x : Nat} (hL : L[q]? = some (k, .ref x)) (kk : px_Z p l e R s m args below meth cd nL Q (pc + 2) L (.ref x :: st)) : px_Z p l e R s m args below meth cd nL Q pc L (st) := fun ls h1 => lv_aload X.1 X.2.1 hd (lv_at h1 q hL) (kk ls h1)
theorem z_astore_n (X : CallFix p m cd cc nL s args Ts own) {k : Fin 4} {x : Nat} (hd : decode cc pc = .ok (.astore_n k, 1)) (L' : List (Nat × Value)) (hn : (k : Nat) < nL) (hl : ((k : Nat), Value.ref x) :: L.filter (fun q => !(q.1 == (k : Nat)) && !(q.1 + 1 == (k : Nat) && q.2.category == 2)) = L') (kk : px_Z p l e R s m args below meth cd nL Q (pc + 1) L' st) : px_Z p l e R s m args below meth cd nL Q pc L (.ref x :: st) := fun ls h1 => lv_astore_n X.1 X.2.1 hd rfl h1 hn hl (fun ls' h' => kk ls' h')
theorem z_astore (X : CallFix p m cd cc nL s args Ts own) {k : Nat} {x : Nat} (hd : decode cc pc = .ok (.astore k, 2)) (L' : List (Nat × Value)) (hn : k < nL) (hl : (k, Value.ref x) :: L.filter (fun q => !(q.1 == (k : Nat)) && !(q.1 + 1 == (k : Nat) && q.2.category == 2)) = L') (kk : px_Z p l e R s m args below meth cd nL Q (pc + 2) L' st) : px_Z p l e R s m args below meth cd nL Q pc L (.ref x :: st) := fun ls h1 => lv_astore X.1 X.2.1 hd h1 hn hl (fun ls' h' => kk ls' h')
theorem z_iinc (X : CallFix p m cd cc nL s args Ts own) {k : Nat} {a : Int} {x v : Int32} (hd : decode cc pc = .ok (.iinc k a, 3)) (q : Nat) (L' : List (Nat × Value)) (hL : L[q]? = some (k, .int x)) (hv : x + Int32.ofInt a = v) (hn : k < nL) (hl : (k, Value.int v) :: L.filter (fun q => !(q.1 == k) && !(q.1 + 1 == k && q.2.category == 2)) = L') (kk : px_Z p l e R s m args below meth cd nL Q (pc + 3) L' st) : px_Z p l e R s m args below meth cd nL Q pc L st := fun ls h1 => lv_iinc X.1 X.2.1 hd h1 hL hv hn hl (fun ls' h' => kk ls' h')
theorem z_if_eq (X : CallFix p m cd cc nL s args Ts own) {x : Int32} {off : Int} {tgt : Nat} (hd : decode cc pc = .ok (.ifCond .eq off, 3)) (ht : (pc : Int) + off = (tgt : Int)) (kt : x = 0 → px_Z p l e R s m args below meth cd nL Q tgt L st) (kf : ¬ x = 0 → px_Z p l e R s m args below meth cd nL Q (pc + 3) L st) : px_Z p l e R s m args below meth cd nL Q pc L (.int x :: st) := fun ls h1 => lv_if_eq X.1 X.2.1 hd ht (fun g => kt g ls h1) (fun g => kf g ls h1)
theorem z_if_ne (X : CallFix p m cd cc nL s args Ts own) {x : Int32} {off : Int} {tgt : Nat} (hd : decode cc pc = .ok (.ifCond .ne off, 3)) (ht : (pc : Int) + off = (tgt : Int)) (kt : ¬ x = 0 → px_Z p l e R s m args below meth cd nL Q tgt L st) (kf : x = 0 → px_Z p l e R s m args below meth cd nL Q (pc + 3) L st) : px_Z p l e R s m args below meth cd nL Q pc L (.int x :: st) := fun ls h1 => lv_if_ne X.1 X.2.1 hd ht (fun g => kt g ls h1) (fun g => kf (by first | exact g | exact Classical.not_not.mp g) ls h1)
theorem z_if_lt (X : CallFix p m cd cc nL s args Ts own) {x : Int32} {off : Int} {tgt : Nat} (hd : decode cc pc = .ok (.ifCond .lt off, 3)) (ht : (pc : Int) + off = (tgt : Int)) (kt : x < 0 → px_Z p l e R s m args below meth cd nL Q tgt L st) (kf : ¬ x < 0 → px_Z p l e R s m args below meth cd nL Q (pc + 3) L st) : px_Z p l e R s m args below meth cd nL Q pc L (.int x :: st) := fun ls h1 => lv_if_lt X.1 X.2.1 hd ht (fun g => kt g ls h1) (fun g => kf g ls h1)
theorem z_if_ge (X : CallFix p m cd cc nL s args Ts own) {x : Int32} {off : Int} {tgt : Nat} (hd : decode cc pc = .ok (.ifCond .ge off, 3)) (ht : (pc : Int) + off = (tgt : Int)) (kt : 0 ≤ x → px_Z p l e R s m args below meth cd nL Q tgt L st) (kf : ¬ 0 ≤ x → px_Z p l e R s m args below meth cd nL Q (pc + 3) L st) : px_Z p l e R s m args below meth cd nL Q pc L (.int x :: st) := fun ls h1 => lv_if_ge X.1 X.2.1 hd ht (fun g => kt g ls h1) (fun g => kf g ls h1)
theorem z_if_gt (X : CallFix p m cd cc nL s args Ts own) {x : Int32} {off : Int} {tgt : Nat} (hd : decode cc pc = .ok (.ifCond .gt off, 3)) (ht : (pc : Int) + off = (tgt : Int)) (kt : 0 < x → px_Z p l e R s m args below meth cd nL Q tgt L st) (kf : ¬ 0 < x → px_Z p l e R s m args below meth cd nL Q (pc + 3) L st) : px_Z p l e R s m args below meth cd nL Q pc L (.int x :: st) := fun ls h1 => lv_if_gt X.1 X.2.1 hd ht (fun g => kt g ls h1) (fun g => kf g ls h1)
theorem z_if_le (X : CallFix p m cd cc nL s args Ts own) {x : Int32} {off : Int} {tgt : Nat} (hd : decode cc pc = .ok (.ifCond .le off, 3)) (ht : (pc : Int) + off = (tgt : Int)) (kt : x ≤ 0 → px_Z p l e R s m args below meth cd nL Q tgt L st) (kf : ¬ x ≤ 0 → px_Z p l e R s m args below meth cd nL Q (pc + 3) L st) : px_Z p l e R s m args below meth cd nL Q pc L (.int x :: st) := fun ls h1 => lv_if_le X.1 X.2.1 hd ht (fun g => kt g ls h1) (fun g => kf g ls h1)
theorem z_icmp_eq (X : CallFix p m cd cc nL s args Ts own) {x y : Int32} {off : Int} {tgt : Nat} (hd : decode cc pc = .ok (.if_icmp .eq off, 3)) (ht : (pc : Int) + off = (tgt : Int)) (kt : x = y → px_Z p l e R s m args below meth cd nL Q tgt L st) (kf : ¬ x = y → px_Z p l e R s m args below meth cd nL Q (pc + 3) L st) : px_Z p l e R s m args below meth cd nL Q pc L (.int y :: .int x :: st) := fun ls h1 => lv_icmp_eq X.1 X.2.1 hd ht (fun g => kt g ls h1) (fun g => kf g ls h1)
theorem z_icmp_ne (X : CallFix p m cd cc nL s args Ts own) {x y : Int32} {off : Int} {tgt : Nat} (hd : decode cc pc = .ok (.if_icmp .ne off, 3)) (ht : (pc : Int) + off = (tgt : Int)) (kt : ¬ x = y → px_Z p l e R s m args below meth cd nL Q tgt L st) (kf : x = y → px_Z p l e R s m args below meth cd nL Q (pc + 3) L st) : px_Z p l e R s m args below meth cd nL Q pc L (.int y :: .int x :: st) := fun ls h1 => lv_icmp_ne X.1 X.2.1 hd ht (fun g => kt g ls h1) (fun g => kf (by first | exact g | exact Classical.not_not.mp g) ls h1)
theorem z_icmp_lt (X : CallFix p m cd cc nL s args Ts own) {x y : Int32} {off : Int} {tgt : Nat} (hd : decode cc pc = .ok (.if_icmp .lt off, 3)) (ht : (pc : Int) + off = (tgt : Int)) (kt : x < y → px_Z p l e R s m args below meth cd nL Q tgt L st) (kf : ¬ x < y → px_Z p l e R s m args below meth cd nL Q (pc + 3) L st) : px_Z p l e R s m args below meth cd nL Q pc L (.int y :: .int x :: st) := fun ls h1 => lv_icmp_lt X.1 X.2.1 hd ht (fun g => kt g ls h1) (fun g => kf g ls h1)
theorem z_icmp_ge (X : CallFix p m cd cc nL s args Ts own) {x y : Int32} {off : Int} {tgt : Nat} (hd : decode cc pc = .ok (.if_icmp .ge off, 3)) (ht : (pc : Int) + off = (tgt : Int)) (kt : y ≤ x → px_Z p l e R s m args below meth cd nL Q tgt L st) (kf : ¬ y ≤ x → px_Z p l e R s m args below meth cd nL Q (pc + 3) L st) : px_Z p l e R s m args below meth cd nL Q pc L (.int y :: .int x :: st) := fun ls h1 => lv_icmp_ge X.1 X.2.1 hd ht (fun g => kt g ls h1) (fun g => kf g ls h1)
theorem z_icmp_gt (X : CallFix p m cd cc nL s args Ts own) {x y : Int32} {off : Int} {tgt : Nat} (hd : decode cc pc = .ok (.if_icmp .gt off, 3)) (ht : (pc : Int) + off = (tgt : Int)) (kt : y < x → px_Z p l e R s m args below meth cd nL Q tgt L st) (kf : ¬ y < x → px_Z p l e R s m args below meth cd nL Q (pc + 3) L st) : px_Z p l e R s m args below meth cd nL Q pc L (.int y :: .int x :: st) := fun ls h1 => lv_icmp_gt X.1 X.2.1 hd ht (fun g => kt g ls h1) (fun g => kf g ls h1)
theorem z_icmp_le (X : CallFix p m cd cc nL s args Ts own) {x y : Int32} {off : Int} {tgt : Nat} (hd : decode cc pc = .ok (.if_icmp .le off, 3)) (ht : (pc : Int) + off = (tgt : Int)) (kt : x ≤ y → px_Z p l e R s m args below meth cd nL Q tgt L st) (kf : ¬ x ≤ y → px_Z p l e R s m args below meth cd nL Q (pc + 3) L st) : px_Z p l e R s m args below meth cd nL Q pc L (.int y :: .int x :: st) := fun ls h1 => lv_icmp_le X.1 X.2.1 hd ht (fun g => kt g ls h1) (fun g => kf g ls h1)
theorem z_goto (X : CallFix p m cd cc nL s args Ts own) {off : Int} {tgt : Nat} (hd : decode cc pc = .ok (.goto off, 3)) (ht : (pc : Int) + off = (tgt : Int)) (kk : px_Z p l e R s m args below meth cd nL Q tgt L st) : px_Z p l e R s m args below meth cd nL Q pc L st := fun ls h1 => lv_goto X.1 X.2.1 hd ht (kk ls h1)
theorem z_tableOut (X : CallFix p m cd cc nL s args Ts own) {dflt lo hi : Int} {offs : Array Int} {len : Nat} {x : Int32} {tgt : Nat} (hd : decode cc pc = .ok (.tableswitch dflt lo hi offs, len)) (h : x.toInt < lo ∨ hi < x.toInt) (ht : (pc : Int) + dflt = (tgt : Int)) (kk : px_Z p l e R s m args below meth cd nL Q tgt L st) : px_Z p l e R s m args below meth cd nL Q pc L (.int x :: st) := fun ls h1 => lv_tableOut X.1 X.2.1 hd h ht (kk ls h1)
theorem z_tableIn (X : CallFix p m cd cc nL s args Ts own) {dflt lo hi : Int} {offs : Array Int} {len : Nat} {x : Int32} {off : Int} {tgt : Nat} (hd : decode cc pc = .ok (.tableswitch dflt lo hi offs, len)) (g1 : ¬ x.toInt < lo) (g2 : ¬ hi < x.toInt) (ho : offs[(x.toInt - lo).toNat]? = some off) (ht : (pc : Int) + off = (tgt : Int)) (kk : px_Z p l e R s m args below meth cd nL Q tgt L st) : px_Z p l e R s m args below meth cd nL Q pc L (.int x :: st) := fun ls h1 => lv_tableIn X.1 X.2.1 hd g1 g2 ho ht (kk ls h1)
theorem z_ldc (X : CallFix p m cd cc nL s args Ts own) {index : Nat} {v : Int32} (hc : Cond.constant own index v ∈ Ts) (hd : decode cc pc = .ok (.ldc index, 2)) (kk : px_Z p l e R s m args below meth cd nL Q (pc + 2) L (.int v :: st)) : px_Z p l e R s m args below meth cd nL Q pc L st := fun ls h1 => lv_ldc X.1 X.2.1 X.2.2.2.1 (X.2.2.2.2 _ hc) hd (kk ls h1)
theorem z_topi {x : Int32} (kk : ∀ y : Int32, y = x → px_Z p l e R s m args below meth cd nL Q pc L (.int y :: st)) : px_Z p l e R s m args below meth cd nL Q pc L (.int x :: st) := kk x rfl
theorem px_startP {y : MethodName} {ret : Option FieldType} {rm : Room} {As : List Value} {res : Option Value} (hy : plainName y.cls = true) (hlen : (lg_sl As).length ≤ nL)
    (body : ∀ (p : Program) (e : Env) (s : State) (m : MethodId) (args : Array Value) (below : List Frame) (meth : Method) (cd : Code), CallFix p m cd cc nL s args Ts y.cls → meth.sig.returnType = ret → meth.locks = false →
      px_Z p l e rm s m args below meth cd nL (MQ below (px_Qp res) args s 0 0 (fun _ => False)) 0 (lv_args 0 As) []) :
    px_P l y (Cond.code y cc nL ret :: Ts) rm As res := by
  refine Met.ofW (cc := cc) (maxL := nL) (ret := ret) hy rfl ?_
  intro p e s m args below meth cd s₁ B hml hv
  cases hv
  have hts := atoms_spec (ws := Cond.code y cc nL ret :: Ts) B.pre
  have hl := lv_entry As (n := nL) hlen
  rw [lg_entry_eq]
  exact body p e s m _ below meth cd ⟨B.exec, B.bytes, hml, findClass_of_methodNamed B.named, fun w h => hts w (List.mem_cons_of_mem _ h)⟩ B.returns B.notSynchronized _ hl
theorem z_iret (X : CallFix p m cd cc nL s args Ts own) (hr : meth.sig.returnType = some .int) (hk : meth.locks = false) {v : Int32} {res : Option Value} (hv : res = some (.int v)) (hd : decode cc pc = .ok (.ireturn, 1)) :
    px_Z p l e R s m args below meth cd nL (MQ below (px_Qp res) args s 0 0 (fun _ => False)) pc L [.int v] := by
  intro ls h1
  subst hv
  exact W.iret X.1 X.2.1 hr (fun t ht _ => ⟨rfl, ht⟩) (fun q h => by cases h) hd hk
theorem z_zret (X : CallFix p m cd cc nL s args Ts own) {ty : FieldType} (hr : meth.sig.returnType = some ty) (hk : meth.locks = false) {v : Int32} {res : Option Value} (hn : narrow ty (.int v) = .int v) (hv : res = some (.int v)) (hd : decode cc pc = .ok (.ireturn, 1)) :
    px_Z p l e R s m args below meth cd nL (MQ below (px_Qp res) args s 0 0 (fun _ => False)) pc L [.int v] := by
  intro ls h1
  subst hv
  exact W.zret X.1 X.2.1 hr hn (fun t ht _ => ⟨rfl, ht⟩) (fun q h => by cases h) hd hk
theorem px_none {L : List Loc} (h : ∀ q ∈ L, (fun _ : Addr => False) q.base) : L = [] := by
  cases L with
  | nil => rfl
  | cons a t => exact (h a List.mem_cons_self).elim
section PZC
variable {y : MethodName} {bytes : ByteArray} {maxL na index : Nat} {ret : Option FieldType} {rm : Room} {As : List Value} {res : Option Value} {st0 : List Value}
theorem px_runP {H : Heap} {locs : List Loc} {g : JFrame} {st : List Value} {aa : Array Value} (hr : va_Run p l e R s m args below meth cd H locs cells slots 0 0 g st (px_Qp res aa) (fun _ => False)) (kk : W p l e R s m args below meth cd H locs cells slots Q { g with pc := g.pc + 3, stack := res.toList ++ st }) : W p l e R s m args below meth cd H locs cells slots Q g := by
  intro T hT Y
  obtain ⟨v, st₀, t, T', L', e0, Y', hL, e1, e2, ⟨hv, hh⟩, go⟩ := hr T hT Y
  cases hv
  cases px_none hL
  rw [List.append_nil] at Y'
  obtain ⟨t2, a1, b1⟩ := kk T' (by rw [e1, hh, e0]) Y'
  exact ⟨t2, go t2 a1, b1⟩
theorem px_callP (X : CallFix p m cd cc nL s args Ts own) (hY : px_Y Ts y bytes maxL ret na) (hM : px_P l y (Cond.code y bytes maxL ret :: Ts) rm As res) (hl : Cond.methodLink own index y ∈ Ts) (hsy : Cond.static y ∈ Ts) {H : Heap} {locs : List Loc} {ls : Array Slot} (h1 : ls.size = nL)
    (hn : As.length = na) (hst : st0 = As.reverse ++ st) (hW : (st.map fun v => v.category).sum ≤ 8) (hd : decode cc pc = .ok (.invokestatic index, 3)) (hrc : rm.cells = 0) (hrs : rm.slots = 0) (hR : rm.frames + 1 ≤ R.frames ∧ 8 + (maxL + 11) + rm.locals ≤ R.locals) (hf : cells ≤ R.cells ∧ slots ≤ R.slots) :
    va_Run p l e R s m args below meth cd H locs cells slots 0 0 (F0 m pc ls st0) st (px_Qp res As.toArray) (fun _ => False) :=
  va_runS X hM ⟨px_CB X.2.2.2.2 hY hl hrc hrs hR, X.2.2.2.2 _ hsy⟩ ⟨fun _ _ _ _ q => q, fun _ _ _ => rfl⟩ rfl hn h1 hst (lv_room hW) hd hf
theorem px_callPN {host : String} (X : CallFix p m cd cc nL s args Ts own) (hY : px_Y Ts y bytes maxL ret na) (hM : px_P l y (Cond.code y bytes maxL ret :: Ts) rm As res) (hl : va_Nw (.methodLinkNest own index y host) s) (hsy : Cond.static y ∈ Ts) {H : Heap} {locs : List Loc} {ls : Array Slot} (h1 : ls.size = nL)
    (hn : As.length = na) (hst : st0 = As.reverse ++ st) (hW : (st.map fun v => v.category).sum ≤ 8) (hd : decode cc pc = .ok (.invokestatic index, 3)) (hrc : rm.cells = 0) (hrs : rm.slots = 0) (hR : rm.frames + 1 ≤ R.frames ∧ 8 + (maxL + 11) + rm.locals ≤ R.locals) (hf : cells ≤ R.cells ∧ slots ≤ R.slots) :
    va_Run p l e R s m args below meth cd H locs cells slots 0 0 (F0 m pc ls st0) st (px_Qp res As.toArray) (fun _ => False) :=
  va_runSN X hM ⟨px_CN X.2.2.2.2 hY hl hrc hrs hR, X.2.2.2.2 _ hsy, trivial⟩ ⟨fun _ _ _ _ q => q, fun _ _ _ => rfl⟩ rfl hn h1 hst (lv_room hW) hd hf
theorem j_callP (X : px_X p s m args cd cc nL Ts own G D cl tys A ad n) (hY : px_Y Ts y bytes maxL ret na) (hM : px_P l y (Cond.code y bytes maxL ret :: Ts) rm As res) (hl : Cond.methodLink own index y ∈ Ts) (hsy : Cond.static y ∈ Ts)
    (hn : As.length = na) (hst : st0 = As.reverse ++ st) (hW : (st.map fun v => v.category).sum ≤ 8) (hd : decode cc pc = .ok (.invokestatic index, 3)) (hrc : rm.cells = 0) (hrs : rm.slots = 0) (hR : rm.frames + 1 ≤ R.frames ∧ 8 + (maxL + 11) + rm.locals ≤ R.locals) (hf : cells ≤ R.cells ∧ slots ≤ R.slots)
    (kk : px_J p l e R s m args below meth cd D cl A ad n nL cells slots Q c (pc + 3) L (res.toList ++ st)) : px_J p l e R s m args below meth cd D cl A ad n nL cells slots Q c pc L st0 :=
  fun ls H locs h1 h2 h3 => px_runP (px_callP X.1 hY hM hl hsy h1.1 hn hst hW hd hrc hrs hR hf) (kk ls H locs h1 h2 h3)
theorem j_callPN {host : String} (X : px_X p s m args cd cc nL Ts own G D cl tys A ad n) (hY : px_Y Ts y bytes maxL ret na) (hM : px_P l y (Cond.code y bytes maxL ret :: Ts) rm As res) (hl : va_Nw (.methodLinkNest own index y host) s) (hsy : Cond.static y ∈ Ts)
    (hn : As.length = na) (hst : st0 = As.reverse ++ st) (hW : (st.map fun v => v.category).sum ≤ 8) (hd : decode cc pc = .ok (.invokestatic index, 3)) (hrc : rm.cells = 0) (hrs : rm.slots = 0) (hR : rm.frames + 1 ≤ R.frames ∧ 8 + (maxL + 11) + rm.locals ≤ R.locals) (hf : cells ≤ R.cells ∧ slots ≤ R.slots)
    (kk : px_J p l e R s m args below meth cd D cl A ad n nL cells slots Q c (pc + 3) L (res.toList ++ st)) : px_J p l e R s m args below meth cd D cl A ad n nL cells slots Q c pc L st0 :=
  fun ls H locs h1 h2 h3 => px_runP (px_callPN X.1 hY hM hl hsy h1.1 hn hst hW hd hrc hrs hR hf) (kk ls H locs h1 h2 h3)
theorem z_callP (X : CallFix p m cd cc nL s args Ts own) (hY : px_Y Ts y bytes maxL ret na) (hM : px_P l y (Cond.code y bytes maxL ret :: Ts) rm As res) (hl : Cond.methodLink own index y ∈ Ts) (hsy : Cond.static y ∈ Ts)
    (hn : As.length = na) (hst : st0 = As.reverse ++ st) (hW : (st.map fun v => v.category).sum ≤ 8) (hd : decode cc pc = .ok (.invokestatic index, 3)) (hrc : rm.cells = 0) (hrs : rm.slots = 0) (hR : rm.frames + 1 ≤ R.frames ∧ 8 + (maxL + 11) + rm.locals ≤ R.locals)
    (kk : px_Z p l e R s m args below meth cd nL Q (pc + 3) L (res.toList ++ st)) : px_Z p l e R s m args below meth cd nL Q pc L st0 :=
  fun ls h1 => px_runP (px_callP X hY hM hl hsy h1.1 hn hst hW hd hrc hrs hR ⟨Nat.zero_le _, Nat.zero_le _⟩) (kk ls h1)
end PZC
end PZR
end
section
/-! names: field tables, classes, methods; the words of the tables that stay, by their places -/
def WS : List Cond := lw_tbl.filter goodWord
theorem WS_mem {w : Cond} (i : Nat) (h : lw_tbl[i]? = some w) (hg : goodWord w = true) : w ∈ WS := List.mem_filter.mpr ⟨List.mem_of_getElem? h, hg⟩
theorem WS_ok : px_Ok WS := fun w h => good_of_word (List.mem_filter.mp h).2
theorem WS_hts {args : Array Value} {s : State} (h : ∀ w ∈ lw_tbl, w.before args s = true) : ∀ w ∈ WS, w.before args s = true := fun w hw => h w (List.mem_filter.mp hw).1
def T_Cp : u_T := fun k => match k with
  | 0 => ("ReplayMachine$Checkpoints", "kept", "[LReplayMachine$State;", true)
  | 1 => ("ReplayMachine$Checkpoints", "size", "I", false)
  | _ => ("ReplayMachine$Checkpoints", "every", "I", false)
def t_Cp : Nat → FieldType := fun k => match k with
  | 0 => .array (.object "ReplayMachine$State")
  | 1 => .int
  | _ => .int
theorem nm_Cp : ∀ a, a < 3 → ∀ b, b < 3 → a ≠ b → (T_Cp a).2.1 ≠ (T_Cp b).2.1 := by decide +kernel
theorem ty_Cp : ∀ k, k < 3 → parseFieldDescriptor (T_Cp k).2.2.1 = some (t_Cp k) := by decide +kernel
def T_Ma : u_T := fun k => match k with
  | 0 => ("ReplayMachine$Machine", "code", "[I", true)
  | 1 => ("ReplayMachine$Machine", "inputs", "[I", true)
  | 2 => ("ReplayMachine$Machine", "now", "LReplayMachine$State;", true)
  | 3 => ("ReplayMachine$Machine", "undo", "LReplayMachine$Undo;", true)
  | 4 => ("ReplayMachine$Machine", "inputCount", "I", false)
  | _ => ("ReplayMachine$Machine", "note", "LReplayMachine$Note;", false)
def t_Ma : Nat → FieldType := fun k => match k with
  | 0 => .array .int
  | 1 => .array .int
  | 2 => .object "ReplayMachine$State"
  | 3 => .object "ReplayMachine$Undo"
  | 4 => .int
  | _ => .object "ReplayMachine$Note"
theorem nm_Ma : ∀ a, a < 6 → ∀ b, b < 6 → a ≠ b → (T_Ma a).2.1 ≠ (T_Ma b).2.1 := by decide +kernel
theorem ty_Ma : ∀ k, k < 6 → parseFieldDescriptor (T_Ma k).2.2.1 = some (t_Ma k) := by decide +kernel
def T_Nt : u_T := fun k => match k with
  | 0 => ("ReplayMachine$Registers", "time", "I", false)
  | 1 => ("ReplayMachine$Registers", "pc", "I", false)
  | 2 => ("ReplayMachine$Registers", "frame", "I", false)
  | 3 => ("ReplayMachine$Registers", "x", "I", false)
  | 4 => ("ReplayMachine$Registers", "taken", "I", false)
  | 5 => ("ReplayMachine$Registers", "height", "I", false)
  | 6 => ("ReplayMachine$Registers", "changed", "I", false)
  | 7 => ("ReplayMachine$Note", "places", "[I", true)
  | 8 => ("ReplayMachine$Note", "words", "[I", true)
  | _ => ("ReplayMachine$Note", "size", "I", false)
def t_Nt : Nat → FieldType := fun k => match k with
  | 0 => .int
  | 1 => .int
  | 2 => .int
  | 3 => .int
  | 4 => .int
  | 5 => .int
  | 6 => .int
  | 7 => .array .int
  | 8 => .array .int
  | _ => .int
theorem nm_Nt : ∀ a, a < 10 → ∀ b, b < 10 → a ≠ b → (T_Nt a).2.1 ≠ (T_Nt b).2.1 := by decide +kernel
theorem ty_Nt : ∀ k, k < 10 → parseFieldDescriptor (T_Nt k).2.2.1 = some (t_Nt k) := by decide +kernel
def T_St : u_T := fun k => match k with
  | 0 => ("ReplayMachine$Registers", "time", "I", false)
  | 1 => ("ReplayMachine$Registers", "pc", "I", false)
  | 2 => ("ReplayMachine$Registers", "frame", "I", false)
  | 3 => ("ReplayMachine$Registers", "x", "I", false)
  | 4 => ("ReplayMachine$Registers", "taken", "I", false)
  | 5 => ("ReplayMachine$Registers", "height", "I", false)
  | 6 => ("ReplayMachine$Registers", "changed", "I", false)
  | _ => ("ReplayMachine$State", "memory", "[I", true)
def t_St : Nat → FieldType := fun k => match k with
  | 0 => .int
  | 1 => .int
  | 2 => .int
  | 3 => .int
  | 4 => .int
  | 5 => .int
  | 6 => .int
  | _ => .array .int
theorem nm_St : ∀ a, a < 8 → ∀ b, b < 8 → a ≠ b → (T_St a).2.1 ≠ (T_St b).2.1 := by decide +kernel
theorem ty_St : ∀ k, k < 8 → parseFieldDescriptor (T_St k).2.2.1 = some (t_St k) := by decide +kernel
def T_Un : u_T := fun k => match k with
  | 0 => ("ReplayMachine$Undo", "notes", "[LReplayMachine$Note;", true)
  | 1 => ("ReplayMachine$Undo", "newest", "I", false)
  | _ => ("ReplayMachine$Undo", "size", "I", false)
def t_Un : Nat → FieldType := fun k => match k with
  | 0 => .array (.object "ReplayMachine$Note")
  | 1 => .int
  | _ => .int
theorem nm_Un : ∀ a, a < 3 → ∀ b, b < 3 → a ≠ b → (T_Un a).2.1 ≠ (T_Un b).2.1 := by decide +kernel
theorem ty_Un : ∀ k, k < 3 → parseFieldDescriptor (T_Un k).2.2.1 = some (t_Un k) := by decide +kernel
def T_RM : u_T := fun k => match k with
  | 0 => ("ReplayMachine", "machine", "LReplayMachine$Machine;", true)
  | 1 => ("ReplayMachine", "checkpoints", "LReplayMachine$Checkpoints;", true)
  | 2 => ("ReplayMachine", "breaks", "[Z", true)
  | 3 => ("ReplayMachine", "watches", "[Z", true)
  | 4 => ("ReplayMachine", "greatest", "I", false)
  | _ => ("ReplayMachine", "cost", "I", false)
def t_RM : Nat → FieldType := fun k => match k with
  | 0 => .object "ReplayMachine$Machine"
  | 1 => .object "ReplayMachine$Checkpoints"
  | 2 => .array .boolean
  | 3 => .array .boolean
  | 4 => .int
  | _ => .int
theorem nm_RM : ∀ a, a < 6 → ∀ b, b < 6 → a ≠ b → (T_RM a).2.1 ≠ (T_RM b).2.1 := by decide +kernel
theorem ty_RM : ∀ k, k < 6 → parseFieldDescriptor (T_RM k).2.2.1 = some (t_RM k) := by decide +kernel
def T_Mo : u_T := fun k => match k with
  | 0 => ("ReplayMachineModel", "program", "[I", true)
  | 1 => ("ReplayMachineModel", "inputs", "[I", true)
  | 2 => ("ReplayMachineModel", "breaks", "[Z", true)
  | 3 => ("ReplayMachineModel", "watches", "[Z", true)
  | 4 => ("ReplayMachineModel", "cells", "[I", true)
  | 5 => ("ReplayMachineModel", "stack", "[I", true)
  | 6 => ("ReplayMachineModel", "were", "[I", true)
  | 7 => ("ReplayMachineModel", "markWords", "[I", true)
  | 8 => ("ReplayMachineModel", "markOthers", "[I", true)
  | 9 => ("ReplayMachineModel", "keptAt", "[I", true)
  | 10 => ("ReplayMachineModel", "code", "I", false)
  | 11 => ("ReplayMachineModel", "given", "I", false)
  | 12 => ("ReplayMachineModel", "time", "I", false)
  | 13 => ("ReplayMachineModel", "pc", "I", false)
  | 14 => ("ReplayMachineModel", "frame", "I", false)
  | 15 => ("ReplayMachineModel", "x", "I", false)
  | 16 => ("ReplayMachineModel", "taken", "I", false)
  | 17 => ("ReplayMachineModel", "height", "I", false)
  | 18 => ("ReplayMachineModel", "reached", "I", false)
  | 19 => ("ReplayMachineModel", "undo", "I", false)
  | 20 => ("ReplayMachineModel", "cost", "I", false)
  | 21 => ("ReplayMachineModel", "every", "I", false)
  | _ => ("ReplayMachineModel", "kept", "I", false)
def t_Mo : Nat → FieldType := fun k => match k with
  | 0 => .array .int
  | 1 => .array .int
  | 2 => .array .boolean
  | 3 => .array .boolean
  | 4 => .array .int
  | 5 => .array .int
  | 6 => .array .int
  | 7 => .array .int
  | 8 => .array .int
  | 9 => .array .int
  | 10 => .int
  | 11 => .int
  | 12 => .int
  | 13 => .int
  | 14 => .int
  | 15 => .int
  | 16 => .int
  | 17 => .int
  | 18 => .int
  | 19 => .int
  | 20 => .int
  | 21 => .int
  | _ => .int
theorem nm_Mo : ∀ a, a < 23 → ∀ b, b < 23 → a ≠ b → (T_Mo a).2.1 ≠ (T_Mo b).2.1 := by decide +kernel
theorem ty_Mo : ∀ k, k < 23 → parseFieldDescriptor (T_Mo k).2.2.1 = some (t_Mo k) := by decide +kernel
abbrev CLS : List vw_C := [("ReplayMachine$Checkpoints", T_Cp, 3), ("ReplayMachine$Machine", T_Ma, 6), ("ReplayMachine$Note", T_Nt, 10), ("ReplayMachine$State", T_St, 8), ("ReplayMachine$Undo", T_Un, 3), ("ReplayMachine", T_RM, 6), ("ReplayMachineModel", T_Mo, 23)]
abbrev b_RM_init : ByteArray := prog_1_method_1_code
def y_RM_init : MethodName := ⟨"ReplayMachine", "<init>", "(I)V"⟩
abbrev b_Ma_init : ByteArray := prog_3_method_1_code
def y_Ma_init : MethodName := ⟨"ReplayMachine$Machine", "<init>", "(I)V"⟩
abbrev b_St_init : ByteArray := prog_6_method_1_code
def y_St_init : MethodName := ⟨"ReplayMachine$State", "<init>", "(I)V"⟩
abbrev b_Rg_init : ByteArray := prog_5_method_1_code
def y_Rg_init : MethodName := ⟨"ReplayMachine$Registers", "<init>", "()V"⟩
abbrev b_Un_init : ByteArray := prog_7_method_1_code
def y_Un_init : MethodName := ⟨"ReplayMachine$Undo", "<init>", "()V"⟩
abbrev b_Nt_init : ByteArray := prog_4_method_1_code
def y_Nt_init : MethodName := ⟨"ReplayMachine$Note", "<init>", "()V"⟩
abbrev b_Cp_init : ByteArray := prog_2_method_1_code
def y_Cp_init : MethodName := ⟨"ReplayMachine$Checkpoints", "<init>", "(I)V"⟩
abbrev b_RM_input : ByteArray := prog_1_method_3_code
def y_RM_input : MethodName := ⟨"ReplayMachine", "input", "(I)I"⟩
abbrev b_Ma_addInput : ByteArray := prog_3_method_2_code
def y_Ma_addInput : MethodName := ⟨"ReplayMachine$Machine", "addInput", "(I)I"⟩
abbrev b_RM_step : ByteArray := prog_1_method_4_code
def y_RM_step : MethodName := ⟨"ReplayMachine", "step", "()I"⟩
abbrev b_RM_advance : ByteArray := prog_1_method_19_code
def y_RM_advance : MethodName := ⟨"ReplayMachine", "advance", "()I"⟩
abbrev b_Ma_obstacle : ByteArray := prog_3_method_3_code
def y_Ma_obstacle : MethodName := ⟨"ReplayMachine$Machine", "obstacle", "()I"⟩
abbrev b_RM_within : ByteArray := prog_1_method_16_code
def y_RM_within : MethodName := ⟨"ReplayMachine", "within", "(II)Z"⟩
abbrev b_Ma_hasTooFew : ByteArray := prog_3_method_4_code
def y_Ma_hasTooFew : MethodName := ⟨"ReplayMachine$Machine", "hasTooFew", "(II)Z"⟩
abbrev b_Ma_argumentPlace : ByteArray := prog_3_method_5_code
def y_Ma_argumentPlace : MethodName := ⟨"ReplayMachine$Machine", "argumentPlace", "(I)I"⟩
abbrev b_Ma_fromTop : ByteArray := prog_3_method_6_code
def y_Ma_fromTop : MethodName := ⟨"ReplayMachine$Machine", "fromTop", "(I)I"⟩
abbrev b_St_number : ByteArray := prog_6_method_3_code
def y_St_number : MethodName := ⟨"ReplayMachine$State", "number", "(I)I"⟩
abbrev b_Ma_perform : ByteArray := prog_3_method_7_code
def y_Ma_perform : MethodName := ⟨"ReplayMachine$Machine", "perform", "()V"⟩
abbrev b_Un_begin : ByteArray := prog_7_method_2_code
def y_Un_begin : MethodName := ⟨"ReplayMachine$Undo", "begin", "(LReplayMachine$State;)LReplayMachine$Note;"⟩
abbrev b_Nt_begin : ByteArray := prog_4_method_2_code
def y_Nt_begin : MethodName := ⟨"ReplayMachine$Note", "begin", "(LReplayMachine$State;)V"⟩
abbrev b_Rg_copyRegisters : ByteArray := prog_5_method_2_code
def y_Rg_copyRegisters : MethodName := ⟨"ReplayMachine$Registers", "copyRegisters", "(LReplayMachine$Registers;)V"⟩
abbrev b_Ma_push : ByteArray := prog_3_method_9_code
def y_Ma_push : MethodName := ⟨"ReplayMachine$Machine", "push", "(I)V"⟩
abbrev b_Ma_put : ByteArray := prog_3_method_8_code
def y_Ma_put : MethodName := ⟨"ReplayMachine$Machine", "put", "(II)V"⟩
abbrev b_Nt_keepWord : ByteArray := prog_4_method_3_code
def y_Nt_keepWord : MethodName := ⟨"ReplayMachine$Note", "keepWord", "(II)V"⟩
abbrev b_Ma_exchange : ByteArray := prog_3_method_11_code
def y_Ma_exchange : MethodName := ⟨"ReplayMachine$Machine", "exchange", "()V"⟩
abbrev b_Ma_result : ByteArray := prog_3_method_12_code
def y_Ma_result : MethodName := ⟨"ReplayMachine$Machine", "result", "(III)I"⟩
abbrev b_Ma_replaceTwo : ByteArray := prog_3_method_10_code
def y_Ma_replaceTwo : MethodName := ⟨"ReplayMachine$Machine", "replaceTwo", "(I)V"⟩
abbrev b_Ma_load : ByteArray := prog_3_method_13_code
def y_Ma_load : MethodName := ⟨"ReplayMachine$Machine", "load", "()V"⟩
abbrev b_Ma_store : ByteArray := prog_3_method_14_code
def y_Ma_store : MethodName := ⟨"ReplayMachine$Machine", "store", "()V"⟩
abbrev b_Ma_jumpIf : ByteArray := prog_3_method_15_code
def y_Ma_jumpIf : MethodName := ⟨"ReplayMachine$Machine", "jumpIf", "(ZI)V"⟩
abbrev b_Ma_enter : ByteArray := prog_3_method_16_code
def y_Ma_enter : MethodName := ⟨"ReplayMachine$Machine", "enter", "(I)V"⟩
abbrev b_Ma_leave : ByteArray := prog_3_method_17_code
def y_Ma_leave : MethodName := ⟨"ReplayMachine$Machine", "leave", "()V"⟩
abbrev b_Ma_takeInput : ByteArray := prog_3_method_18_code
def y_Ma_takeInput : MethodName := ⟨"ReplayMachine$Machine", "takeInput", "()V"⟩
abbrev b_Ma_pushRandom : ByteArray := prog_3_method_19_code
def y_Ma_pushRandom : MethodName := ⟨"ReplayMachine$Machine", "pushRandom", "(I)V"⟩
abbrev b_Cp_offer : ByteArray := prog_2_method_2_code
def y_Cp_offer : MethodName := ⟨"ReplayMachine$Checkpoints", "offer", "(LReplayMachine$State;)V"⟩
abbrev b_Cp_isMultiple : ByteArray := prog_2_method_3_code
def y_Cp_isMultiple : MethodName := ⟨"ReplayMachine$Checkpoints", "isMultiple", "(I)Z"⟩
abbrev b_Cp_thinOut : ByteArray := prog_2_method_4_code
def y_Cp_thinOut : MethodName := ⟨"ReplayMachine$Checkpoints", "thinOut", "()V"⟩
abbrev b_St_copyState : ByteArray := prog_6_method_2_code
def y_St_copyState : MethodName := ⟨"ReplayMachine$State", "copyState", "(LReplayMachine$State;)V"⟩
abbrev b_RM_cell : ByteArray := prog_1_method_13_code
def y_RM_cell : MethodName := ⟨"ReplayMachine", "cell", "(I)I"⟩
abbrev b_La_cell : ByteArray := method_2_code
def y_La_cell : MethodName := ⟨"ReplayMachineLaw", "cell", "([II)I"⟩
abbrev b_La_poke : ByteArray := method_3_code
def y_La_poke : MethodName := ⟨"ReplayMachineLaw", "poke", "(LReplayMachine;II)I"⟩
abbrev b_RM_poke : ByteArray := prog_1_method_2_code
def y_RM_poke : MethodName := ⟨"ReplayMachine", "poke", "(II)V"⟩
abbrev b_La_forth : ByteArray := method_4_code
def y_La_forth : MethodName := ⟨"ReplayMachineLaw", "forth", "(LReplayMachine;I[J)I"⟩
abbrev b_RM_forth : ByteArray := prog_1_method_5_code
def y_RM_forth : MethodName := ⟨"ReplayMachine", "forth", "(I)I"⟩
abbrev b_RM_isFuel : ByteArray := prog_1_method_17_code
def y_RM_isFuel : MethodName := ⟨"ReplayMachine", "isFuel", "(I)Z"⟩
abbrev b_RM_stopHere : ByteArray := prog_1_method_20_code
def y_RM_stopHere : MethodName := ⟨"ReplayMachine", "stopHere", "()I"⟩
abbrev b_La_back : ByteArray := method_5_code
def y_La_back : MethodName := ⟨"ReplayMachineLaw", "back", "(LReplayMachine;I[J)I"⟩
abbrev b_RM_back : ByteArray := prog_1_method_6_code
def y_RM_back : MethodName := ⟨"ReplayMachine", "back", "(I)I"⟩
abbrev b_RM_travel : ByteArray := prog_1_method_21_code
def y_RM_travel : MethodName := ⟨"ReplayMachine", "travel", "(I)V"⟩
abbrev b_Un_takeBack : ByteArray := prog_7_method_3_code
def y_Un_takeBack : MethodName := ⟨"ReplayMachine$Undo", "takeBack", "(ILReplayMachine$State;)V"⟩
abbrev b_Nt_restore : ByteArray := prog_4_method_4_code
def y_Nt_restore : MethodName := ⟨"ReplayMachine$Note", "restore", "(LReplayMachine$State;)V"⟩
abbrev b_Cp_latestUpTo : ByteArray := prog_2_method_5_code
def y_Cp_latestUpTo : MethodName := ⟨"ReplayMachine$Checkpoints", "latestUpTo", "(I)LReplayMachine$State;"⟩
abbrev b_La_go : ByteArray := method_6_code
def y_La_go : MethodName := ⟨"ReplayMachineLaw", "go", "(LReplayMachine;I)I"⟩
abbrev b_RM_go : ByteArray := prog_1_method_7_code
def y_RM_go : MethodName := ⟨"ReplayMachine", "go", "(I)V"⟩
abbrev b_La_setBreak : ByteArray := method_7_code
def y_La_setBreak : MethodName := ⟨"ReplayMachineLaw", "setBreak", "(LReplayMachine;I[J)I"⟩
abbrev b_RM_setBreak : ByteArray := prog_1_method_8_code
def y_RM_setBreak : MethodName := ⟨"ReplayMachine", "setBreak", "(I)Z"⟩
abbrev b_RM_mark : ByteArray := prog_1_method_18_code
def y_RM_mark : MethodName := ⟨"ReplayMachine", "mark", "([ZIZ)Z"⟩
abbrev b_La_clearBreak : ByteArray := method_8_code
def y_La_clearBreak : MethodName := ⟨"ReplayMachineLaw", "clearBreak", "(LReplayMachine;I[J)I"⟩
abbrev b_RM_clearBreak : ByteArray := prog_1_method_9_code
def y_RM_clearBreak : MethodName := ⟨"ReplayMachine", "clearBreak", "(I)Z"⟩
abbrev b_La_setWatch : ByteArray := method_9_code
def y_La_setWatch : MethodName := ⟨"ReplayMachineLaw", "setWatch", "(LReplayMachine;I[J)I"⟩
abbrev b_RM_setWatch : ByteArray := prog_1_method_10_code
def y_RM_setWatch : MethodName := ⟨"ReplayMachine", "setWatch", "(I)Z"⟩
abbrev b_La_clearWatch : ByteArray := method_10_code
def y_La_clearWatch : MethodName := ⟨"ReplayMachineLaw", "clearWatch", "(LReplayMachine;I[J)I"⟩
abbrev b_RM_clearWatch : ByteArray := prog_1_method_11_code
def y_RM_clearWatch : MethodName := ⟨"ReplayMachine", "clearWatch", "(I)Z"⟩
abbrev b_La_state : ByteArray := method_11_code
def y_La_state : MethodName := ⟨"ReplayMachineLaw", "state", "(LReplayMachine;I[J)I"⟩
abbrev b_RM_state : ByteArray := prog_1_method_12_code
def y_RM_state : MethodName := ⟨"ReplayMachine", "state", "(I)I"⟩
abbrev b_La_stack : ByteArray := method_12_code
def y_La_stack : MethodName := ⟨"ReplayMachineLaw", "stack", "(LReplayMachine;I[J)I"⟩
abbrev b_RM_stack : ByteArray := prog_1_method_14_code
def y_RM_stack : MethodName := ⟨"ReplayMachine", "stack", "(I)I"⟩
abbrev b_La_checkpoint : ByteArray := method_13_code
def y_La_checkpoint : MethodName := ⟨"ReplayMachineLaw", "checkpoint", "(LReplayMachine;I[J)I"⟩
abbrev b_RM_checkpoint : ByteArray := prog_1_method_15_code
def y_RM_checkpoint : MethodName := ⟨"ReplayMachine", "checkpoint", "(I)I"⟩
abbrev b_Mo_init : ByteArray := prog_9_method_1_code
def y_Mo_init : MethodName := ⟨"ReplayMachineModel", "<init>", "(I)V"⟩
abbrev b_Mo_mark : ByteArray := prog_9_method_6_code
def y_Mo_mark : MethodName := ⟨"ReplayMachineModel", "mark", "()V"⟩
abbrev b_Mo_thrown : ByteArray := prog_9_method_2_code
def y_Mo_thrown : MethodName := ⟨"ReplayMachineModel", "thrown", "()I"⟩
abbrev b_Mo_poke : ByteArray := prog_9_method_4_code
def y_Mo_poke : MethodName := ⟨"ReplayMachineModel", "poke", "(II)V"⟩
abbrev b_Mo_input : ByteArray := prog_9_method_5_code
def y_Mo_input : MethodName := ⟨"ReplayMachineModel", "input", "(I)I"⟩
abbrev b_Mo_step : ByteArray := prog_9_method_22_code
def y_Mo_step : MethodName := ⟨"ReplayMachineModel", "step", "()I"⟩
abbrev b_Mo_advance : ByteArray := prog_9_method_20_code
def y_Mo_advance : MethodName := ⟨"ReplayMachineModel", "advance", "()I"⟩
abbrev b_Mo_check : ByteArray := prog_9_method_11_code
def y_Mo_check : MethodName := ⟨"ReplayMachineModel", "check", "()I"⟩
abbrev b_Mo_needs : ByteArray := prog_9_method_8_code
def y_Mo_needs : MethodName := ⟨"ReplayMachineModel", "needs", "(I)I"⟩
abbrev b_Mo_isArgument : ByteArray := prog_9_method_10_code
def y_Mo_isArgument : MethodName := ⟨"ReplayMachineModel", "isArgument", "(I)Z"⟩
abbrev b_Mo_grows : ByteArray := prog_9_method_9_code
def y_Mo_grows : MethodName := ⟨"ReplayMachineModel", "grows", "(I)I"⟩
abbrev b_Mo_perform : ByteArray := prog_9_method_19_code
def y_Mo_perform : MethodName := ⟨"ReplayMachineModel", "perform", "()V"⟩
abbrev b_Mo_push : ByteArray := prog_9_method_12_code
def y_Mo_push : MethodName := ⟨"ReplayMachineModel", "push", "(I)V"⟩
abbrev b_Mo_pop : ByteArray := prog_9_method_13_code
def y_Mo_pop : MethodName := ⟨"ReplayMachineModel", "pop", "()I"⟩
abbrev b_Mo_branch : ByteArray := prog_9_method_15_code
def y_Mo_branch : MethodName := ⟨"ReplayMachineModel", "branch", "(II)V"⟩
abbrev b_Mo_call : ByteArray := prog_9_method_17_code
def y_Mo_call : MethodName := ⟨"ReplayMachineModel", "call", "(I)V"⟩
abbrev b_Mo_giveBack : ByteArray := prog_9_method_16_code
def y_Mo_giveBack : MethodName := ⟨"ReplayMachineModel", "giveBack", "()V"⟩
abbrev b_Mo_draw : ByteArray := prog_9_method_18_code
def y_Mo_draw : MethodName := ⟨"ReplayMachineModel", "draw", "(I)I"⟩
abbrev b_Mo_reckon : ByteArray := prog_9_method_14_code
def y_Mo_reckon : MethodName := ⟨"ReplayMachineModel", "reckon", "(III)I"⟩
abbrev b_Mo_grow : ByteArray := prog_9_method_21_code
def y_Mo_grow : MethodName := ⟨"ReplayMachineModel", "grow", "()V"⟩
abbrev b_Mo_forth : ByteArray := prog_9_method_25_code
def y_Mo_forth : MethodName := ⟨"ReplayMachineModel", "forth", "(I)I"⟩
abbrev b_Mo_remember : ByteArray := prog_9_method_23_code
def y_Mo_remember : MethodName := ⟨"ReplayMachineModel", "remember", "()V"⟩
abbrev b_Mo_stop : ByteArray := prog_9_method_24_code
def y_Mo_stop : MethodName := ⟨"ReplayMachineModel", "stop", "()I"⟩
abbrev b_Mo_go : ByteArray := prog_9_method_27_code
def y_Mo_go : MethodName := ⟨"ReplayMachineModel", "go", "(I)V"⟩
abbrev b_Mo_account : ByteArray := prog_9_method_26_code
def y_Mo_account : MethodName := ⟨"ReplayMachineModel", "account", "(I)V"⟩
abbrev b_Mo_seek : ByteArray := prog_9_method_7_code
def y_Mo_seek : MethodName := ⟨"ReplayMachineModel", "seek", "(I)V"⟩
abbrev b_Mo_back : ByteArray := prog_9_method_29_code
def y_Mo_back : MethodName := ⟨"ReplayMachineModel", "back", "(I)I"⟩
abbrev b_Mo_backOne : ByteArray := prog_9_method_28_code
def y_Mo_backOne : MethodName := ⟨"ReplayMachineModel", "backOne", "()I"⟩
abbrev b_Mo_setBreak : ByteArray := prog_9_method_31_code
def y_Mo_setBreak : MethodName := ⟨"ReplayMachineModel", "setBreak", "(I)Z"⟩
abbrev b_Mo_outside : ByteArray := prog_9_method_30_code
def y_Mo_outside : MethodName := ⟨"ReplayMachineModel", "outside", "(II)Z"⟩
abbrev b_Mo_clearBreak : ByteArray := prog_9_method_32_code
def y_Mo_clearBreak : MethodName := ⟨"ReplayMachineModel", "clearBreak", "(I)Z"⟩
abbrev b_Mo_setWatch : ByteArray := prog_9_method_33_code
def y_Mo_setWatch : MethodName := ⟨"ReplayMachineModel", "setWatch", "(I)Z"⟩
abbrev b_Mo_clearWatch : ByteArray := prog_9_method_34_code
def y_Mo_clearWatch : MethodName := ⟨"ReplayMachineModel", "clearWatch", "(I)Z"⟩
abbrev b_Mo_state : ByteArray := prog_9_method_35_code
def y_Mo_state : MethodName := ⟨"ReplayMachineModel", "state", "(I)I"⟩
abbrev b_Mo_fail : ByteArray := prog_9_method_3_code
def y_Mo_fail : MethodName := ⟨"ReplayMachineModel", "fail", "(I)I"⟩
abbrev b_Mo_cell : ByteArray := prog_9_method_36_code
def y_Mo_cell : MethodName := ⟨"ReplayMachineModel", "cell", "(I)I"⟩
abbrev b_Mo_stack : ByteArray := prog_9_method_37_code
def y_Mo_stack : MethodName := ⟨"ReplayMachineModel", "stack", "(I)I"⟩
abbrev b_Mo_checkpoint : ByteArray := prog_9_method_38_code
def y_Mo_checkpoint : MethodName := ⟨"ReplayMachineModel", "checkpoint", "(I)I"⟩
set_option maxRecDepth 20000 in
theorem mw_75 : Cond.laysFinal "ReplayMachine$State" "ReplayMachine$State" "memory" "[I" ∈ WS := WS_mem 113 (by decide +kernel) (by decide +kernel)
set_option maxRecDepth 20000 in
theorem mw_77 : Cond.lays "ReplayMachine$State" "ReplayMachine$Registers" "time" "I" ∈ WS := WS_mem 115 (by decide +kernel) (by decide +kernel)
set_option maxRecDepth 20000 in
theorem mw_79 : Cond.lays "ReplayMachine$State" "ReplayMachine$Registers" "pc" "I" ∈ WS := WS_mem 117 (by decide +kernel) (by decide +kernel)
set_option maxRecDepth 20000 in
theorem mw_81 : Cond.lays "ReplayMachine$State" "ReplayMachine$Registers" "frame" "I" ∈ WS := WS_mem 119 (by decide +kernel) (by decide +kernel)
set_option maxRecDepth 20000 in
theorem mw_83 : Cond.lays "ReplayMachine$State" "ReplayMachine$Registers" "x" "I" ∈ WS := WS_mem 121 (by decide +kernel) (by decide +kernel)
set_option maxRecDepth 20000 in
theorem mw_85 : Cond.lays "ReplayMachine$State" "ReplayMachine$Registers" "taken" "I" ∈ WS := WS_mem 123 (by decide +kernel) (by decide +kernel)
set_option maxRecDepth 20000 in
theorem mw_87 : Cond.lays "ReplayMachine$State" "ReplayMachine$Registers" "height" "I" ∈ WS := WS_mem 125 (by decide +kernel) (by decide +kernel)
set_option maxRecDepth 20000 in
theorem mw_89 : Cond.lays "ReplayMachine$State" "ReplayMachine$Registers" "changed" "I" ∈ WS := WS_mem 127 (by decide +kernel) (by decide +kernel)
set_option maxRecDepth 20000 in
theorem mw_109 : Cond.laysFinal "ReplayMachine$Note" "ReplayMachine$Note" "places" "[I" ∈ WS := WS_mem 147 (by decide +kernel) (by decide +kernel)
set_option maxRecDepth 20000 in
theorem mw_111 : Cond.laysFinal "ReplayMachine$Note" "ReplayMachine$Note" "words" "[I" ∈ WS := WS_mem 149 (by decide +kernel) (by decide +kernel)
set_option maxRecDepth 20000 in
theorem mw_113 : Cond.lays "ReplayMachine$Note" "ReplayMachine$Note" "size" "I" ∈ WS := WS_mem 151 (by decide +kernel) (by decide +kernel)
set_option maxRecDepth 20000 in
theorem mw_115 : Cond.lays "ReplayMachine$Note" "ReplayMachine$Registers" "time" "I" ∈ WS := WS_mem 153 (by decide +kernel) (by decide +kernel)
set_option maxRecDepth 20000 in
theorem mw_116 : Cond.lays "ReplayMachine$Note" "ReplayMachine$Registers" "pc" "I" ∈ WS := WS_mem 154 (by decide +kernel) (by decide +kernel)
set_option maxRecDepth 20000 in
theorem mw_117 : Cond.lays "ReplayMachine$Note" "ReplayMachine$Registers" "frame" "I" ∈ WS := WS_mem 155 (by decide +kernel) (by decide +kernel)
set_option maxRecDepth 20000 in
theorem mw_118 : Cond.lays "ReplayMachine$Note" "ReplayMachine$Registers" "x" "I" ∈ WS := WS_mem 156 (by decide +kernel) (by decide +kernel)
set_option maxRecDepth 20000 in
theorem mw_119 : Cond.lays "ReplayMachine$Note" "ReplayMachine$Registers" "taken" "I" ∈ WS := WS_mem 157 (by decide +kernel) (by decide +kernel)
set_option maxRecDepth 20000 in
theorem mw_120 : Cond.lays "ReplayMachine$Note" "ReplayMachine$Registers" "height" "I" ∈ WS := WS_mem 158 (by decide +kernel) (by decide +kernel)
set_option maxRecDepth 20000 in
theorem mw_121 : Cond.lays "ReplayMachine$Note" "ReplayMachine$Registers" "changed" "I" ∈ WS := WS_mem 159 (by decide +kernel) (by decide +kernel)
set_option maxRecDepth 20000 in
theorem mw_128 : Cond.laysFinal "ReplayMachine$Undo" "ReplayMachine$Undo" "notes" "[LReplayMachine$Note;" ∈ WS := WS_mem 166 (by decide +kernel) (by decide +kernel)
set_option maxRecDepth 20000 in
theorem mw_130 : Cond.lays "ReplayMachine$Undo" "ReplayMachine$Undo" "newest" "I" ∈ WS := WS_mem 168 (by decide +kernel) (by decide +kernel)
set_option maxRecDepth 20000 in
theorem mw_132 : Cond.lays "ReplayMachine$Undo" "ReplayMachine$Undo" "size" "I" ∈ WS := WS_mem 170 (by decide +kernel) (by decide +kernel)
set_option maxRecDepth 20000 in
theorem mw_144 : Cond.laysFinal "ReplayMachine$Machine" "ReplayMachine$Machine" "code" "[I" ∈ WS := WS_mem 182 (by decide +kernel) (by decide +kernel)
set_option maxRecDepth 20000 in
theorem mw_146 : Cond.laysFinal "ReplayMachine$Machine" "ReplayMachine$Machine" "inputs" "[I" ∈ WS := WS_mem 184 (by decide +kernel) (by decide +kernel)
set_option maxRecDepth 20000 in
theorem mw_148 : Cond.laysFinal "ReplayMachine$Machine" "ReplayMachine$Machine" "now" "LReplayMachine$State;" ∈ WS := WS_mem 186 (by decide +kernel) (by decide +kernel)
set_option maxRecDepth 20000 in
theorem mw_150 : Cond.laysFinal "ReplayMachine$Machine" "ReplayMachine$Machine" "undo" "LReplayMachine$Undo;" ∈ WS := WS_mem 188 (by decide +kernel) (by decide +kernel)
set_option maxRecDepth 20000 in
theorem mw_152 : Cond.lays "ReplayMachine$Machine" "ReplayMachine$Machine" "inputCount" "I" ∈ WS := WS_mem 190 (by decide +kernel) (by decide +kernel)
set_option maxRecDepth 20000 in
theorem mw_154 : Cond.lays "ReplayMachine$Machine" "ReplayMachine$Machine" "note" "LReplayMachine$Note;" ∈ WS := WS_mem 192 (by decide +kernel) (by decide +kernel)
set_option maxRecDepth 20000 in
theorem mw_172 : Cond.laysFinal "ReplayMachine$Checkpoints" "ReplayMachine$Checkpoints" "kept" "[LReplayMachine$State;" ∈ WS := WS_mem 210 (by decide +kernel) (by decide +kernel)
set_option maxRecDepth 20000 in
theorem mw_174 : Cond.lays "ReplayMachine$Checkpoints" "ReplayMachine$Checkpoints" "size" "I" ∈ WS := WS_mem 212 (by decide +kernel) (by decide +kernel)
set_option maxRecDepth 20000 in
theorem mw_176 : Cond.lays "ReplayMachine$Checkpoints" "ReplayMachine$Checkpoints" "every" "I" ∈ WS := WS_mem 214 (by decide +kernel) (by decide +kernel)
set_option maxRecDepth 20000 in
theorem mw_185 : Cond.laysFinal "ReplayMachine" "ReplayMachine" "machine" "LReplayMachine$Machine;" ∈ WS := WS_mem 223 (by decide +kernel) (by decide +kernel)
set_option maxRecDepth 20000 in
theorem mw_187 : Cond.laysFinal "ReplayMachine" "ReplayMachine" "checkpoints" "LReplayMachine$Checkpoints;" ∈ WS := WS_mem 225 (by decide +kernel) (by decide +kernel)
set_option maxRecDepth 20000 in
theorem mw_189 : Cond.laysFinal "ReplayMachine" "ReplayMachine" "breaks" "[Z" ∈ WS := WS_mem 227 (by decide +kernel) (by decide +kernel)
set_option maxRecDepth 20000 in
theorem mw_191 : Cond.laysFinal "ReplayMachine" "ReplayMachine" "watches" "[Z" ∈ WS := WS_mem 229 (by decide +kernel) (by decide +kernel)
set_option maxRecDepth 20000 in
theorem mw_193 : Cond.lays "ReplayMachine" "ReplayMachine" "greatest" "I" ∈ WS := WS_mem 231 (by decide +kernel) (by decide +kernel)
set_option maxRecDepth 20000 in
theorem mw_195 : Cond.lays "ReplayMachine" "ReplayMachine" "cost" "I" ∈ WS := WS_mem 233 (by decide +kernel) (by decide +kernel)
set_option maxRecDepth 20000 in
theorem mw_593 : Cond.lays "ReplayMachineModel" "ReplayMachineModel" "code" "I" ∈ WS := WS_mem 631 (by decide +kernel) (by decide +kernel)
set_option maxRecDepth 20000 in
theorem mw_595 : Cond.laysFinal "ReplayMachineModel" "ReplayMachineModel" "program" "[I" ∈ WS := WS_mem 633 (by decide +kernel) (by decide +kernel)
set_option maxRecDepth 20000 in
theorem mw_597 : Cond.laysFinal "ReplayMachineModel" "ReplayMachineModel" "inputs" "[I" ∈ WS := WS_mem 635 (by decide +kernel) (by decide +kernel)
set_option maxRecDepth 20000 in
theorem mw_599 : Cond.lays "ReplayMachineModel" "ReplayMachineModel" "given" "I" ∈ WS := WS_mem 637 (by decide +kernel) (by decide +kernel)
set_option maxRecDepth 20000 in
theorem mw_601 : Cond.laysFinal "ReplayMachineModel" "ReplayMachineModel" "breaks" "[Z" ∈ WS := WS_mem 639 (by decide +kernel) (by decide +kernel)
set_option maxRecDepth 20000 in
theorem mw_603 : Cond.laysFinal "ReplayMachineModel" "ReplayMachineModel" "watches" "[Z" ∈ WS := WS_mem 641 (by decide +kernel) (by decide +kernel)
set_option maxRecDepth 20000 in
theorem mw_605 : Cond.lays "ReplayMachineModel" "ReplayMachineModel" "time" "I" ∈ WS := WS_mem 643 (by decide +kernel) (by decide +kernel)
set_option maxRecDepth 20000 in
theorem mw_607 : Cond.lays "ReplayMachineModel" "ReplayMachineModel" "pc" "I" ∈ WS := WS_mem 645 (by decide +kernel) (by decide +kernel)
set_option maxRecDepth 20000 in
theorem mw_609 : Cond.lays "ReplayMachineModel" "ReplayMachineModel" "frame" "I" ∈ WS := WS_mem 647 (by decide +kernel) (by decide +kernel)
set_option maxRecDepth 20000 in
theorem mw_611 : Cond.lays "ReplayMachineModel" "ReplayMachineModel" "x" "I" ∈ WS := WS_mem 649 (by decide +kernel) (by decide +kernel)
set_option maxRecDepth 20000 in
theorem mw_613 : Cond.lays "ReplayMachineModel" "ReplayMachineModel" "taken" "I" ∈ WS := WS_mem 651 (by decide +kernel) (by decide +kernel)
set_option maxRecDepth 20000 in
theorem mw_615 : Cond.lays "ReplayMachineModel" "ReplayMachineModel" "height" "I" ∈ WS := WS_mem 653 (by decide +kernel) (by decide +kernel)
set_option maxRecDepth 20000 in
theorem mw_617 : Cond.laysFinal "ReplayMachineModel" "ReplayMachineModel" "cells" "[I" ∈ WS := WS_mem 655 (by decide +kernel) (by decide +kernel)
set_option maxRecDepth 20000 in
theorem mw_619 : Cond.laysFinal "ReplayMachineModel" "ReplayMachineModel" "stack" "[I" ∈ WS := WS_mem 657 (by decide +kernel) (by decide +kernel)
set_option maxRecDepth 20000 in
theorem mw_621 : Cond.laysFinal "ReplayMachineModel" "ReplayMachineModel" "were" "[I" ∈ WS := WS_mem 659 (by decide +kernel) (by decide +kernel)
set_option maxRecDepth 20000 in
theorem mw_623 : Cond.laysFinal "ReplayMachineModel" "ReplayMachineModel" "markWords" "[I" ∈ WS := WS_mem 661 (by decide +kernel) (by decide +kernel)
set_option maxRecDepth 20000 in
theorem mw_625 : Cond.laysFinal "ReplayMachineModel" "ReplayMachineModel" "markOthers" "[I" ∈ WS := WS_mem 663 (by decide +kernel) (by decide +kernel)
set_option maxRecDepth 20000 in
theorem mw_627 : Cond.lays "ReplayMachineModel" "ReplayMachineModel" "reached" "I" ∈ WS := WS_mem 665 (by decide +kernel) (by decide +kernel)
set_option maxRecDepth 20000 in
theorem mw_629 : Cond.lays "ReplayMachineModel" "ReplayMachineModel" "undo" "I" ∈ WS := WS_mem 667 (by decide +kernel) (by decide +kernel)
set_option maxRecDepth 20000 in
theorem mw_631 : Cond.lays "ReplayMachineModel" "ReplayMachineModel" "cost" "I" ∈ WS := WS_mem 669 (by decide +kernel) (by decide +kernel)
set_option maxRecDepth 20000 in
theorem mw_633 : Cond.lays "ReplayMachineModel" "ReplayMachineModel" "every" "I" ∈ WS := WS_mem 671 (by decide +kernel) (by decide +kernel)
set_option maxRecDepth 20000 in
theorem mw_635 : Cond.lays "ReplayMachineModel" "ReplayMachineModel" "kept" "I" ∈ WS := WS_mem 673 (by decide +kernel) (by decide +kernel)
set_option maxRecDepth 20000 in
theorem mw_637 : Cond.laysFinal "ReplayMachineModel" "ReplayMachineModel" "keptAt" "[I" ∈ WS := WS_mem 675 (by decide +kernel) (by decide +kernel)
set_option maxRecDepth 20000 in
theorem in_Cp : ∀ w ∈ u_ws "ReplayMachine$Checkpoints" T_Cp 3, w ∈ WS := by
  intro w h
  have h2 : w ∈ ([.laysFinal "ReplayMachine$Checkpoints" "ReplayMachine$Checkpoints" "kept" "[LReplayMachine$State;", .lays "ReplayMachine$Checkpoints" "ReplayMachine$Checkpoints" "size" "I", .lays "ReplayMachine$Checkpoints" "ReplayMachine$Checkpoints" "every" "I"] : List Cond) := h
  simp only [List.mem_cons, List.not_mem_nil, or_false] at h2
  rcases h2 with rfl | rfl | rfl
  · exact mw_172
  · exact mw_174
  · exact mw_176
set_option maxRecDepth 20000 in
theorem in_Ma : ∀ w ∈ u_ws "ReplayMachine$Machine" T_Ma 6, w ∈ WS := by
  intro w h
  have h2 : w ∈ ([.laysFinal "ReplayMachine$Machine" "ReplayMachine$Machine" "code" "[I", .laysFinal "ReplayMachine$Machine" "ReplayMachine$Machine" "inputs" "[I", .laysFinal "ReplayMachine$Machine" "ReplayMachine$Machine" "now" "LReplayMachine$State;", .laysFinal "ReplayMachine$Machine" "ReplayMachine$Machine" "undo" "LReplayMachine$Undo;", .lays "ReplayMachine$Machine" "ReplayMachine$Machine" "inputCount" "I", .lays "ReplayMachine$Machine" "ReplayMachine$Machine" "note" "LReplayMachine$Note;"] : List Cond) := h
  simp only [List.mem_cons, List.not_mem_nil, or_false] at h2
  rcases h2 with rfl | rfl | rfl | rfl | rfl | rfl
  · exact mw_144
  · exact mw_146
  · exact mw_148
  · exact mw_150
  · exact mw_152
  · exact mw_154
set_option maxRecDepth 20000 in
theorem in_Nt : ∀ w ∈ u_ws "ReplayMachine$Note" T_Nt 10, w ∈ WS := by
  intro w h
  have h2 : w ∈ ([.lays "ReplayMachine$Note" "ReplayMachine$Registers" "time" "I", .lays "ReplayMachine$Note" "ReplayMachine$Registers" "pc" "I", .lays "ReplayMachine$Note" "ReplayMachine$Registers" "frame" "I", .lays "ReplayMachine$Note" "ReplayMachine$Registers" "x" "I", .lays "ReplayMachine$Note" "ReplayMachine$Registers" "taken" "I", .lays "ReplayMachine$Note" "ReplayMachine$Registers" "height" "I", .lays "ReplayMachine$Note" "ReplayMachine$Registers" "changed" "I", .laysFinal "ReplayMachine$Note" "ReplayMachine$Note" "places" "[I", .laysFinal "ReplayMachine$Note" "ReplayMachine$Note" "words" "[I", .lays "ReplayMachine$Note" "ReplayMachine$Note" "size" "I"] : List Cond) := h
  simp only [List.mem_cons, List.not_mem_nil, or_false] at h2
  rcases h2 with rfl | rfl | rfl | rfl | rfl | rfl | rfl | rfl | rfl | rfl
  · exact mw_115
  · exact mw_116
  · exact mw_117
  · exact mw_118
  · exact mw_119
  · exact mw_120
  · exact mw_121
  · exact mw_109
  · exact mw_111
  · exact mw_113
set_option maxRecDepth 20000 in
theorem in_St : ∀ w ∈ u_ws "ReplayMachine$State" T_St 8, w ∈ WS := by
  intro w h
  have h2 : w ∈ ([.lays "ReplayMachine$State" "ReplayMachine$Registers" "time" "I", .lays "ReplayMachine$State" "ReplayMachine$Registers" "pc" "I", .lays "ReplayMachine$State" "ReplayMachine$Registers" "frame" "I", .lays "ReplayMachine$State" "ReplayMachine$Registers" "x" "I", .lays "ReplayMachine$State" "ReplayMachine$Registers" "taken" "I", .lays "ReplayMachine$State" "ReplayMachine$Registers" "height" "I", .lays "ReplayMachine$State" "ReplayMachine$Registers" "changed" "I", .laysFinal "ReplayMachine$State" "ReplayMachine$State" "memory" "[I"] : List Cond) := h
  simp only [List.mem_cons, List.not_mem_nil, or_false] at h2
  rcases h2 with rfl | rfl | rfl | rfl | rfl | rfl | rfl | rfl
  · exact mw_77
  · exact mw_79
  · exact mw_81
  · exact mw_83
  · exact mw_85
  · exact mw_87
  · exact mw_89
  · exact mw_75
set_option maxRecDepth 20000 in
theorem in_Un : ∀ w ∈ u_ws "ReplayMachine$Undo" T_Un 3, w ∈ WS := by
  intro w h
  have h2 : w ∈ ([.laysFinal "ReplayMachine$Undo" "ReplayMachine$Undo" "notes" "[LReplayMachine$Note;", .lays "ReplayMachine$Undo" "ReplayMachine$Undo" "newest" "I", .lays "ReplayMachine$Undo" "ReplayMachine$Undo" "size" "I"] : List Cond) := h
  simp only [List.mem_cons, List.not_mem_nil, or_false] at h2
  rcases h2 with rfl | rfl | rfl
  · exact mw_128
  · exact mw_130
  · exact mw_132
set_option maxRecDepth 20000 in
theorem in_RM : ∀ w ∈ u_ws "ReplayMachine" T_RM 6, w ∈ WS := by
  intro w h
  have h2 : w ∈ ([.laysFinal "ReplayMachine" "ReplayMachine" "machine" "LReplayMachine$Machine;", .laysFinal "ReplayMachine" "ReplayMachine" "checkpoints" "LReplayMachine$Checkpoints;", .laysFinal "ReplayMachine" "ReplayMachine" "breaks" "[Z", .laysFinal "ReplayMachine" "ReplayMachine" "watches" "[Z", .lays "ReplayMachine" "ReplayMachine" "greatest" "I", .lays "ReplayMachine" "ReplayMachine" "cost" "I"] : List Cond) := h
  simp only [List.mem_cons, List.not_mem_nil, or_false] at h2
  rcases h2 with rfl | rfl | rfl | rfl | rfl | rfl
  · exact mw_185
  · exact mw_187
  · exact mw_189
  · exact mw_191
  · exact mw_193
  · exact mw_195
set_option maxRecDepth 20000 in
theorem in_Mo : ∀ w ∈ u_ws "ReplayMachineModel" T_Mo 23, w ∈ WS := by
  intro w h
  have h2 : w ∈ ([.laysFinal "ReplayMachineModel" "ReplayMachineModel" "program" "[I", .laysFinal "ReplayMachineModel" "ReplayMachineModel" "inputs" "[I", .laysFinal "ReplayMachineModel" "ReplayMachineModel" "breaks" "[Z", .laysFinal "ReplayMachineModel" "ReplayMachineModel" "watches" "[Z", .laysFinal "ReplayMachineModel" "ReplayMachineModel" "cells" "[I", .laysFinal "ReplayMachineModel" "ReplayMachineModel" "stack" "[I", .laysFinal "ReplayMachineModel" "ReplayMachineModel" "were" "[I", .laysFinal "ReplayMachineModel" "ReplayMachineModel" "markWords" "[I", .laysFinal "ReplayMachineModel" "ReplayMachineModel" "markOthers" "[I", .laysFinal "ReplayMachineModel" "ReplayMachineModel" "keptAt" "[I", .lays "ReplayMachineModel" "ReplayMachineModel" "code" "I", .lays "ReplayMachineModel" "ReplayMachineModel" "given" "I", .lays "ReplayMachineModel" "ReplayMachineModel" "time" "I", .lays "ReplayMachineModel" "ReplayMachineModel" "pc" "I", .lays "ReplayMachineModel" "ReplayMachineModel" "frame" "I", .lays "ReplayMachineModel" "ReplayMachineModel" "x" "I", .lays "ReplayMachineModel" "ReplayMachineModel" "taken" "I", .lays "ReplayMachineModel" "ReplayMachineModel" "height" "I", .lays "ReplayMachineModel" "ReplayMachineModel" "reached" "I", .lays "ReplayMachineModel" "ReplayMachineModel" "undo" "I", .lays "ReplayMachineModel" "ReplayMachineModel" "cost" "I", .lays "ReplayMachineModel" "ReplayMachineModel" "every" "I", .lays "ReplayMachineModel" "ReplayMachineModel" "kept" "I"] : List Cond) := h
  simp only [List.mem_cons, List.not_mem_nil, or_false] at h2
  rcases h2 with rfl | rfl | rfl | rfl | rfl | rfl | rfl | rfl | rfl | rfl | rfl | rfl | rfl | rfl | rfl | rfl | rfl | rfl | rfl | rfl | rfl | rfl | rfl
  · exact mw_595
  · exact mw_597
  · exact mw_601
  · exact mw_603
  · exact mw_617
  · exact mw_619
  · exact mw_621
  · exact mw_623
  · exact mw_625
  · exact mw_637
  · exact mw_593
  · exact mw_599
  · exact mw_605
  · exact mw_607
  · exact mw_609
  · exact mw_611
  · exact mw_613
  · exact mw_615
  · exact mw_627
  · exact mw_629
  · exact mw_631
  · exact mw_633
  · exact mw_635
end
section
/-! the class's own cells by index: 0 ReplayMachine, 1 Machine, 2 code, 3 inputs, 4 State now, 5 its memory, 6 Undo, 7 notes, 8+3k Note k with places and words, 104 Checkpoints, 105 kept, 106+2k State k with its memory, 122 breaks, 123 watches -/
abbrev xS : Type := (Nat → Nat → Int32) × (Nat → Nat → Int32) × (Nat → Nat) × Nat
def gI (S : xS) (i k : Nat) : Int32 := S.1 i k
def gR (S : xS) (i : Nat) : Nat → Int32 := S.2.1 i
def gK (S : xS) (j : Nat) : Nat := S.2.2.1 j % 8
def gN (S : xS) : Nat := S.2.2.2 % 32
def sI (S : xS) (i k : Nat) (x : Int32) : xS := (va_up S.1 i (upd (S.1 i) k x), S.2)
def sR (S : xS) (i : Nat) (f : Nat → Int32) : xS := (S.1, va_up S.2.1 i f, S.2.2)
def sA (S : xS) (i : Nat) (j x : Int32) : xS := sR S i (upd (gR S i) j.toNatClampNeg x)
def sK (S : xS) (j x : Nat) : xS := (S.1, S.2.1, va_up S.2.2.1 j x, S.2.2.2)
def sN (S : xS) (x : Nat) : xS := (S.1, S.2.1, S.2.2.1, x)
def kSt (i : Nat) : Prop := i = 4 ∨ (106 ≤ i ∧ i < 122 ∧ i % 2 = 0)
def kNt (i : Nat) : Prop := 8 ≤ i ∧ i < 104 ∧ i % 3 = 2
abbrev iN (k : Nat) : Nat := 8 + 3 * (k % 32)
abbrev iS (k : Nat) : Nat := 106 + 2 * (k % 8)
theorem iN_mod (k : Nat) : iN (k % 32) = iN k := by unfold iN; omega
theorem k_4 : kSt 4 := Or.inl rfl
theorem k_N (k : Nat) : kNt (iN k) := by unfold kNt iN; omega
theorem k_S (k : Nat) : kSt (iS k) := by unfold kSt iS; omega
def xc (aC : Nat → ClassId) (ad : Nat → Nat) (j : Nat) (r a : Nat → Int32) (kp : Nat → Nat) (nt : Nat) (e0 : va_E) : va_E :=
  if j = 0 then .inr (5, [.ref (ad 1), .ref (ad 104), .ref (ad 122), .ref (ad 123), .int (r 4), .int (r 5)]) else
  if j = 1 then .inr (1, [.ref (ad 2), .ref (ad 3), .ref (ad 4), .ref (ad 6), .int (r 4), .ref (ad (iN nt))]) else
  if j = 2 then .inl (aC 0, 64, .inl a) else
  if j = 3 then .inl (aC 0, 40, .inl a) else
  if j = 4 then .inr (3, [.int (r 0), .int (r 1), .int (r 2), .int (r 3), .int (r 4), .int (r 5), .int (r 6), .ref (ad (j + 1))]) else
  if j = 5 then .inl (aC 0, 56, .inl a) else
  if j = 6 then .inr (4, [.ref (ad 7), .int (r 1), .int (r 2)]) else
  if j = 7 then .inl (aC 2, 32, .inr (.inr (.inr (.inr (fun q => if q < 32 then some (ad (iN q)) else none))))) else
  if j < 104 then (if j % 3 = 2 then .inr (2, [.int (r 0), .int (r 1), .int (r 2), .int (r 3), .int (r 4), .int (r 5), .int (r 6), .ref (ad (j + 1)), .ref (ad (j + 2)), .int (r 9)]) else .inl (aC 0, 2, .inl a)) else
  if j = 104 then .inr (0, [.ref (ad 105), .int (r 1), .int (r 2)]) else
  if j = 105 then .inl (aC 3, 8, .inr (.inr (.inr (.inr (fun q => if q < 8 then some (ad (iS (kp q))) else none))))) else
  if j < 122 then (if j % 2 = 0 then .inr (3, [.int (r 0), .int (r 1), .int (r 2), .int (r 3), .int (r 4), .int (r 5), .int (r 6), .ref (ad (j + 1))]) else .inl (aC 0, 56, .inl a)) else
  if j = 122 then .inl (aC 1, 64, .inl a) else
  if j = 123 then .inl (aC 1, 32, .inl a) else
  e0
def xe (aC : Nat → ClassId) (ad : Nat → Nat) (S : xS) (c0 : Nat → va_E) : Nat → va_E := fun j => xc aC ad j (gI S j) (gR S j) (gK S) (gN S) (c0 j)
section XW
variable {aC : Nat → ClassId} {ad : Nat → Nat} {S : xS} {c0 : Nat → va_E} {i : Nat}
theorem x_RM : xe aC ad S c0 0 = .inr (5, [.ref (ad 1), .ref (ad 104), .ref (ad 122), .ref (ad 123), .int (gI S 0 4), .int (gI S 0 5)]) := by first | rfl | simp [xe, xc]
theorem x_Ma : xe aC ad S c0 1 = .inr (1, [.ref (ad 2), .ref (ad 3), .ref (ad 4), .ref (ad 6), .int (gI S 1 4), .ref (ad (iN (gN S)))]) := by first | rfl | simp [xe, xc]
theorem x_code : xe aC ad S c0 2 = .inl (aC 0, 64, .inl (gR S 2)) := by first | rfl | simp [xe, xc]
theorem x_inp : xe aC ad S c0 3 = .inl (aC 0, 40, .inl (gR S 3)) := by first | rfl | simp [xe, xc]
theorem x_Un : xe aC ad S c0 6 = .inr (4, [.ref (ad 7), .int (gI S 6 1), .int (gI S 6 2)]) := by first | rfl | simp [xe, xc]
theorem x_notes : xe aC ad S c0 7 = .inl (aC 2, 32, .inr (.inr (.inr (.inr (fun q => if q < 32 then some (ad (iN q)) else none))))) := by first | rfl | simp [xe, xc]
theorem x_Cp : xe aC ad S c0 104 = .inr (0, [.ref (ad 105), .int (gI S 104 1), .int (gI S 104 2)]) := by first | rfl | simp [xe, xc]
theorem x_kept : xe aC ad S c0 105 = .inl (aC 3, 8, .inr (.inr (.inr (.inr (fun q => if q < 8 then some (ad (iS (gK S q))) else none))))) := by first | rfl | simp [xe, xc]
theorem x_brk : xe aC ad S c0 122 = .inl (aC 1, 64, .inl (gR S 122)) := by first | rfl | simp [xe, xc]
theorem x_wat : xe aC ad S c0 123 = .inl (aC 1, 32, .inl (gR S 123)) := by first | rfl | simp [xe, xc]
theorem x_St (h : kSt i) : xe aC ad S c0 (i) = .inr (3, [.int (gI S i 0), .int (gI S i 1), .int (gI S i 2), .int (gI S i 3), .int (gI S i 4), .int (gI S i 5), .int (gI S i 6), .ref (ad (i + 1))]) := by
  unfold kSt at h
  rcases h with rfl | ⟨g1, g2, g3⟩
  · first | rfl | simp [xe, xc]
  · simp only [xe, xc]
    rw [if_neg (show ¬ i = 0 by omega), if_neg (show ¬ i = 1 by omega), if_neg (show ¬ i = 2 by omega), if_neg (show ¬ i = 3 by omega), if_neg (show ¬ i = 4 by omega), if_neg (show ¬ i = 5 by omega), if_neg (show ¬ i = 6 by omega), if_neg (show ¬ i = 7 by omega), if_neg (show ¬ i < 104 by omega), if_neg (show ¬ i = 104 by omega), if_neg (show ¬ i = 105 by omega), if_pos (show i < 122 by omega), if_pos (show (i) % 2 = 0 by omega)]
theorem x_mem (h : kSt i) : xe aC ad S c0 (i + 1) = .inl (aC 0, 56, .inl (gR S (i + 1))) := by
  unfold kSt at h
  rcases h with rfl | ⟨g1, g2, g3⟩
  · first | rfl | simp [xe, xc]
  · simp only [xe, xc]
    rw [if_neg (show ¬ i + 1 = 0 by omega), if_neg (show ¬ i + 1 = 1 by omega), if_neg (show ¬ i + 1 = 2 by omega), if_neg (show ¬ i + 1 = 3 by omega), if_neg (show ¬ i + 1 = 4 by omega), if_neg (show ¬ i + 1 = 5 by omega), if_neg (show ¬ i + 1 = 6 by omega), if_neg (show ¬ i + 1 = 7 by omega), if_neg (show ¬ i + 1 < 104 by omega), if_neg (show ¬ i + 1 = 104 by omega), if_neg (show ¬ i + 1 = 105 by omega), if_pos (show i + 1 < 122 by omega), if_neg (show ¬ (i + 1) % 2 = 0 by omega)]
theorem x_Nt (h : kNt i) : xe aC ad S c0 (i) = .inr (2, [.int (gI S i 0), .int (gI S i 1), .int (gI S i 2), .int (gI S i 3), .int (gI S i 4), .int (gI S i 5), .int (gI S i 6), .ref (ad (i + 1)), .ref (ad (i + 2)), .int (gI S i 9)]) := by
  unfold kNt at h
  obtain ⟨g1, g2, g3⟩ := h
  simp only [xe, xc]
  rw [if_neg (show ¬ i = 0 by omega), if_neg (show ¬ i = 1 by omega), if_neg (show ¬ i = 2 by omega), if_neg (show ¬ i = 3 by omega), if_neg (show ¬ i = 4 by omega), if_neg (show ¬ i = 5 by omega), if_neg (show ¬ i = 6 by omega), if_neg (show ¬ i = 7 by omega), if_pos (show i < 104 by omega), if_pos (show (i) % 3 = 2 by omega)]
theorem x_pl (h : kNt i) : xe aC ad S c0 (i + 1) = .inl (aC 0, 2, .inl (gR S (i + 1))) := by
  unfold kNt at h
  obtain ⟨g1, g2, g3⟩ := h
  simp only [xe, xc]
  rw [if_neg (show ¬ i + 1 = 0 by omega), if_neg (show ¬ i + 1 = 1 by omega), if_neg (show ¬ i + 1 = 2 by omega), if_neg (show ¬ i + 1 = 3 by omega), if_neg (show ¬ i + 1 = 4 by omega), if_neg (show ¬ i + 1 = 5 by omega), if_neg (show ¬ i + 1 = 6 by omega), if_neg (show ¬ i + 1 = 7 by omega), if_pos (show i + 1 < 104 by omega), if_neg (show ¬ (i + 1) % 3 = 2 by omega)]
theorem x_wd (h : kNt i) : xe aC ad S c0 (i + 2) = .inl (aC 0, 2, .inl (gR S (i + 2))) := by
  unfold kNt at h
  obtain ⟨g1, g2, g3⟩ := h
  simp only [xe, xc]
  rw [if_neg (show ¬ i + 2 = 0 by omega), if_neg (show ¬ i + 2 = 1 by omega), if_neg (show ¬ i + 2 = 2 by omega), if_neg (show ¬ i + 2 = 3 by omega), if_neg (show ¬ i + 2 = 4 by omega), if_neg (show ¬ i + 2 = 5 by omega), if_neg (show ¬ i + 2 = 6 by omega), if_neg (show ¬ i + 2 = 7 by omega), if_pos (show i + 2 < 104 by omega), if_neg (show ¬ (i + 2) % 3 = 2 by omega)]
theorem x_upI {k : Nat} {x : Int32} {e : va_E} (he : xe aC ad (sI S i k x) c0 i = e) : va_up (xe aC ad S c0) i e = xe aC ad (sI S i k x) c0 := by
  funext j
  by_cases hj : j = i
  · subst hj; simp [va_up, he]
  · have h1 : gI (sI S i k x) j = gI S j := by funext q; simp [gI, sI, va_up, hj]
    show (if j = i then e else xe aC ad S c0 j) = xe aC ad (sI S i k x) c0 j
    rw [if_neg hj]
    unfold xe
    rw [h1]
    rfl
theorem x_upR {f : Nat → Int32} {e : va_E} (he : xe aC ad (sR S i f) c0 i = e) : va_up (xe aC ad S c0) i e = xe aC ad (sR S i f) c0 := by
  funext j
  by_cases hj : j = i
  · subst hj; simp [va_up, he]
  · have h1 : gR (sR S i f) j = gR S j := by funext q; simp [gR, sR, va_up, hj]
    show (if j = i then e else xe aC ad S c0 j) = xe aC ad (sR S i f) c0 j
    rw [if_neg hj]
    unfold xe
    rw [h1]
    rfl
theorem g_sI {S : xS} {i k i' k' : Nat} {x : Int32} : gI (sI S i k x) i' k' = if i' = i ∧ k' = k then x else gI S i' k' := by
  unfold gI sI va_up upd
  by_cases h1 : i' = i <;> by_cases h2 : k' = k <;> simp [h1, h2]
theorem g_sIR {S : xS} {i k j : Nat} {x : Int32} : gR (sI S i k x) j = gR S j := rfl
theorem g_sRI {S : xS} {i j k : Nat} {f : Nat → Int32} : gI (sR S i f) j k = gI S j k := rfl
theorem g_sR {S : xS} {i j : Nat} {f : Nat → Int32} : gR (sR S i f) j = if j = i then f else gR S j := by
  unfold gR sR va_up
  by_cases h1 : j = i <;> simp [h1]
theorem x_putSt_0 {x : Int32} (h : kSt i) : va_up (xe aC ad S c0) i (.inr (3, [.int (gI S i 0), .int (gI S i 1), .int (gI S i 2), .int (gI S i 3), .int (gI S i 4), .int (gI S i 5), .int (gI S i 6), .ref (ad (i + 1))].set 0 (.int x))) = xe aC ad (sI S i 0 x) c0 := by
  refine x_upI (by rw [x_St h]; simp [gI, sI, va_up, upd])
theorem x_putSt_1 {x : Int32} (h : kSt i) : va_up (xe aC ad S c0) i (.inr (3, [.int (gI S i 0), .int (gI S i 1), .int (gI S i 2), .int (gI S i 3), .int (gI S i 4), .int (gI S i 5), .int (gI S i 6), .ref (ad (i + 1))].set 1 (.int x))) = xe aC ad (sI S i 1 x) c0 := by
  refine x_upI (by rw [x_St h]; simp [gI, sI, va_up, upd])
theorem x_putSt_2 {x : Int32} (h : kSt i) : va_up (xe aC ad S c0) i (.inr (3, [.int (gI S i 0), .int (gI S i 1), .int (gI S i 2), .int (gI S i 3), .int (gI S i 4), .int (gI S i 5), .int (gI S i 6), .ref (ad (i + 1))].set 2 (.int x))) = xe aC ad (sI S i 2 x) c0 := by
  refine x_upI (by rw [x_St h]; simp [gI, sI, va_up, upd])
theorem x_putSt_3 {x : Int32} (h : kSt i) : va_up (xe aC ad S c0) i (.inr (3, [.int (gI S i 0), .int (gI S i 1), .int (gI S i 2), .int (gI S i 3), .int (gI S i 4), .int (gI S i 5), .int (gI S i 6), .ref (ad (i + 1))].set 3 (.int x))) = xe aC ad (sI S i 3 x) c0 := by
  refine x_upI (by rw [x_St h]; simp [gI, sI, va_up, upd])
theorem x_putSt_4 {x : Int32} (h : kSt i) : va_up (xe aC ad S c0) i (.inr (3, [.int (gI S i 0), .int (gI S i 1), .int (gI S i 2), .int (gI S i 3), .int (gI S i 4), .int (gI S i 5), .int (gI S i 6), .ref (ad (i + 1))].set 4 (.int x))) = xe aC ad (sI S i 4 x) c0 := by
  refine x_upI (by rw [x_St h]; simp [gI, sI, va_up, upd])
theorem x_putSt_5 {x : Int32} (h : kSt i) : va_up (xe aC ad S c0) i (.inr (3, [.int (gI S i 0), .int (gI S i 1), .int (gI S i 2), .int (gI S i 3), .int (gI S i 4), .int (gI S i 5), .int (gI S i 6), .ref (ad (i + 1))].set 5 (.int x))) = xe aC ad (sI S i 5 x) c0 := by
  refine x_upI (by rw [x_St h]; simp [gI, sI, va_up, upd])
theorem x_putSt_6 {x : Int32} (h : kSt i) : va_up (xe aC ad S c0) i (.inr (3, [.int (gI S i 0), .int (gI S i 1), .int (gI S i 2), .int (gI S i 3), .int (gI S i 4), .int (gI S i 5), .int (gI S i 6), .ref (ad (i + 1))].set 6 (.int x))) = xe aC ad (sI S i 6 x) c0 := by
  refine x_upI (by rw [x_St h]; simp [gI, sI, va_up, upd])
theorem x_putNt_0 {x : Int32} (h : kNt i) : va_up (xe aC ad S c0) i (.inr (2, [.int (gI S i 0), .int (gI S i 1), .int (gI S i 2), .int (gI S i 3), .int (gI S i 4), .int (gI S i 5), .int (gI S i 6), .ref (ad (i + 1)), .ref (ad (i + 2)), .int (gI S i 9)].set 0 (.int x))) = xe aC ad (sI S i 0 x) c0 := by
  refine x_upI (by rw [x_Nt h]; simp [gI, sI, va_up, upd])
theorem x_putNt_1 {x : Int32} (h : kNt i) : va_up (xe aC ad S c0) i (.inr (2, [.int (gI S i 0), .int (gI S i 1), .int (gI S i 2), .int (gI S i 3), .int (gI S i 4), .int (gI S i 5), .int (gI S i 6), .ref (ad (i + 1)), .ref (ad (i + 2)), .int (gI S i 9)].set 1 (.int x))) = xe aC ad (sI S i 1 x) c0 := by
  refine x_upI (by rw [x_Nt h]; simp [gI, sI, va_up, upd])
theorem x_putNt_2 {x : Int32} (h : kNt i) : va_up (xe aC ad S c0) i (.inr (2, [.int (gI S i 0), .int (gI S i 1), .int (gI S i 2), .int (gI S i 3), .int (gI S i 4), .int (gI S i 5), .int (gI S i 6), .ref (ad (i + 1)), .ref (ad (i + 2)), .int (gI S i 9)].set 2 (.int x))) = xe aC ad (sI S i 2 x) c0 := by
  refine x_upI (by rw [x_Nt h]; simp [gI, sI, va_up, upd])
theorem x_putNt_3 {x : Int32} (h : kNt i) : va_up (xe aC ad S c0) i (.inr (2, [.int (gI S i 0), .int (gI S i 1), .int (gI S i 2), .int (gI S i 3), .int (gI S i 4), .int (gI S i 5), .int (gI S i 6), .ref (ad (i + 1)), .ref (ad (i + 2)), .int (gI S i 9)].set 3 (.int x))) = xe aC ad (sI S i 3 x) c0 := by
  refine x_upI (by rw [x_Nt h]; simp [gI, sI, va_up, upd])
theorem x_putNt_4 {x : Int32} (h : kNt i) : va_up (xe aC ad S c0) i (.inr (2, [.int (gI S i 0), .int (gI S i 1), .int (gI S i 2), .int (gI S i 3), .int (gI S i 4), .int (gI S i 5), .int (gI S i 6), .ref (ad (i + 1)), .ref (ad (i + 2)), .int (gI S i 9)].set 4 (.int x))) = xe aC ad (sI S i 4 x) c0 := by
  refine x_upI (by rw [x_Nt h]; simp [gI, sI, va_up, upd])
theorem x_putNt_5 {x : Int32} (h : kNt i) : va_up (xe aC ad S c0) i (.inr (2, [.int (gI S i 0), .int (gI S i 1), .int (gI S i 2), .int (gI S i 3), .int (gI S i 4), .int (gI S i 5), .int (gI S i 6), .ref (ad (i + 1)), .ref (ad (i + 2)), .int (gI S i 9)].set 5 (.int x))) = xe aC ad (sI S i 5 x) c0 := by
  refine x_upI (by rw [x_Nt h]; simp [gI, sI, va_up, upd])
theorem x_putNt_6 {x : Int32} (h : kNt i) : va_up (xe aC ad S c0) i (.inr (2, [.int (gI S i 0), .int (gI S i 1), .int (gI S i 2), .int (gI S i 3), .int (gI S i 4), .int (gI S i 5), .int (gI S i 6), .ref (ad (i + 1)), .ref (ad (i + 2)), .int (gI S i 9)].set 6 (.int x))) = xe aC ad (sI S i 6 x) c0 := by
  refine x_upI (by rw [x_Nt h]; simp [gI, sI, va_up, upd])
theorem x_putNt_9 {x : Int32} (h : kNt i) : va_up (xe aC ad S c0) i (.inr (2, [.int (gI S i 0), .int (gI S i 1), .int (gI S i 2), .int (gI S i 3), .int (gI S i 4), .int (gI S i 5), .int (gI S i 6), .ref (ad (i + 1)), .ref (ad (i + 2)), .int (gI S i 9)].set 9 (.int x))) = xe aC ad (sI S i 9 x) c0 := by
  refine x_upI (by rw [x_Nt h]; simp [gI, sI, va_up, upd])
theorem x_putRM_4 {x : Int32} : va_up (xe aC ad S c0) 0 (.inr (5, [.ref (ad 1), .ref (ad 104), .ref (ad 122), .ref (ad 123), .int (gI S 0 4), .int (gI S 0 5)].set 4 (.int x))) = xe aC ad (sI S 0 4 x) c0 := by
  refine x_upI (by rw [x_RM]; simp [gI, sI, va_up, upd, gN])
theorem x_putRM_5 {x : Int32} : va_up (xe aC ad S c0) 0 (.inr (5, [.ref (ad 1), .ref (ad 104), .ref (ad 122), .ref (ad 123), .int (gI S 0 4), .int (gI S 0 5)].set 5 (.int x))) = xe aC ad (sI S 0 5 x) c0 := by
  refine x_upI (by rw [x_RM]; simp [gI, sI, va_up, upd, gN])
theorem x_putMa_4 {x : Int32} : va_up (xe aC ad S c0) 1 (.inr (1, [.ref (ad 2), .ref (ad 3), .ref (ad 4), .ref (ad 6), .int (gI S 1 4), .ref (ad (iN (gN S)))].set 4 (.int x))) = xe aC ad (sI S 1 4 x) c0 := by
  refine x_upI (by rw [x_Ma]; simp [gI, sI, va_up, upd, gN])
theorem x_putUn_1 {x : Int32} : va_up (xe aC ad S c0) 6 (.inr (4, [.ref (ad 7), .int (gI S 6 1), .int (gI S 6 2)].set 1 (.int x))) = xe aC ad (sI S 6 1 x) c0 := by
  refine x_upI (by rw [x_Un]; simp [gI, sI, va_up, upd, gN])
theorem x_putUn_2 {x : Int32} : va_up (xe aC ad S c0) 6 (.inr (4, [.ref (ad 7), .int (gI S 6 1), .int (gI S 6 2)].set 2 (.int x))) = xe aC ad (sI S 6 2 x) c0 := by
  refine x_upI (by rw [x_Un]; simp [gI, sI, va_up, upd, gN])
theorem x_putCp_1 {x : Int32} : va_up (xe aC ad S c0) 104 (.inr (0, [.ref (ad 105), .int (gI S 104 1), .int (gI S 104 2)].set 1 (.int x))) = xe aC ad (sI S 104 1 x) c0 := by
  refine x_upI (by rw [x_Cp]; simp [gI, sI, va_up, upd, gN])
theorem x_putCp_2 {x : Int32} : va_up (xe aC ad S c0) 104 (.inr (0, [.ref (ad 105), .int (gI S 104 1), .int (gI S 104 2)].set 2 (.int x))) = xe aC ad (sI S 104 2 x) c0 := by
  refine x_upI (by rw [x_Cp]; simp [gI, sI, va_up, upd, gN])
theorem x_putMa_5 {k : Nat} : va_up (xe aC ad S c0) 1 (.inr (1, [.ref (ad 2), .ref (ad 3), .ref (ad 4), .ref (ad 6), .int (gI S 1 4), .ref (ad (iN (gN S)))].set 5 (.ref (ad (iN k))))) = xe aC ad (sN S k) c0 := by
  funext j
  by_cases hj : j = 1
  · subst hj; rw [x_Ma]; simp [va_up, gI, sN, gN, iN_mod]
  · show (if j = 1 then _ else xe aC ad S c0 j) = xe aC ad (sN S k) c0 j
    rw [if_neg hj]
    unfold xe
    show xc aC ad j (gI S j) (gR S j) (gK S) (gN S) (c0 j) = xc aC ad j (gI S j) (gR S j) (gK S) (gN (sN S k)) (c0 j)
    unfold xc
    rw [if_neg hj, if_neg hj]
theorem x_ast_code {f : Nat → Int32} : va_up (xe aC ad S c0) 2 (.inl (aC 0, 64, .inl f)) = xe aC ad (sR S 2 f) c0 := x_upR (by rw [x_code]; simp [gR, sR, va_up])
theorem x_ast_inp {f : Nat → Int32} : va_up (xe aC ad S c0) 3 (.inl (aC 0, 40, .inl f)) = xe aC ad (sR S 3 f) c0 := x_upR (by rw [x_inp]; simp [gR, sR, va_up])
theorem x_ast_brk {f : Nat → Int32} : va_up (xe aC ad S c0) 122 (.inl (aC 1, 64, .inl f)) = xe aC ad (sR S 122 f) c0 := x_upR (by rw [x_brk]; simp [gR, sR, va_up])
theorem x_ast_wat {f : Nat → Int32} : va_up (xe aC ad S c0) 123 (.inl (aC 1, 32, .inl f)) = xe aC ad (sR S 123 f) c0 := x_upR (by rw [x_wat]; simp [gR, sR, va_up])
theorem x_ast_mem {f : Nat → Int32} (h : kSt i) : va_up (xe aC ad S c0) (i + 1) (.inl (aC 0, 56, .inl f)) = xe aC ad (sR S (i + 1) f) c0 := x_upR (by rw [x_mem h]; simp [gR, sR, va_up])
theorem x_ast_pl {f : Nat → Int32} (h : kNt i) : va_up (xe aC ad S c0) (i + 1) (.inl (aC 0, 2, .inl f)) = xe aC ad (sR S (i + 1) f) c0 := x_upR (by rw [x_pl h]; simp [gR, sR, va_up])
theorem x_ast_wd {f : Nat → Int32} (h : kNt i) : va_up (xe aC ad S c0) (i + 2) (.inl (aC 0, 2, .inl f)) = xe aC ad (sR S (i + 2) f) c0 := x_upR (by rw [x_wd h]; simp [gR, sR, va_up])
end XW
end
section
theorem k_lt {i n : Nat} (h : kSt i) (hn : 124 ≤ n) : i < n := by unfold kSt at h; omega
theorem k_lt1 {i n : Nat} (h : kSt i) (hn : 124 ≤ n) : i + 1 < n := by unfold kSt at h; omega
theorem k_ltN {i n : Nat} (h : kNt i) (hn : 124 ≤ n) : i < n := by unfold kNt at h; omega
theorem k_ltN1 {i n : Nat} (h : kNt i) (hn : 124 ≤ n) : i + 1 < n := by unfold kNt at h; omega
theorem k_ltN2 {i n : Nat} (h : kNt i) (hn : 124 ≤ n) : i + 2 < n := by unfold kNt at h; omega
theorem iS_mod (k : Nat) : iS (k % 8) = iS k := by unfold iS; omega
section XR
variable {p : Program} {l : Launch} {e : Env} {R : Room} {s : State} {m : MethodId} {args : Array Value} {below : List Frame} {meth : Method} {cd : Code} {Q : State → Prop} {cells slots : Nat}
variable {cc : ByteArray} {Ts : List Cond} {own : String} {G : (Nat → Prop) → State → Prop} {D : va_G} {A : Nat → Prop} {ad : Nat → Nat} {n nL : Nat} {c : Nat → va_E} {pc : Nat} {L : List (Nat × Value)} {st : List Value} {cl : List vw_C} {tys : List (ClassId × FieldType)}
variable {aC : Nat → ClassId} {S : xS} {c0 : Nat → va_E}
theorem j_st {st' : List Value} (h : st = st') (kk : px_J p l e R s m args below meth cd D cl A ad n nL cells slots Q c pc L st') : px_J p l e R s m args below meth cd D cl A ad n nL cells slots Q c pc L st := h ▸ kk
theorem x_gen {T : xS} (kk : ∀ S' : xS, S' = T → px_J p l e R s m args below meth cd D cl A ad n nL cells slots Q (xe aC ad S' c0) pc L st) : px_J p l e R s m args below meth cd D cl A ad n nL cells slots Q (xe aC ad T c0) pc L st := kk T rfl
theorem vp_lt {x : Int32} {k : Nat} (h : vp_in x k) : x.toNatClampNeg < k := by
  unfold vp_in at h
  omega
theorem x_aald_notes (X : px_X p s m args cd cc nL Ts own G D cl tys A ad n) (hn : 124 ≤ n) {C : String} {x : Int32} (hin : vp_in x 32) (hd : decode cc pc = .ok (.aaload, 1)) (ht : tys[2]? = some (aC 2, .object C))
    (kk : px_J p l e R s m args below meth cd D cl A ad n nL cells slots Q (xe aC ad S c0) (pc + 1) L (.ref (ad (iN x.toNatClampNeg)) :: st)) : px_J p l e R s m args below meth cd D cl A ad n nL cells slots Q (xe aC ad S c0) pc L (.int x :: .ref (ad 7) :: st) := by
  refine j_aald (C := C) X 7 2 (by omega) x_notes ht hin hd ?_
  have e : va_rf ((fun q => if q < 32 then some (ad (iN q)) else none) x.toNatClampNeg) = .ref (ad (iN x.toNatClampNeg)) := by
    show va_rf (if x.toNatClampNeg < 32 then some (ad (iN x.toNatClampNeg)) else none) = _
    rw [if_pos (vp_lt hin)]
    rfl
  rw [e]
  exact kk
theorem x_aald_kept (X : px_X p s m args cd cc nL Ts own G D cl tys A ad n) (hn : 124 ≤ n) {C : String} {x : Int32} (hin : vp_in x 8) (hd : decode cc pc = .ok (.aaload, 1)) (ht : tys[3]? = some (aC 3, .object C))
    (kk : px_J p l e R s m args below meth cd D cl A ad n nL cells slots Q (xe aC ad S c0) (pc + 1) L (.ref (ad (iS (gK S x.toNatClampNeg))) :: st)) : px_J p l e R s m args below meth cd D cl A ad n nL cells slots Q (xe aC ad S c0) pc L (.int x :: .ref (ad 105) :: st) := by
  refine j_aald (C := C) X 105 3 (by omega) x_kept ht hin hd ?_
  have e : va_rf ((fun q => if q < 8 then some (ad (iS (gK S q))) else none) x.toNatClampNeg) = .ref (ad (iS (gK S x.toNatClampNeg))) := by
    show va_rf (if x.toNatClampNeg < 8 then some (ad (iS (gK S x.toNatClampNeg))) else none) = _
    rw [if_pos (vp_lt hin)]
    rfl
  rw [e]
  exact kk
theorem x_upK {j k : Nat} (hj : j < 8) : va_up (xe aC ad S c0) 105 (.inl (aC 3, 8, .inr (.inr (.inr (.inr (va_up (fun q => if q < 8 then some (ad (iS (gK S q))) else none) j (some (ad (iS k)))))))) ) = xe aC ad (sK S j k) c0 := by
  funext i
  by_cases hi : i = 105
  · subst hi
    rw [x_kept]
    have e : va_up (fun q => if q < 8 then some (ad (iS (gK S q))) else none) j (some (ad (iS k))) = fun q => if q < 8 then some (ad (iS (gK (sK S j k) q))) else none := by
      funext q
      by_cases hq : q = j
      · subst hq
        simp [va_up, hj, gK, sK, iS_mod]
      · simp [va_up, hq, gK, sK]
    simp [va_up, ← e]
  · show (if i = 105 then _ else xe aC ad S c0 i) = xe aC ad (sK S j k) c0 i
    rw [if_neg hi]
    show xc aC ad i (gI S i) (gR S i) (gK S) (gN S) (c0 i) = xc aC ad i (gI S i) (gR S i) (gK (sK S j k)) (gN S) (c0 i)
    unfold xc
    simp [hi]
theorem x_aast_kept (X : px_X p s m args cd cc nL Ts own G D cl tys A ad n) (hn : 124 ≤ n) {r : vw_C} {k ci : Nat} {vs : List Value} {x : Int32} (hin : vp_in x 8) (hd : decode cc pc = .ok (.aastore, 1)) (ht : tys[3]? = some (aC 3, .object r.1)) (hv : xe aC ad S c0 (iS k) = .inr (ci, vs)) (hc : cl[ci]? = some r)
    (kk : px_J p l e R s m args below meth cd D cl A ad n nL cells slots Q (xe aC ad (sK S x.toNatClampNeg k) c0) (pc + 1) L st) : px_J p l e R s m args below meth cd D cl A ad n nL cells slots Q (xe aC ad S c0) pc L (.ref (ad (iS k)) :: .int x :: .ref (ad 105) :: st) := by
  refine j_aast X 105 3 (iS k) ci (by omega) (k_lt (k_S k) hn) x_kept ht hv hc hin hd ?_
  rw [x_upK (vp_lt hin)]
  exact kk
theorem x_mmin (X : px_X p s m args cd cc nL Ts own G D cl tys A ad n) {index : Nat} (hm : Cond.methodLink own index Lib.Math.min.name ∈ Ts ∧ Cond.static Lib.Math.min.name ∈ Ts ∧ Cond.initialized "java/lang/Math" ∈ Ts ∧ Cond.code Lib.Math.min.name Lib.Math.min.code 2 (some .int) ∈ Ts) {x y : Int32} (hd : decode cc pc = .ok (.invokestatic index, 3))
    (hfr : 1 ≤ R.frames) (hlo : (st.map fun v => v.category).sum + 13 ≤ R.locals) (hc : cells ≤ R.cells) (hs : slots ≤ R.slots)
    (kk : px_J p l e R s m args below meth cd D cl A ad n nL cells slots Q c (pc + 3) L (.int (if y < x then y else x) :: st)) : px_J p l e R s m args below meth cd D cl A ad n nL cells slots Q c pc L (.int y :: .int x :: st) :=
  fun ls H locs h1 h2 h3 => va_mmin X.1.1 X.1.2.1 (X.1.2.2.1.trans h1.1.symm) X.1.2.2.2.1 (X.1.2.2.2.2 _ hm.1) (X.1.2.2.2.2 _ hm.2.1) (X.1.2.2.2.2 _ hm.2.2.1) (X.1.2.2.2.2 _ hm.2.2.2) hfr hlo hc hs hd (kk ls H locs h1 h2 h3)
theorem x_copy (X : px_X p s m args cd cc nL Ts own G D cl tys A ad n) {index : Nat} (hm : Cond.methodLink own index arraycopyName ∈ Ts ∧ Cond.native arraycopyName ∈ Ts ∧ Cond.static arraycopyName ∈ Ts ∧ Cond.initialized "java/lang/System" ∈ Ts) (i j : Nat) (hi : i < n) (hj : j < n) {cA : ClassId} {f g : Nat → Int32} (he : c i = .inl (cA, 56, .inl f)) (hg : c j = .inl (cA, 56, .inl g)) (ht : tys[0]? = some (cA, .int)) (hd : decode cc pc = .ok (.invokestatic index, 3))
    (hfr : 1 ≤ R.frames) (hlo : (st.map fun v => v.category).sum + (nativeFrameWords "java/lang/System" "arraycopy" 5 + 11) ≤ R.locals)
    (kk : px_J p l e R s m args below meth cd D cl A ad n nL cells slots Q (va_up c j (.inl (cA, 56, .inl (va_cpy f g 0 0 56)))) (pc + 3) L st) : px_J p l e R s m args below meth cd D cl A ad n nL cells slots Q c pc L (.int 56 :: .int 0 :: .ref (ad j) :: .int 0 :: .ref (ad i) :: st) := by
  intro ls H locs h1 h2 h3
  refine va_copyi (ty := .int) X.1.1 X.1.2.1 (X.1.2.2.1.trans h1.1.symm) X.1.2.2.2.1 (X.1.2.2.2.2 _ hm.1) (X.1.2.2.2.2 _ hm.2.1) (X.1.2.2.2.2 _ hm.2.2.1) (X.1.2.2.2.2 _ hm.2.2.2) X.2.1 h2 (px_D X.2.2.1 X.2.2.2.1) h3 i j 0 0 (by rw [px_at hi, he]) (by rw [px_at hj, hg]) ht ht rfl (by decide) (by decide) (by decide) (by decide) (by decide) (fun _ _ => rfl) hfr hlo hd (fun H1 locs1 g1 _ g3 => ?_)
  rw [px_set hj] at g1
  exact kk ls H1 locs1 h1 g1 g3
end XR
end
section
/-! what stays everywhere: links within the nest, the two static tables -/
def tNeeds (j : Nat) : Int32 := ([0, 0, 1, 1, 2, 2, 2, 2, 2, 2, 1, 2, 0, 1, 1, 0, 1, 0, 0, 0, 0] : List Int32).getD j 0
def tGrows (j : Nat) : Int32 := ([0, 1, -1, 1, 0, -1, -1, -1, -1, -1, 0, -2, 0, -1, -1, 2, 0, 1, 1, 1, 1] : List Int32).getD j 0
def gl_stat (nm : String) (f : Nat → Int32) (A : Nat → Prop) (U : State) (H : Heap) : Prop := ∃ t : Nat, va_Z "ReplayMachine$Machine" nm "[I" (.ref t) A U H ∧ va_T .int t 21 (fun j => .int (f j)) A U H
def gl_thr (A : Nat → Prop) (U : State) : Prop := True
def GG (A : Nat → Prop) (U : State) : Prop :=
  va_Nw (.methodLinkNest "ReplayMachine$Machine" 49 y_RM_within "ReplayMachine") U ∧ va_Nw (.methodLinkNest "ReplayMachine$State" 32 y_RM_within "ReplayMachine") U ∧ gl_stat "NEEDS" tNeeds A U U.heap ∧ gl_stat "GROWS" tGrows A U U.heap ∧ gl_thr A U
theorem gl_Zn {C n d : String} {v : Value} {A B : Nat → Prop} {U : State} {H : Heap} (h : va_Z C n d v A U H) (hAB : ∀ q, B q → A q) : va_Z C n d v B U H := by
  obtain ⟨cf, kf, fi, f, a, cell, h1, h2, h3, h4, h5, h6, h7, h8⟩ := h
  exact ⟨cf, kf, fi, f, a, cell, h1, h2, h3, h4, h5, h6, h7, fun z => h8 (hAB a z)⟩
theorem gl_Zk {C n d : String} {v : Value} {A : Nat → Prop} {U : State} {H H1 : Heap} (h : va_Z C n d v A U H) (hq : ∀ a : Nat, a < H.size → ¬ A a → H1[a]? = H[a]?) : va_Z C n d v A U H1 := by
  obtain ⟨cf, kf, fi, f, a, cell, h1, h2, h3, h4, h5, h6, h7, h8⟩ := h
  exact ⟨cf, kf, fi, f, a, cell, h1, h2, h3, h4, by rw [hq a (Array.getElem?_eq_some_iff.mp h5).1 h8]; exact h5, h6, h7, h8⟩
theorem gl_stat_mv {nm : String} {f : Nat → Int32} {A A' : Nat → Prop} {s U : State} {H : Heap} {locs : List Loc} (h : gl_stat nm f A s s.heap) (hS : va_S A s.heap H locs) (hA : ∀ q, A' q → A q) (hv : s.vm.Alike U.vm) : gl_stat nm f A' U H := by
  obtain ⟨t, h1, h2⟩ := h
  exact ⟨t, gl_Zn (gl_Zk (va_Z.moved hv h1) hS.2.1) hA, va_T.narrow (va_T.kept (va_T.moved hv h2) hS.2.1) hA⟩
theorem GG_k : px_Gk GG := by
  refine ⟨fun A U g mk a h => ?_, fun A A' s U H locs h hS hA hW hU => ?_⟩
  · obtain ⟨h1, h2, ⟨t3, a3, b3⟩, ⟨t4, a4, b4⟩, h5⟩ := h
    exact ⟨va_Nw.same rfl rfl h1, va_Nw.same rfl rfl h2, ⟨t3, va_Z.moved (u := U) (U := U.calling g mk a) (Vm.Alike.refl U.vm) a3, va_T.moved (u := U) (U := U.calling g mk a) (Vm.Alike.refl U.vm) b3⟩, ⟨t4, va_Z.moved (u := U) (U := U.calling g mk a) (Vm.Alike.refl U.vm) a4, va_T.moved (u := U) (U := U.calling g mk a) (Vm.Alike.refl U.vm) b4⟩, h5⟩
  · obtain ⟨h1, h2, h3, h4, h5⟩ := h
    subst hU
    exact ⟨va_Nw.warmM hW h1, va_Nw.warmM hW h2, gl_stat_mv h3 hS hA hW.alike, gl_stat_mv h4 hS hA hW.alike, h5⟩
abbrev TYS (aC : Nat → ClassId) : List (ClassId × FieldType) := [(aC 0, .int), (aC 1, .boolean), (aC 2, .object "ReplayMachine$Note"), (aC 3, .object "ReplayMachine$State"), (aC 4, .long)]
section GR
variable {p : Program} {l : Launch} {e : Env} {R : Room} {s : State} {m : MethodId} {args : Array Value} {below : List Frame} {meth : Method} {cd : Code} {Q : State → Prop} {cells slots : Nat}
variable {cc : ByteArray} {Ts : List Cond} {own : String} {G : (Nat → Prop) → State → Prop} {D : va_G} {A : Nat → Prop} {ad : Nat → Nat} {n nL : Nat} {c : Nat → va_E} {pc : Nat} {L : List (Nat × Value)} {st : List Value} {cl : List vw_C} {tys : List (ClassId × FieldType)}
theorem j_L {L' : List (Nat × Value)} (h : L = L') (kk : px_J p l e R s m args below meth cd D cl A ad n nL cells slots Q c pc L' st) : px_J p l e R s m args below meth cd D cl A ad n nL cells slots Q c pc L st := h ▸ kk
theorem z_L {L' : List (Nat × Value)} (h : L = L') (kk : px_Z p l e R s m args below meth cd nL Q pc L' st) : px_Z p l e R s m args below meth cd nL Q pc L st := h ▸ kk
theorem z_st {st' : List Value} (h : st = st') (kk : px_Z p l e R s m args below meth cd nL Q pc L st') : px_Z p l e R s m args below meth cd nL Q pc L st := h ▸ kk
theorem j_gets (X : px_X p s m args cd cc nL Ts own G D cl tys A ad n) {nm d : String} {v : Value} {index : Nat} (hZ : va_Z own nm d v A s s.heap) (hl : Cond.fieldLink own index own nm d ∈ Ts) (hd : decode cc pc = .ok (.getstatic index, 3))
    (kk : px_J p l e R s m args below meth cd D cl A ad n nL cells slots Q c (pc + 3) L (v :: st)) : px_J p l e R s m args below meth cd D cl A ad n nL cells slots Q c pc L st :=
  fun ls H locs h1 h2 h3 => va_gets X.1.1 X.1.2.1 hZ h3 X.1.2.2.2.1 (X.1.2.2.2.2 _ hl) (fun _ h => h) hd (kk ls H locs h1 h2 h3)
theorem j_ti (X : px_X p s m args cd cc nL Ts own G D cl tys A ad n) {t N : Nat} {f : Nat → Int32} (hT : va_T .int t N (fun j => .int (f j)) A s s.heap) {x : Int32} (hin : vp_in x N) (hd : decode cc pc = .ok (.iaload, 1))
    (kk : px_J p l e R s m args below meth cd D cl A ad n nL cells slots Q c (pc + 1) L (.int (f x.toNatClampNeg) :: st)) : px_J p l e R s m args below meth cd D cl A ad n nL cells slots Q c pc L (.int x :: .ref t :: st) :=
  fun ls H locs h1 h2 h3 => va_ti X.1.1 X.1.2.1 hT h3 hin rfl hd (kk ls H locs h1 h2 h3)
end GR
def sZ (S : xS) (i : Nat) (j x : Int32) : xS := sR S i (upd (gR S i) j.toNatClampNeg (vp_nar .boolean x))
end
