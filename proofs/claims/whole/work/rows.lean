section
-- ===== PART A: goes FIRST, ahead of the names: the tables' words, and 'selects' of the private methods out of them =====
/-- a private method of a class that the tables say can be made, by its rows of tables_1 -/
def lw_okq (q : MethodName × Nat) : Prop := (q.1.cls ≠ "java/lang/invoke/MethodHandle" ∧ q.1.cls ≠ "java/lang/invoke/VarHandle") ∧ Cond.instantiable q.1.cls q.2 ∈ tables_1 ∧ Cond.privateMethod q.1 ∈ tables_1 ∧ Cond.instanceMethod q.1 ∈ tables_1
theorem lw_p0 : lw_okq (⟨"ReplayMachine", "advance", "()I"⟩, 6) := ⟨⟨by decide +kernel, by decide +kernel⟩, List.mem_of_getElem? (i := 18) (by decide +kernel), List.mem_of_getElem? (i := 212) (by decide +kernel), List.mem_of_getElem? (i := 213) (by decide +kernel)⟩
theorem lw_p1 : lw_okq (⟨"ReplayMachine$Machine", "hasTooFew", "(II)Z"⟩, 6) := ⟨⟨by decide +kernel, by decide +kernel⟩, List.mem_of_getElem? (i := 26) (by decide +kernel), List.mem_of_getElem? (i := 223) (by decide +kernel), List.mem_of_getElem? (i := 224) (by decide +kernel)⟩
theorem lw_p2 : lw_okq (⟨"ReplayMachine$Machine", "argumentPlace", "(I)I"⟩, 6) := ⟨⟨by decide +kernel, by decide +kernel⟩, List.mem_of_getElem? (i := 26) (by decide +kernel), List.mem_of_getElem? (i := 227) (by decide +kernel), List.mem_of_getElem? (i := 228) (by decide +kernel)⟩
theorem lw_p3 : lw_okq (⟨"ReplayMachine$Machine", "fromTop", "(I)I"⟩, 6) := ⟨⟨by decide +kernel, by decide +kernel⟩, List.mem_of_getElem? (i := 26) (by decide +kernel), List.mem_of_getElem? (i := 233) (by decide +kernel), List.mem_of_getElem? (i := 234) (by decide +kernel)⟩
theorem lw_p4 : lw_okq (⟨"ReplayMachine$Machine", "push", "(I)V"⟩, 6) := ⟨⟨by decide +kernel, by decide +kernel⟩, List.mem_of_getElem? (i := 26) (by decide +kernel), List.mem_of_getElem? (i := 265) (by decide +kernel), List.mem_of_getElem? (i := 266) (by decide +kernel)⟩
theorem lw_p5 : lw_okq (⟨"ReplayMachine$Machine", "put", "(II)V"⟩, 6) := ⟨⟨by decide +kernel, by decide +kernel⟩, List.mem_of_getElem? (i := 26) (by decide +kernel), List.mem_of_getElem? (i := 269) (by decide +kernel), List.mem_of_getElem? (i := 270) (by decide +kernel)⟩
theorem lw_p6 : lw_okq (⟨"ReplayMachine$Machine", "exchange", "()V"⟩, 6) := ⟨⟨by decide +kernel, by decide +kernel⟩, List.mem_of_getElem? (i := 26) (by decide +kernel), List.mem_of_getElem? (i := 277) (by decide +kernel), List.mem_of_getElem? (i := 278) (by decide +kernel)⟩
theorem lw_p7 : lw_okq (⟨"ReplayMachine$Machine", "replaceTwo", "(I)V"⟩, 6) := ⟨⟨by decide +kernel, by decide +kernel⟩, List.mem_of_getElem? (i := 26) (by decide +kernel), List.mem_of_getElem? (i := 284) (by decide +kernel), List.mem_of_getElem? (i := 285) (by decide +kernel)⟩
theorem lw_p8 : lw_okq (⟨"ReplayMachine$Machine", "load", "()V"⟩, 6) := ⟨⟨by decide +kernel, by decide +kernel⟩, List.mem_of_getElem? (i := 26) (by decide +kernel), List.mem_of_getElem? (i := 288) (by decide +kernel), List.mem_of_getElem? (i := 289) (by decide +kernel)⟩
theorem lw_p9 : lw_okq (⟨"ReplayMachine$Machine", "store", "()V"⟩, 6) := ⟨⟨by decide +kernel, by decide +kernel⟩, List.mem_of_getElem? (i := 26) (by decide +kernel), List.mem_of_getElem? (i := 292) (by decide +kernel), List.mem_of_getElem? (i := 293) (by decide +kernel)⟩
theorem lw_p10 : lw_okq (⟨"ReplayMachine$Machine", "jumpIf", "(ZI)V"⟩, 6) := ⟨⟨by decide +kernel, by decide +kernel⟩, List.mem_of_getElem? (i := 26) (by decide +kernel), List.mem_of_getElem? (i := 296) (by decide +kernel), List.mem_of_getElem? (i := 297) (by decide +kernel)⟩
theorem lw_p11 : lw_okq (⟨"ReplayMachine$Machine", "enter", "(I)V"⟩, 6) := ⟨⟨by decide +kernel, by decide +kernel⟩, List.mem_of_getElem? (i := 26) (by decide +kernel), List.mem_of_getElem? (i := 300) (by decide +kernel), List.mem_of_getElem? (i := 301) (by decide +kernel)⟩
theorem lw_p12 : lw_okq (⟨"ReplayMachine$Machine", "leave", "()V"⟩, 6) := ⟨⟨by decide +kernel, by decide +kernel⟩, List.mem_of_getElem? (i := 26) (by decide +kernel), List.mem_of_getElem? (i := 304) (by decide +kernel), List.mem_of_getElem? (i := 305) (by decide +kernel)⟩
theorem lw_p13 : lw_okq (⟨"ReplayMachine$Machine", "takeInput", "()V"⟩, 6) := ⟨⟨by decide +kernel, by decide +kernel⟩, List.mem_of_getElem? (i := 26) (by decide +kernel), List.mem_of_getElem? (i := 308) (by decide +kernel), List.mem_of_getElem? (i := 309) (by decide +kernel)⟩
theorem lw_p14 : lw_okq (⟨"ReplayMachine$Machine", "pushRandom", "(I)V"⟩, 6) := ⟨⟨by decide +kernel, by decide +kernel⟩, List.mem_of_getElem? (i := 26) (by decide +kernel), List.mem_of_getElem? (i := 312) (by decide +kernel), List.mem_of_getElem? (i := 313) (by decide +kernel)⟩
theorem lw_p15 : lw_okq (⟨"ReplayMachine$Checkpoints", "isMultiple", "(I)Z"⟩, 3) := ⟨⟨by decide +kernel, by decide +kernel⟩, List.mem_of_getElem? (i := 158) (by decide +kernel), List.mem_of_getElem? (i := 321) (by decide +kernel), List.mem_of_getElem? (i := 322) (by decide +kernel)⟩
def lw_privs_1 : List (MethodName × Nat) := [(⟨"ReplayMachine", "advance", "()I"⟩, 6), (⟨"ReplayMachine$Machine", "hasTooFew", "(II)Z"⟩, 6), (⟨"ReplayMachine$Machine", "argumentPlace", "(I)I"⟩, 6), (⟨"ReplayMachine$Machine", "fromTop", "(I)I"⟩, 6), (⟨"ReplayMachine$Machine", "push", "(I)V"⟩, 6), (⟨"ReplayMachine$Machine", "put", "(II)V"⟩, 6), (⟨"ReplayMachine$Machine", "exchange", "()V"⟩, 6), (⟨"ReplayMachine$Machine", "replaceTwo", "(I)V"⟩, 6), (⟨"ReplayMachine$Machine", "load", "()V"⟩, 6), (⟨"ReplayMachine$Machine", "store", "()V"⟩, 6), (⟨"ReplayMachine$Machine", "jumpIf", "(ZI)V"⟩, 6), (⟨"ReplayMachine$Machine", "enter", "(I)V"⟩, 6), (⟨"ReplayMachine$Machine", "leave", "()V"⟩, 6), (⟨"ReplayMachine$Machine", "takeInput", "()V"⟩, 6), (⟨"ReplayMachine$Machine", "pushRandom", "(I)V"⟩, 6), (⟨"ReplayMachine$Checkpoints", "isMultiple", "(I)Z"⟩, 3)]
theorem lw_r1 : ∀ q ∈ lw_privs_1, lw_okq q := List.forall_mem_cons.mpr ⟨lw_p0, List.forall_mem_cons.mpr ⟨lw_p1, List.forall_mem_cons.mpr ⟨lw_p2, List.forall_mem_cons.mpr ⟨lw_p3, List.forall_mem_cons.mpr ⟨lw_p4, List.forall_mem_cons.mpr ⟨lw_p5, List.forall_mem_cons.mpr ⟨lw_p6, List.forall_mem_cons.mpr ⟨lw_p7, List.forall_mem_cons.mpr ⟨lw_p8, List.forall_mem_cons.mpr ⟨lw_p9, List.forall_mem_cons.mpr ⟨lw_p10, List.forall_mem_cons.mpr ⟨lw_p11, List.forall_mem_cons.mpr ⟨lw_p12, List.forall_mem_cons.mpr ⟨lw_p13, List.forall_mem_cons.mpr ⟨lw_p14, List.forall_mem_cons.mpr ⟨lw_p15, fun _ h => absurd h List.not_mem_nil⟩⟩⟩⟩⟩⟩⟩⟩⟩⟩⟩⟩⟩⟩⟩⟩
theorem lw_p16 : lw_okq (⟨"ReplayMachine$Checkpoints", "thinOut", "()V"⟩, 3) := ⟨⟨by decide +kernel, by decide +kernel⟩, List.mem_of_getElem? (i := 158) (by decide +kernel), List.mem_of_getElem? (i := 325) (by decide +kernel), List.mem_of_getElem? (i := 326) (by decide +kernel)⟩
theorem lw_p17 : lw_okq (⟨"java/lang/Throwable", "fillInStackTrace", "(I)Ljava/lang/Throwable;"⟩, 6) := ⟨⟨by decide +kernel, by decide +kernel⟩, List.mem_of_getElem? (i := 394) (by decide +kernel), List.mem_of_getElem? (i := 392) (by decide +kernel), List.mem_of_getElem? (i := 393) (by decide +kernel)⟩
theorem lw_p18 : lw_okq (⟨"ReplayMachine", "stopHere", "()I"⟩, 6) := ⟨⟨by decide +kernel, by decide +kernel⟩, List.mem_of_getElem? (i := 18) (by decide +kernel), List.mem_of_getElem? (i := 467) (by decide +kernel), List.mem_of_getElem? (i := 468) (by decide +kernel)⟩
theorem lw_p19 : lw_okq (⟨"ReplayMachine", "travel", "(I)V"⟩, 6) := ⟨⟨by decide +kernel, by decide +kernel⟩, List.mem_of_getElem? (i := 18) (by decide +kernel), List.mem_of_getElem? (i := 478) (by decide +kernel), List.mem_of_getElem? (i := 479) (by decide +kernel)⟩
theorem lw_p20 : lw_okq (⟨"ReplayMachineModel", "mark", "()V"⟩, 23) := ⟨⟨by decide +kernel, by decide +kernel⟩, List.mem_of_getElem? (i := 561) (by decide +kernel), List.mem_of_getElem? (i := 567) (by decide +kernel), List.mem_of_getElem? (i := 568) (by decide +kernel)⟩
theorem lw_p21 : lw_okq (⟨"ReplayMachineModel", "advance", "()I"⟩, 23) := ⟨⟨by decide +kernel, by decide +kernel⟩, List.mem_of_getElem? (i := 561) (by decide +kernel), List.mem_of_getElem? (i := 657) (by decide +kernel), List.mem_of_getElem? (i := 658) (by decide +kernel)⟩
theorem lw_p22 : lw_okq (⟨"ReplayMachineModel", "check", "()I"⟩, 23) := ⟨⟨by decide +kernel, by decide +kernel⟩, List.mem_of_getElem? (i := 561) (by decide +kernel), List.mem_of_getElem? (i := 661) (by decide +kernel), List.mem_of_getElem? (i := 662) (by decide +kernel)⟩
theorem lw_p23 : lw_okq (⟨"ReplayMachineModel", "isArgument", "(I)Z"⟩, 23) := ⟨⟨by decide +kernel, by decide +kernel⟩, List.mem_of_getElem? (i := 561) (by decide +kernel), List.mem_of_getElem? (i := 668) (by decide +kernel), List.mem_of_getElem? (i := 669) (by decide +kernel)⟩
theorem lw_p24 : lw_okq (⟨"ReplayMachineModel", "perform", "()V"⟩, 23) := ⟨⟨by decide +kernel, by decide +kernel⟩, List.mem_of_getElem? (i := 561) (by decide +kernel), List.mem_of_getElem? (i := 675) (by decide +kernel), List.mem_of_getElem? (i := 676) (by decide +kernel)⟩
theorem lw_p25 : lw_okq (⟨"ReplayMachineModel", "push", "(I)V"⟩, 23) := ⟨⟨by decide +kernel, by decide +kernel⟩, List.mem_of_getElem? (i := 561) (by decide +kernel), List.mem_of_getElem? (i := 679) (by decide +kernel), List.mem_of_getElem? (i := 680) (by decide +kernel)⟩
theorem lw_p26 : lw_okq (⟨"ReplayMachineModel", "pop", "()I"⟩, 23) := ⟨⟨by decide +kernel, by decide +kernel⟩, List.mem_of_getElem? (i := 561) (by decide +kernel), List.mem_of_getElem? (i := 683) (by decide +kernel), List.mem_of_getElem? (i := 684) (by decide +kernel)⟩
theorem lw_p27 : lw_okq (⟨"ReplayMachineModel", "branch", "(II)V"⟩, 23) := ⟨⟨by decide +kernel, by decide +kernel⟩, List.mem_of_getElem? (i := 561) (by decide +kernel), List.mem_of_getElem? (i := 687) (by decide +kernel), List.mem_of_getElem? (i := 688) (by decide +kernel)⟩
theorem lw_p28 : lw_okq (⟨"ReplayMachineModel", "call", "(I)V"⟩, 23) := ⟨⟨by decide +kernel, by decide +kernel⟩, List.mem_of_getElem? (i := 561) (by decide +kernel), List.mem_of_getElem? (i := 691) (by decide +kernel), List.mem_of_getElem? (i := 692) (by decide +kernel)⟩
theorem lw_p29 : lw_okq (⟨"ReplayMachineModel", "giveBack", "()V"⟩, 23) := ⟨⟨by decide +kernel, by decide +kernel⟩, List.mem_of_getElem? (i := 561) (by decide +kernel), List.mem_of_getElem? (i := 695) (by decide +kernel), List.mem_of_getElem? (i := 696) (by decide +kernel)⟩
theorem lw_p30 : lw_okq (⟨"ReplayMachineModel", "draw", "(I)I"⟩, 23) := ⟨⟨by decide +kernel, by decide +kernel⟩, List.mem_of_getElem? (i := 561) (by decide +kernel), List.mem_of_getElem? (i := 699) (by decide +kernel), List.mem_of_getElem? (i := 700) (by decide +kernel)⟩
theorem lw_p31 : lw_okq (⟨"ReplayMachineModel", "grow", "()V"⟩, 23) := ⟨⟨by decide +kernel, by decide +kernel⟩, List.mem_of_getElem? (i := 561) (by decide +kernel), List.mem_of_getElem? (i := 708) (by decide +kernel), List.mem_of_getElem? (i := 709) (by decide +kernel)⟩
def lw_privs_2 : List (MethodName × Nat) := [(⟨"ReplayMachine$Checkpoints", "thinOut", "()V"⟩, 3), (⟨"java/lang/Throwable", "fillInStackTrace", "(I)Ljava/lang/Throwable;"⟩, 6), (⟨"ReplayMachine", "stopHere", "()I"⟩, 6), (⟨"ReplayMachine", "travel", "(I)V"⟩, 6), (⟨"ReplayMachineModel", "mark", "()V"⟩, 23), (⟨"ReplayMachineModel", "advance", "()I"⟩, 23), (⟨"ReplayMachineModel", "check", "()I"⟩, 23), (⟨"ReplayMachineModel", "isArgument", "(I)Z"⟩, 23), (⟨"ReplayMachineModel", "perform", "()V"⟩, 23), (⟨"ReplayMachineModel", "push", "(I)V"⟩, 23), (⟨"ReplayMachineModel", "pop", "()I"⟩, 23), (⟨"ReplayMachineModel", "branch", "(II)V"⟩, 23), (⟨"ReplayMachineModel", "call", "(I)V"⟩, 23), (⟨"ReplayMachineModel", "giveBack", "()V"⟩, 23), (⟨"ReplayMachineModel", "draw", "(I)I"⟩, 23), (⟨"ReplayMachineModel", "grow", "()V"⟩, 23)]
theorem lw_r2 : ∀ q ∈ lw_privs_2, lw_okq q := List.forall_mem_cons.mpr ⟨lw_p16, List.forall_mem_cons.mpr ⟨lw_p17, List.forall_mem_cons.mpr ⟨lw_p18, List.forall_mem_cons.mpr ⟨lw_p19, List.forall_mem_cons.mpr ⟨lw_p20, List.forall_mem_cons.mpr ⟨lw_p21, List.forall_mem_cons.mpr ⟨lw_p22, List.forall_mem_cons.mpr ⟨lw_p23, List.forall_mem_cons.mpr ⟨lw_p24, List.forall_mem_cons.mpr ⟨lw_p25, List.forall_mem_cons.mpr ⟨lw_p26, List.forall_mem_cons.mpr ⟨lw_p27, List.forall_mem_cons.mpr ⟨lw_p28, List.forall_mem_cons.mpr ⟨lw_p29, List.forall_mem_cons.mpr ⟨lw_p30, List.forall_mem_cons.mpr ⟨lw_p31, fun _ h => absurd h List.not_mem_nil⟩⟩⟩⟩⟩⟩⟩⟩⟩⟩⟩⟩⟩⟩⟩⟩
theorem lw_p32 : lw_okq (⟨"ReplayMachineModel", "remember", "()V"⟩, 23) := ⟨⟨by decide +kernel, by decide +kernel⟩, List.mem_of_getElem? (i := 561) (by decide +kernel), List.mem_of_getElem? (i := 716) (by decide +kernel), List.mem_of_getElem? (i := 717) (by decide +kernel)⟩
theorem lw_p33 : lw_okq (⟨"ReplayMachineModel", "stop", "()I"⟩, 23) := ⟨⟨by decide +kernel, by decide +kernel⟩, List.mem_of_getElem? (i := 561) (by decide +kernel), List.mem_of_getElem? (i := 720) (by decide +kernel), List.mem_of_getElem? (i := 721) (by decide +kernel)⟩
theorem lw_p34 : lw_okq (⟨"ReplayMachineModel", "account", "(I)V"⟩, 23) := ⟨⟨by decide +kernel, by decide +kernel⟩, List.mem_of_getElem? (i := 561) (by decide +kernel), List.mem_of_getElem? (i := 728) (by decide +kernel), List.mem_of_getElem? (i := 729) (by decide +kernel)⟩
theorem lw_p35 : lw_okq (⟨"ReplayMachineModel", "seek", "(I)V"⟩, 23) := ⟨⟨by decide +kernel, by decide +kernel⟩, List.mem_of_getElem? (i := 561) (by decide +kernel), List.mem_of_getElem? (i := 732) (by decide +kernel), List.mem_of_getElem? (i := 733) (by decide +kernel)⟩
theorem lw_p36 : lw_okq (⟨"ReplayMachineModel", "backOne", "()I"⟩, 23) := ⟨⟨by decide +kernel, by decide +kernel⟩, List.mem_of_getElem? (i := 561) (by decide +kernel), List.mem_of_getElem? (i := 740) (by decide +kernel), List.mem_of_getElem? (i := 741) (by decide +kernel)⟩
theorem lw_p37 : lw_okq (⟨"ReplayMachineModel", "fail", "(I)I"⟩, 23) := ⟨⟨by decide +kernel, by decide +kernel⟩, List.mem_of_getElem? (i := 561) (by decide +kernel), List.mem_of_getElem? (i := 767) (by decide +kernel), List.mem_of_getElem? (i := 768) (by decide +kernel)⟩
def lw_privs_3 : List (MethodName × Nat) := [(⟨"ReplayMachineModel", "remember", "()V"⟩, 23), (⟨"ReplayMachineModel", "stop", "()I"⟩, 23), (⟨"ReplayMachineModel", "account", "(I)V"⟩, 23), (⟨"ReplayMachineModel", "seek", "(I)V"⟩, 23), (⟨"ReplayMachineModel", "backOne", "()I"⟩, 23), (⟨"ReplayMachineModel", "fail", "(I)I"⟩, 23)]
theorem lw_r3 : ∀ q ∈ lw_privs_3, lw_okq q := List.forall_mem_cons.mpr ⟨lw_p32, List.forall_mem_cons.mpr ⟨lw_p33, List.forall_mem_cons.mpr ⟨lw_p34, List.forall_mem_cons.mpr ⟨lw_p35, List.forall_mem_cons.mpr ⟨lw_p36, List.forall_mem_cons.mpr ⟨lw_p37, fun _ h => absurd h List.not_mem_nil⟩⟩⟩⟩⟩⟩
def lw_privs : List (MethodName × Nat) := lw_privs_1 ++ (lw_privs_2 ++ (lw_privs_3))
def lw_tbl : List Cond := k2_sels lw_privs ++ tables_1
theorem lw_privs_ok : ∀ q ∈ lw_privs, lw_okq q := by
  show ∀ q ∈ lw_privs_1 ++ (lw_privs_2 ++ (lw_privs_3)), lw_okq q
  exact List.forall_mem_append.mpr ⟨lw_r1, List.forall_mem_append.mpr ⟨lw_r2, lw_r3⟩⟩
end
section
/-! worlds by index: cell i lies at ad i and holds c i (c : Nat → va_E), i < n; the judgement px_J with the heap, the locals and the stack as pure data -/
def px_W (ad : Nat → Nat) (c : Nat → va_E) (n : Nat) : va_W := (List.range n).map (fun i => (ad i, c i))
theorem px_len {ad : Nat → Nat} {c : Nat → va_E} {n : Nat} : (px_W ad c n).length = n := by simp [px_W]
theorem px_at {ad : Nat → Nat} {c : Nat → va_E} {n i : Nat} (h : i < n) : (px_W ad c n)[i]? = some (ad i, c i) := by
  unfold px_W
  rw [List.getElem?_map, List.getElem?_range h]
  rfl
theorem px_inv {ad : Nat → Nat} {c : Nat → va_E} {n k : Nat} {q : Nat × va_E} (h : (px_W ad c n)[k]? = some q) : k < n ∧ q = (ad k, c k) := by
  have hk : k < n := by
    have := (List.getElem?_eq_some_iff.mp h).1
    rwa [px_len] at this
  rw [px_at hk] at h
  exact ⟨hk, (Option.some.inj h).symm⟩
theorem px_set {ad : Nat → Nat} {c : Nat → va_E} {n i : Nat} {e : va_E} (h : i < n) : (px_W ad c n).set i (ad i, e) = px_W ad (va_up c i e) n := by
  apply List.ext_getElem?
  intro j
  by_cases hj : j < n
  · by_cases hji : j = i
    · subst hji
      rw [List.getElem?_set_self (by rw [px_len]; exact hj), px_at hj]
      simp [va_up]
    · rw [List.getElem?_set_ne (Ne.symm hji), px_at hj, px_at hj]
      simp [va_up, hji]
  · rw [List.getElem?_eq_none (by rw [List.length_set, px_len]; omega), List.getElem?_eq_none (by rw [px_len]; omega)]
theorem px_push {ad : Nat → Nat} {c : Nat → va_E} {n q : Nat} {e : va_E} : px_W ad c n ++ [(q, e)] = px_W (va_up ad n q) (va_up c n e) (n + 1) := by
  apply List.ext_getElem?
  intro j
  by_cases hj : j < n
  · rw [List.getElem?_append_left (by rw [px_len]; exact hj), px_at hj, px_at (by omega)]
    have : j ≠ n := by omega
    simp [va_up, this]
  · rw [List.getElem?_append_right (by rw [px_len]; omega), px_len]
    by_cases hjn : j = n
    · subst hjn
      rw [px_at (by omega)]
      simp [va_up]
    · rw [List.getElem?_eq_none (by simp; omega), List.getElem?_eq_none (by rw [px_len]; omega)]
def px_Inj (ad : Nat → Nat) (n : Nat) : Prop := ∀ i j, i < n → j < n → ad i = ad j → i = j
theorem px_D {ad : Nat → Nat} {c : Nat → va_E} {n : Nat} {A : Nat → Prop} (hi : px_Inj ad n) (hA : ∀ i, i < n → A (ad i)) : va_D A (px_W ad c n) := by
  refine ⟨fun i j x y hx hy hxy => ?_, fun k q hk => ?_⟩
  · obtain ⟨h1, rfl⟩ := px_inv hx
    obtain ⟨h2, rfl⟩ := px_inv hy
    exact hi i j h1 h2 hxy
  · obtain ⟨h1, rfl⟩ := px_inv hk
    exact hA k h1
theorem px_injD {ad : Nat → Nat} {c : Nat → va_E} {n : Nat} {A : Nat → Prop} (h : va_D A (px_W ad c n)) : px_Inj ad n := fun i j hi hj e => h.1 i j _ _ (px_at hi) (px_at hj) e
/-- which cells a method may change -/
def px_A (ad : Nat → Nat) (n sz : Nat) : Nat → Prop := fun q => (∃ i, i < n ∧ ad i = q) ∨ sz ≤ q
/-- facts of the tables and of old cells that stay: they are blind to frames and move with the tables -/
def px_Gk (G : (Nat → Prop) → State → Prop) : Prop :=
  (∀ (A : Nat → Prop) (U : State) (g : JFrame) (mk : MethodId) (a : Array Value), G A U → G A (U.calling g mk a)) ∧
  ∀ (A A' : Nat → Prop) (s U : State) (H : Heap) (locs : List Loc), G A s → va_S A s.heap H locs → (∀ q, A' q → A q) → s.WarmedH U.vm → U.heap = H → G A' U
/-- what stands fast in a body -/
abbrev px_X (p : Program) (s : State) (m : MethodId) (args : Array Value) (cd : Code) (cc : ByteArray) (nL : Nat) (Ts : List Cond) (own : String) (G : (Nat → Prop) → State → Prop) (D : va_G) (cl : List vw_C) (tys : List (ClassId × FieldType)) (A : Nat → Prop) (ad : Nat → Nat) (n : Nat) : Prop :=
  CallFix p m cd cc nL s args Ts own ∧ va_K D cl tys s ∧ px_Inj ad n ∧ (∀ i, i < n → A (ad i)) ∧ (∀ q, s.heap.size ≤ q → A q) ∧ px_Gk G ∧ G A s
def px_J (p : Program) (l : Launch) (e : Env) (R : Room) (s : State) (m : MethodId) (args : Array Value) (below : List Frame) (meth : Method) (cd : Code) (D : va_G) (cl : List vw_C) (A : Nat → Prop) (ad : Nat → Nat) (n nL cells slots : Nat) (Q : State → Prop) (c : Nat → va_E) (pc : Nat) (L : List (Nat × Value)) (st : List Value) : Prop :=
  ∀ (ls : Array Slot) (H : Heap) (locs : List Loc), lv_has ls nL L → va_P D cl (px_W ad c n) H → va_S A s.heap H locs → W p l e R s m args below meth cd H locs cells slots Q (F0 m pc ls st)
/-- a contract: from the world c, with the arguments As, the method answers res and leaves the world c1; it makes nothing -/
def px_Pc (G : (Nat → Prop) → State → Prop) (D : va_G) (cl : List vw_C) (tys : List (ClassId × FieldType)) (As : List Value) (ad : Nat → Nat) (c : Nat → va_E) (n sz : Nat) : Array Value → State → Prop :=
  va_Pc As (fun U => U.heap.size = sz ∧ va_P D cl (px_W ad c n) U.heap ∧ va_K D cl tys U ∧ px_Inj ad n ∧ G (px_A ad n sz) U)
def px_Qc (D : va_G) (cl : List vw_C) (ad : Nat → Nat) (n sz : Nat) (res : Option Value) (c1 : Nat → va_E) : Array Value → State → Outcome → State → Prop := fun _ st o t =>
  o = .returned res ∧ va_P D cl (px_W ad c1 n) t.heap ∧ va_F (px_A ad n sz) st t
def px_M (l : Launch) (y : MethodName) (ws : List Cond) (rm : Room) (G : (Nat → Prop) → State → Prop) (D : va_G) (cl : List vw_C) (tys : List (ClassId × FieldType)) (As : List Value) (ad : Nat → Nat) (c : Nat → va_E) (n : Nat) (res : Option Value) (c1 : Nat → va_E) : Prop :=
  ∀ sz : Nat, Met l y ws rm (px_Pc G D cl tys As ad c n sz) (px_Qc D cl ad n sz res c1) 0 0 (px_A ad n sz)
theorem px_blind {G : (Nat → Prop) → State → Prop} (hG : px_Gk G) {D : va_G} {cl : List vw_C} {tys : List (ClassId × FieldType)} {As : List Value} {ad : Nat → Nat} {c : Nat → va_E} {n sz : Nat} : FrameBlind (px_Pc G D cl tys As ad c n sz) := by
  intro a U g mk q
  obtain ⟨q0, q1, qP, qK, qD, qG⟩ := q
  exact ⟨q0, q1, qP, va_K.moved (u := U) (U := U.calling g mk a) (Vm.Alike.refl U.vm) qK, qD, hG.1 _ U g mk a qG⟩
/-- a field that getfield at a constant pool's place reads -/
def px_Fd (Ts : List Cond) (cl : List vw_C) (own : String) (index ci k : Nat) : Prop :=
  ∃ (ref C : String) (T : u_T) (N : Nat), cl[ci]? = some (C, T, N) ∧ (∀ w ∈ u_ws C T N, w ∈ Ts) ∧ k < N ∧ Cond.fieldLink own index ref (T k).2.1 (T k).2.2.1 ∈ Ts ∧ ((T k).1 = ref ∨ Cond.sameField ref (T k).1 (T k).2.1 (T k).2.2.1 ∈ Ts)
/-- the same for putfield, of a field that isn't final -/
def px_Fp (Ts : List Cond) (cl : List vw_C) (own : String) (index ci k : Nat) (ty : FieldType) : Prop :=
  ∃ (ref C : String) (T : u_T) (N : Nat) (ty0 : Nat → FieldType), cl[ci]? = some (C, T, N) ∧ (∀ w ∈ u_ws C T N, w ∈ Ts) ∧ k < N ∧ Cond.fieldLink own index ref (T k).2.1 (T k).2.2.1 ∈ Ts ∧ ((T k).1 = ref ∨ Cond.sameField ref (T k).1 (T k).2.1 (T k).2.2.1 ∈ Ts) ∧
    (∀ k, k < N → parseFieldDescriptor (T k).2.2.1 = some (ty0 k)) ∧ (∀ a, a < N → ∀ b, b < N → a ≠ b → (T a).2.1 ≠ (T b).2.1) ∧ (T k).2.2.2 = false ∧ parseFieldDescriptor (T k).2.2.1 = some ty
section PXR
variable {p : Program} {l : Launch} {e : Env} {R : Room} {s : State} {m : MethodId} {args : Array Value} {below : List Frame} {meth : Method} {cd : Code} {Q : State → Prop} {cells slots : Nat}
variable {cc : ByteArray} {Ts : List Cond} {own : String} {G : (Nat → Prop) → State → Prop} {D : va_G} {cl : List vw_C} {A : Nat → Prop} {tys : List (ClassId × FieldType)} {ad : Nat → Nat} {n nL : Nat} {c : Nat → va_E} {pc : Nat} {L : List (Nat × Value)} {st : List Value}
theorem px_same {ref : String} {T : u_T} {k : Nat} (hts : ∀ w ∈ Ts, w.before args s = true) (h : (T k).1 = ref ∨ Cond.sameField ref (T k).1 (T k).2.1 (T k).2.2.1 ∈ Ts) : ∀ x, s.fieldFound? (T k).1 (T k).2.1 (T k).2.2.1 = some x → s.fieldFound? ref (T k).2.1 (T k).2.2.1 = some x := by
  intro x hx
  rcases h with h | h
  · rw [← h]; exact hx
  · exact u_same (hts _ h) x hx
theorem j_get (X : px_X p s m args cd cc nL Ts own G D cl tys A ad n) {index ci k : Nat} (F : px_Fd Ts cl own index ci k) (i : Nat) (hi : i < n) {fs : List Value} (he : c i = .inr (ci, fs)) {v : Value} (hv : fs[k]? = some v) (hd : decode cc pc = .ok (.getfield index, 3))
    (kk : px_J p l e R s m args below meth cd D cl A ad n nL cells slots Q c (pc + 3) L (v :: st)) : px_J p l e R s m args below meth cd D cl A ad n nL cells slots Q c pc L (.ref (ad i) :: st) := by
  intro ls H locs h1 h2 h3
  obtain ⟨ref, C, T, N, f1, f2, f3, f4, f5⟩ := F
  exact va_get X.1.1 X.1.2.1 X.1.2.2.2.2 f2 X.1.2.2.2.1 X.2.1 h2 i (by rw [px_at hi, he]) f1 k f3 (X.1.2.2.2.2 _ f4) (px_same X.1.2.2.2.2 f5) hv hd (kk ls H locs h1 h2 h3)
theorem j_put (X : px_X p s m args cd cc nL Ts own G D cl tys A ad n) {index ci k : Nat} {ty : FieldType} (F : px_Fp Ts cl own index ci k ty) (i : Nat) (hi : i < n) {fs : List Value} (he : c i = .inr (ci, fs)) {v : Value} (hl : k < fs.length) (hn : narrow ty v = v) (hf : fits ty v = true) (hd : decode cc pc = .ok (.putfield index, 3))
    (kk : px_J p l e R s m args below meth cd D cl A ad n nL cells slots Q (va_up c i (.inr (ci, fs.set k v))) (pc + 3) L st) : px_J p l e R s m args below meth cd D cl A ad n nL cells slots Q c pc L (v :: .ref (ad i) :: st) := by
  intro ls H locs h1 h2 h3
  obtain ⟨ref, C, T, N, ty0, f1, f2, f3, f4, f5, f6, f7, f8, f9⟩ := F
  refine va_put (ty := ty) X.1.1 X.1.2.1 X.1.2.2.2.2 f2 ty0 f6 f7 X.1.2.2.2.1 X.2.1 h2 (px_D X.2.2.1 X.2.2.2.1) h3 i (by rw [px_at hi, he]) f1 k f3 (X.1.2.2.2.2 _ f4) (px_same X.1.2.2.2.2 f5) f8 f9 hn hf hl hd (fun H1 locs1 g1 _ g3 => ?_)
  rw [px_set hi] at g1
  exact kk ls H1 locs1 h1 g1 g3
theorem j_iald (X : px_X p s m args cd cc nL Ts own G D cl tys A ad n) (i t0 : Nat) (hi : i < n) {cA : ClassId} {len : Nat} {f : Nat → Int32} (he : c i = .inl (cA, len, .inl f)) (ht : tys[t0]? = some (cA, .int)) {x : Int32} (hin : vp_in x len) (hd : decode cc pc = .ok (.iaload, 1))
    (kk : px_J p l e R s m args below meth cd D cl A ad n nL cells slots Q c (pc + 1) L (.int (f x.toNatClampNeg) :: st)) : px_J p l e R s m args below meth cd D cl A ad n nL cells slots Q c pc L (.int x :: .ref (ad i) :: st) := by
  intro ls H locs h1 h2 h3
  exact va_iald X.1.1 X.1.2.1 X.2.1 h2 i t0 (by rw [px_at hi, he]) ht hin hd (kk ls H locs h1 h2 h3)
theorem j_zald (X : px_X p s m args cd cc nL Ts own G D cl tys A ad n) (i t0 : Nat) (hi : i < n) {cA : ClassId} {len : Nat} {f : Nat → Int32} (he : c i = .inl (cA, len, .inl f)) (ht : tys[t0]? = some (cA, .boolean)) {x : Int32} (hin : vp_in x len) (hd : decode cc pc = .ok (.baload, 1))
    (kk : px_J p l e R s m args below meth cd D cl A ad n nL cells slots Q c (pc + 1) L (.int (f x.toNatClampNeg) :: st)) : px_J p l e R s m args below meth cd D cl A ad n nL cells slots Q c pc L (.int x :: .ref (ad i) :: st) := by
  intro ls H locs h1 h2 h3
  exact va_zald X.1.1 X.1.2.1 X.2.1 h2 i t0 (by rw [px_at hi, he]) ht hin hd (kk ls H locs h1 h2 h3)
theorem j_iast (X : px_X p s m args cd cc nL Ts own G D cl tys A ad n) (i t0 : Nat) (hi : i < n) {cA : ClassId} {len : Nat} {f : Nat → Int32} (he : c i = .inl (cA, len, .inl f)) (ht : tys[t0]? = some (cA, .int)) {x y : Int32} (hin : vp_in x len) (hd : decode cc pc = .ok (.iastore, 1))
    (kk : px_J p l e R s m args below meth cd D cl A ad n nL cells slots Q (va_up c i (.inl (cA, len, .inl (upd f x.toNatClampNeg y)))) (pc + 1) L st) : px_J p l e R s m args below meth cd D cl A ad n nL cells slots Q c pc L (.int y :: .int x :: .ref (ad i) :: st) := by
  intro ls H locs h1 h2 h3
  refine va_iast X.1.1 X.1.2.1 X.2.1 h2 (px_D X.2.2.1 X.2.2.2.1) h3 i t0 (by rw [px_at hi, he]) ht hin hd (fun H1 locs1 g1 _ g3 => ?_)
  rw [px_set hi] at g1
  exact kk ls H1 locs1 h1 g1 g3
theorem j_zast (X : px_X p s m args cd cc nL Ts own G D cl tys A ad n) (i t0 : Nat) (hi : i < n) {cA : ClassId} {len : Nat} {f : Nat → Int32} (he : c i = .inl (cA, len, .inl f)) (ht : tys[t0]? = some (cA, .boolean)) {x y : Int32} (hin : vp_in x len) (hd : decode cc pc = .ok (.bastore, 1))
    (kk : px_J p l e R s m args below meth cd D cl A ad n nL cells slots Q (va_up c i (.inl (cA, len, .inl (upd f x.toNatClampNeg (vp_nar .boolean y))))) (pc + 1) L st) : px_J p l e R s m args below meth cd D cl A ad n nL cells slots Q c pc L (.int y :: .int x :: .ref (ad i) :: st) := by
  intro ls H locs h1 h2 h3
  refine va_zast X.1.1 X.1.2.1 X.2.1 h2 (px_D X.2.2.1 X.2.2.2.1) h3 i t0 (by rw [px_at hi, he]) ht hin hd (fun H1 locs1 g1 _ g3 => ?_)
  rw [px_set hi] at g1
  exact kk ls H1 locs1 h1 g1 g3
theorem j_aald (X : px_X p s m args cd cc nL Ts own G D cl tys A ad n) (i t0 : Nat) (hi : i < n) {cA : ClassId} {C : String} {len : Nat} {f : Nat → Option Nat} (he : c i = .inl (cA, len, .inr (.inr (.inr (.inr f))))) (ht : tys[t0]? = some (cA, .object C)) {x : Int32} (hin : vp_in x len) (hd : decode cc pc = .ok (.aaload, 1))
    (kk : px_J p l e R s m args below meth cd D cl A ad n nL cells slots Q c (pc + 1) L (va_rf (f x.toNatClampNeg) :: st)) : px_J p l e R s m args below meth cd D cl A ad n nL cells slots Q c pc L (.int x :: .ref (ad i) :: st) := by
  intro ls H locs h1 h2 h3
  exact va_aldq X.1.1 X.1.2.1 X.2.1 h2 i t0 (by rw [px_at hi, he]) ht hin hd (kk ls H locs h1 h2 h3)
theorem j_aast (X : px_X p s m args cd cc nL Ts own G D cl tys A ad n) (i t0 j ci : Nat) (hi : i < n) (hj : j < n) {cA : ClassId} {r : vw_C} {len : Nat} {vs : List Value} {f : Nat → Option Nat} (he : c i = .inl (cA, len, .inr (.inr (.inr (.inr f))))) (ht : tys[t0]? = some (cA, .object r.1)) (hv : c j = .inr (ci, vs)) (hc : cl[ci]? = some r) {x : Int32} (hin : vp_in x len) (hd : decode cc pc = .ok (.aastore, 1))
    (kk : px_J p l e R s m args below meth cd D cl A ad n nL cells slots Q (va_up c i (.inl (cA, len, .inr (.inr (.inr (.inr (va_up f x.toNatClampNeg (some (ad j))))))))) (pc + 1) L st) : px_J p l e R s m args below meth cd D cl A ad n nL cells slots Q c pc L (.ref (ad j) :: .int x :: .ref (ad i) :: st) := by
  intro ls H locs h1 h2 h3
  refine va_astq X.1.1 X.1.2.1 X.2.1 h2 (px_D X.2.2.1 X.2.2.2.1) h3 i t0 j ci (by rw [px_at hi, he]) ht (by rw [px_at hj, hv]) hc hin hd (fun H1 locs1 g1 _ g3 => ?_)
  rw [px_set hi] at g1
  exact kk ls H1 locs1 h1 g1 g3
theorem j_iconst (X : px_X p s m args cd cc nL Ts own G D cl tys A ad n) {k : Int} {v : Int32} (hd : decode cc pc = .ok (.iconst k, 1)) (hv : Int32.ofInt k = v) (kk : px_J p l e R s m args below meth cd D cl A ad n nL cells slots Q c (pc + 1) L (.int v :: st)) : px_J p l e R s m args below meth cd D cl A ad n nL cells slots Q c pc L (st) := fun ls H locs h1 h2 h3 => lv_iconst X.1.1 X.1.2.1 hd hv (kk ls H locs h1 h2 h3)
theorem j_bipush (X : px_X p s m args cd cc nL Ts own G D cl tys A ad n) {k : Int} {v : Int32} (hd : decode cc pc = .ok (.bipush k, 2)) (hv : (Int8.ofInt k).toInt32 = v) (kk : px_J p l e R s m args below meth cd D cl A ad n nL cells slots Q c (pc + 2) L (.int v :: st)) : px_J p l e R s m args below meth cd D cl A ad n nL cells slots Q c pc L (st) := fun ls H locs h1 h2 h3 => lv_bipush X.1.1 X.1.2.1 hd hv (kk ls H locs h1 h2 h3)
theorem j_sipush (X : px_X p s m args cd cc nL Ts own G D cl tys A ad n) {k : Int} {v : Int32} (hd : decode cc pc = .ok (.sipush k, 3)) (hv : (Int16.ofInt k).toInt32 = v) (kk : px_J p l e R s m args below meth cd D cl A ad n nL cells slots Q c (pc + 3) L (.int v :: st)) : px_J p l e R s m args below meth cd D cl A ad n nL cells slots Q c pc L (st) := fun ls H locs h1 h2 h3 => lv_sipush X.1.1 X.1.2.1 hd hv (kk ls H locs h1 h2 h3)
theorem j_iadd (X : px_X p s m args cd cc nL Ts own G D cl tys A ad n) {x y : Int32} (hd : decode cc pc = .ok (.iadd, 1)) (kk : px_J p l e R s m args below meth cd D cl A ad n nL cells slots Q c (pc + 1) L (.int (x + y) :: st)) : px_J p l e R s m args below meth cd D cl A ad n nL cells slots Q c pc L (.int y :: .int x :: st) := fun ls H locs h1 h2 h3 => lv_iadd X.1.1 X.1.2.1 hd (kk ls H locs h1 h2 h3)
theorem j_isub (X : px_X p s m args cd cc nL Ts own G D cl tys A ad n) {x y : Int32} (hd : decode cc pc = .ok (.isub, 1)) (kk : px_J p l e R s m args below meth cd D cl A ad n nL cells slots Q c (pc + 1) L (.int (x - y) :: st)) : px_J p l e R s m args below meth cd D cl A ad n nL cells slots Q c pc L (.int y :: .int x :: st) := fun ls H locs h1 h2 h3 => lv_isub X.1.1 X.1.2.1 hd (kk ls H locs h1 h2 h3)
theorem j_imul (X : px_X p s m args cd cc nL Ts own G D cl tys A ad n) {x y : Int32} (hd : decode cc pc = .ok (.imul, 1)) (kk : px_J p l e R s m args below meth cd D cl A ad n nL cells slots Q c (pc + 1) L (.int (x * y) :: st)) : px_J p l e R s m args below meth cd D cl A ad n nL cells slots Q c pc L (.int y :: .int x :: st) := fun ls H locs h1 h2 h3 => lv_imul X.1.1 X.1.2.1 hd (kk ls H locs h1 h2 h3)
theorem j_iand (X : px_X p s m args cd cc nL Ts own G D cl tys A ad n) {x y : Int32} (hd : decode cc pc = .ok (.iand, 1)) (kk : px_J p l e R s m args below meth cd D cl A ad n nL cells slots Q c (pc + 1) L (.int (x &&& y) :: st)) : px_J p l e R s m args below meth cd D cl A ad n nL cells slots Q c pc L (.int y :: .int x :: st) := fun ls H locs h1 h2 h3 => lv_iand X.1.1 X.1.2.1 hd (kk ls H locs h1 h2 h3)
theorem j_ior (X : px_X p s m args cd cc nL Ts own G D cl tys A ad n) {x y : Int32} (hd : decode cc pc = .ok (.ior, 1)) (kk : px_J p l e R s m args below meth cd D cl A ad n nL cells slots Q c (pc + 1) L (.int (x ||| y) :: st)) : px_J p l e R s m args below meth cd D cl A ad n nL cells slots Q c pc L (.int y :: .int x :: st) := fun ls H locs h1 h2 h3 => lv_ior X.1.1 X.1.2.1 hd (kk ls H locs h1 h2 h3)
theorem j_ixor (X : px_X p s m args cd cc nL Ts own G D cl tys A ad n) {x y : Int32} (hd : decode cc pc = .ok (.ixor, 1)) (kk : px_J p l e R s m args below meth cd D cl A ad n nL cells slots Q c (pc + 1) L (.int (x ^^^ y) :: st)) : px_J p l e R s m args below meth cd D cl A ad n nL cells slots Q c pc L (.int y :: .int x :: st) := fun ls H locs h1 h2 h3 => lv_ixor X.1.1 X.1.2.1 hd (kk ls H locs h1 h2 h3)
theorem j_idiv (X : px_X p s m args cd cc nL Ts own G D cl tys A ad n) {x y : Int32} (hd : decode cc pc = .ok (.idiv, 1)) (hne : ¬ y = 0) (kk : px_J p l e R s m args below meth cd D cl A ad n nL cells slots Q c (pc + 1) L (.int (x / y) :: st)) : px_J p l e R s m args below meth cd D cl A ad n nL cells slots Q c pc L (.int y :: .int x :: st) := fun ls H locs h1 h2 h3 => lv_idiv X.1.1 X.1.2.1 hd hne (kk ls H locs h1 h2 h3)
theorem j_irem (X : px_X p s m args cd cc nL Ts own G D cl tys A ad n) {x y : Int32} (hd : decode cc pc = .ok (.irem, 1)) (hne : ¬ y = 0) (kk : px_J p l e R s m args below meth cd D cl A ad n nL cells slots Q c (pc + 1) L (.int (x - x / y * y) :: st)) : px_J p l e R s m args below meth cd D cl A ad n nL cells slots Q c pc L (.int y :: .int x :: st) := fun ls H locs h1 h2 h3 => lv_irem X.1.1 X.1.2.1 hd hne (kk ls H locs h1 h2 h3)
theorem j_ineg (X : px_X p s m args cd cc nL Ts own G D cl tys A ad n) {x : Int32} (hd : decode cc pc = .ok (.ineg, 1)) (kk : px_J p l e R s m args below meth cd D cl A ad n nL cells slots Q c (pc + 1) L (.int (-x) :: st)) : px_J p l e R s m args below meth cd D cl A ad n nL cells slots Q c pc L (.int x :: st) := fun ls H locs h1 h2 h3 => lv_ineg X.1.1 X.1.2.1 hd (kk ls H locs h1 h2 h3)
theorem j_ishl (X : px_X p s m args cd cc nL Ts own G D cl tys A ad n) {x y : Int32} (hd : decode cc pc = .ok (.ishl, 1)) (kk : px_J p l e R s m args below meth cd D cl A ad n nL cells slots Q c (pc + 1) L (.int (x <<< (y &&& 31)) :: st)) : px_J p l e R s m args below meth cd D cl A ad n nL cells slots Q c pc L (.int y :: .int x :: st) := fun ls H locs h1 h2 h3 => lv_ishl X.1.1 X.1.2.1 hd (kk ls H locs h1 h2 h3)
theorem j_ishr (X : px_X p s m args cd cc nL Ts own G D cl tys A ad n) {x y : Int32} (hd : decode cc pc = .ok (.ishr, 1)) (kk : px_J p l e R s m args below meth cd D cl A ad n nL cells slots Q c (pc + 1) L (.int (x >>> (y &&& 31)) :: st)) : px_J p l e R s m args below meth cd D cl A ad n nL cells slots Q c pc L (.int y :: .int x :: st) := fun ls H locs h1 h2 h3 => lv_ishr X.1.1 X.1.2.1 hd (kk ls H locs h1 h2 h3)
theorem j_iushr (X : px_X p s m args cd cc nL Ts own G D cl tys A ad n) {x y v : Int32} (hd : decode cc pc = .ok (.iushr, 1)) (hv : (x.toUInt32 >>> (y.toUInt32 &&& Int32.toUInt32 31)).toInt32 = v) (kk : px_J p l e R s m args below meth cd D cl A ad n nL cells slots Q c (pc + 1) L (.int v :: st)) : px_J p l e R s m args below meth cd D cl A ad n nL cells slots Q c pc L (.int y :: .int x :: st) := fun ls H locs h1 h2 h3 => lv_iushr X.1.1 X.1.2.1 hd hv (kk ls H locs h1 h2 h3)
theorem j_i2l (X : px_X p s m args cd cc nL Ts own G D cl tys A ad n) {x : Int32} {v : Int64} (hd : decode cc pc = .ok (.i2l, 1)) (hv : x.toInt64 = v) (kk : px_J p l e R s m args below meth cd D cl A ad n nL cells slots Q c (pc + 1) L (.long v :: st)) : px_J p l e R s m args below meth cd D cl A ad n nL cells slots Q c pc L (.int x :: st) := fun ls H locs h1 h2 h3 => lv_i2l X.1.1 X.1.2.1 hd hv (kk ls H locs h1 h2 h3)
theorem j_dup (X : px_X p s m args cd cc nL Ts own G D cl tys A ad n) {va : Value} (hd : decode cc pc = .ok (.dup, 1)) (ha : va.category = 1) (kk : px_J p l e R s m args below meth cd D cl A ad n nL cells slots Q c (pc + 1) L (va :: va :: st)) : px_J p l e R s m args below meth cd D cl A ad n nL cells slots Q c pc L (va :: st) := fun ls H locs h1 h2 h3 => lv_dup X.1.1 X.1.2.1 hd ha (kk ls H locs h1 h2 h3)
theorem j_pop (X : px_X p s m args cd cc nL Ts own G D cl tys A ad n) {va : Value} (hd : decode cc pc = .ok (.pop, 1)) (ha : va.category = 1) (kk : px_J p l e R s m args below meth cd D cl A ad n nL cells slots Q c (pc + 1) L (st)) : px_J p l e R s m args below meth cd D cl A ad n nL cells slots Q c pc L (va :: st) := fun ls H locs h1 h2 h3 => lv_pop X.1.1 X.1.2.1 hd ha (kk ls H locs h1 h2 h3)
theorem j_dup_x1 (X : px_X p s m args cd cc nL Ts own G D cl tys A ad n) {va vb : Value} (hd : decode cc pc = .ok (.dup_x1, 1)) (ha : va.category = 1) (hb : vb.category = 1) (kk : px_J p l e R s m args below meth cd D cl A ad n nL cells slots Q c (pc + 1) L (va :: vb :: va :: st)) : px_J p l e R s m args below meth cd D cl A ad n nL cells slots Q c pc L (va :: vb :: st) := fun ls H locs h1 h2 h3 => lv_dup_x1 X.1.1 X.1.2.1 hd ha hb (kk ls H locs h1 h2 h3)
theorem j_dup2_11 (X : px_X p s m args cd cc nL Ts own G D cl tys A ad n) {va vb : Value} (hd : decode cc pc = .ok (.dup2, 1)) (ha : va.category = 1) (hb : vb.category = 1) (kk : px_J p l e R s m args below meth cd D cl A ad n nL cells slots Q c (pc + 1) L (va :: vb :: va :: vb :: st)) : px_J p l e R s m args below meth cd D cl A ad n nL cells slots Q c pc L (va :: vb :: st) := fun ls H locs h1 h2 h3 => lv_dup2_11 X.1.1 X.1.2.1 hd ha hb (kk ls H locs h1 h2 h3)
theorem j_null (X : px_X p s m args cd cc nL Ts own G D cl tys A ad n)  (hd : decode cc pc = .ok (.aconst_null, 1)) (kk : px_J p l e R s m args below meth cd D cl A ad n nL cells slots Q c (pc + 1) L (.null :: st)) : px_J p l e R s m args below meth cd D cl A ad n nL cells slots Q c pc L (st) := fun ls H locs h1 h2 h3 => lv_null X.1.1 X.1.2.1 hd (kk ls H locs h1 h2 h3)
theorem j_iload_n (X : px_X p s m args cd cc nL Ts own G D cl tys A ad n) {k : Fin 4} (hd : decode cc pc = .ok (.iload_n k, 1)) (q : Nat) {x : Int32} (hL : L[q]? = some ((k : Nat), .int x)) (kk : px_J p l e R s m args below meth cd D cl A ad n nL cells slots Q c (pc + 1) L (.int x :: st)) : px_J p l e R s m args below meth cd D cl A ad n nL cells slots Q c pc L (st) := fun ls H locs h1 h2 h3 => lv_iload_n X.1.1 X.1.2.1 hd rfl (lv_at h1 q hL) (kk ls H locs h1 h2 h3)
theorem j_iload (X : px_X p s m args cd cc nL Ts own G D cl tys A ad n) {k : Nat} (hd : decode cc pc = .ok (.iload k, 2)) (q : Nat) {x : Int32} (hL : L[q]? = some (k, .int x)) (kk : px_J p l e R s m args below meth cd D cl A ad n nL cells slots Q c (pc + 2) L (.int x :: st)) : px_J p l e R s m args below meth cd D cl A ad n nL cells slots Q c pc L (st) := fun ls H locs h1 h2 h3 => lv_iload X.1.1 X.1.2.1 hd (lv_at h1 q hL) (kk ls H locs h1 h2 h3)
theorem j_istore_n (X : px_X p s m args cd cc nL Ts own G D cl tys A ad n) {k : Fin 4} {x : Int32} (hd : decode cc pc = .ok (.istore_n k, 1)) (L' : List (Nat × Value)) (hn : (k : Nat) < nL) (hl : ((k : Nat), Value.int x) :: L.filter (fun q => !(q.1 == (k : Nat)) && !(q.1 + 1 == (k : Nat) && q.2.category == 2)) = L') (kk : px_J p l e R s m args below meth cd D cl A ad n nL cells slots Q c (pc + 1) L' st) : px_J p l e R s m args below meth cd D cl A ad n nL cells slots Q c pc L (.int x :: st) := fun ls H locs h1 h2 h3 => lv_istore_n X.1.1 X.1.2.1 hd rfl h1 hn hl (fun ls' h' => kk ls' H locs h' h2 h3)
theorem j_istore (X : px_X p s m args cd cc nL Ts own G D cl tys A ad n) {k : Nat} {x : Int32} (hd : decode cc pc = .ok (.istore k, 2)) (L' : List (Nat × Value)) (hn : k < nL) (hl : (k, Value.int x) :: L.filter (fun q => !(q.1 == (k : Nat)) && !(q.1 + 1 == (k : Nat) && q.2.category == 2)) = L') (kk : px_J p l e R s m args below meth cd D cl A ad n nL cells slots Q c (pc + 2) L' st) : px_J p l e R s m args below meth cd D cl A ad n nL cells slots Q c pc L (.int x :: st) := fun ls H locs h1 h2 h3 => lv_istore X.1.1 X.1.2.1 hd h1 hn hl (fun ls' h' => kk ls' H locs h' h2 h3)
theorem j_aload_n (X : px_X p s m args cd cc nL Ts own G D cl tys A ad n) {k : Fin 4} (hd : decode cc pc = .ok (.aload_n k, 1)) (q : Nat) {x : Nat} (hL : L[q]? = some ((k : Nat), .ref x)) (kk : px_J p l e R s m args below meth cd D cl A ad n nL cells slots Q c (pc + 1) L (.ref x :: st)) : px_J p l e R s m args below meth cd D cl A ad n nL cells slots Q c pc L (st) := fun ls H locs h1 h2 h3 => lv_aload_n X.1.1 X.1.2.1 hd rfl (lv_at h1 q hL) (kk ls H locs h1 h2 h3)
theorem j_aload (X : px_X p s m args cd cc nL Ts own G D cl tys A ad n) {k : Nat} (hd : decode cc pc = .ok (.aload k, 2)) (q : Nat) {x : Nat} (hL : L[q]? = some (k, .ref x)) (kk : px_J p l e R s m args below meth cd D cl A ad n nL cells slots Q c (pc + 2) L (.ref x :: st)) : px_J p l e R s m args below meth cd D cl A ad n nL cells slots Q c pc L (st) := fun ls H locs h1 h2 h3 => lv_aload X.1.1 X.1.2.1 hd (lv_at h1 q hL) (kk ls H locs h1 h2 h3)
theorem j_astore_n (X : px_X p s m args cd cc nL Ts own G D cl tys A ad n) {k : Fin 4} {x : Nat} (hd : decode cc pc = .ok (.astore_n k, 1)) (L' : List (Nat × Value)) (hn : (k : Nat) < nL) (hl : ((k : Nat), Value.ref x) :: L.filter (fun q => !(q.1 == (k : Nat)) && !(q.1 + 1 == (k : Nat) && q.2.category == 2)) = L') (kk : px_J p l e R s m args below meth cd D cl A ad n nL cells slots Q c (pc + 1) L' st) : px_J p l e R s m args below meth cd D cl A ad n nL cells slots Q c pc L (.ref x :: st) := fun ls H locs h1 h2 h3 => lv_astore_n X.1.1 X.1.2.1 hd rfl h1 hn hl (fun ls' h' => kk ls' H locs h' h2 h3)
theorem j_astore (X : px_X p s m args cd cc nL Ts own G D cl tys A ad n) {k : Nat} {x : Nat} (hd : decode cc pc = .ok (.astore k, 2)) (L' : List (Nat × Value)) (hn : k < nL) (hl : (k, Value.ref x) :: L.filter (fun q => !(q.1 == (k : Nat)) && !(q.1 + 1 == (k : Nat) && q.2.category == 2)) = L') (kk : px_J p l e R s m args below meth cd D cl A ad n nL cells slots Q c (pc + 2) L' st) : px_J p l e R s m args below meth cd D cl A ad n nL cells slots Q c pc L (.ref x :: st) := fun ls H locs h1 h2 h3 => lv_astore X.1.1 X.1.2.1 hd h1 hn hl (fun ls' h' => kk ls' H locs h' h2 h3)
theorem j_iinc (X : px_X p s m args cd cc nL Ts own G D cl tys A ad n) {k : Nat} {a : Int} {x v : Int32} (hd : decode cc pc = .ok (.iinc k a, 3)) (q : Nat) (L' : List (Nat × Value)) (hL : L[q]? = some (k, .int x)) (hv : x + Int32.ofInt a = v) (hn : k < nL) (hl : (k, Value.int v) :: L.filter (fun q => !(q.1 == k) && !(q.1 + 1 == k && q.2.category == 2)) = L') (kk : px_J p l e R s m args below meth cd D cl A ad n nL cells slots Q c (pc + 3) L' st) : px_J p l e R s m args below meth cd D cl A ad n nL cells slots Q c pc L st := fun ls H locs h1 h2 h3 => lv_iinc X.1.1 X.1.2.1 hd h1 hL hv hn hl (fun ls' h' => kk ls' H locs h' h2 h3)
theorem j_if_eq (X : px_X p s m args cd cc nL Ts own G D cl tys A ad n) {x : Int32} {off : Int} {tgt : Nat} (hd : decode cc pc = .ok (.ifCond .eq off, 3)) (ht : (pc : Int) + off = (tgt : Int)) (kt : x = 0 → px_J p l e R s m args below meth cd D cl A ad n nL cells slots Q c tgt L st) (kf : ¬ x = 0 → px_J p l e R s m args below meth cd D cl A ad n nL cells slots Q c (pc + 3) L st) : px_J p l e R s m args below meth cd D cl A ad n nL cells slots Q c pc L (.int x :: st) := fun ls H locs h1 h2 h3 => lv_if_eq X.1.1 X.1.2.1 hd ht (fun g => kt g ls H locs h1 h2 h3) (fun g => kf g ls H locs h1 h2 h3)
theorem j_if_ne (X : px_X p s m args cd cc nL Ts own G D cl tys A ad n) {x : Int32} {off : Int} {tgt : Nat} (hd : decode cc pc = .ok (.ifCond .ne off, 3)) (ht : (pc : Int) + off = (tgt : Int)) (kt : ¬ x = 0 → px_J p l e R s m args below meth cd D cl A ad n nL cells slots Q c tgt L st) (kf : x = 0 → px_J p l e R s m args below meth cd D cl A ad n nL cells slots Q c (pc + 3) L st) : px_J p l e R s m args below meth cd D cl A ad n nL cells slots Q c pc L (.int x :: st) := fun ls H locs h1 h2 h3 => lv_if_ne X.1.1 X.1.2.1 hd ht (fun g => kt g ls H locs h1 h2 h3) (fun g => kf (by first | exact g | exact Classical.not_not.mp g) ls H locs h1 h2 h3)
theorem j_if_lt (X : px_X p s m args cd cc nL Ts own G D cl tys A ad n) {x : Int32} {off : Int} {tgt : Nat} (hd : decode cc pc = .ok (.ifCond .lt off, 3)) (ht : (pc : Int) + off = (tgt : Int)) (kt : x < 0 → px_J p l e R s m args below meth cd D cl A ad n nL cells slots Q c tgt L st) (kf : ¬ x < 0 → px_J p l e R s m args below meth cd D cl A ad n nL cells slots Q c (pc + 3) L st) : px_J p l e R s m args below meth cd D cl A ad n nL cells slots Q c pc L (.int x :: st) := fun ls H locs h1 h2 h3 => lv_if_lt X.1.1 X.1.2.1 hd ht (fun g => kt g ls H locs h1 h2 h3) (fun g => kf g ls H locs h1 h2 h3)
theorem j_if_ge (X : px_X p s m args cd cc nL Ts own G D cl tys A ad n) {x : Int32} {off : Int} {tgt : Nat} (hd : decode cc pc = .ok (.ifCond .ge off, 3)) (ht : (pc : Int) + off = (tgt : Int)) (kt : 0 ≤ x → px_J p l e R s m args below meth cd D cl A ad n nL cells slots Q c tgt L st) (kf : ¬ 0 ≤ x → px_J p l e R s m args below meth cd D cl A ad n nL cells slots Q c (pc + 3) L st) : px_J p l e R s m args below meth cd D cl A ad n nL cells slots Q c pc L (.int x :: st) := fun ls H locs h1 h2 h3 => lv_if_ge X.1.1 X.1.2.1 hd ht (fun g => kt g ls H locs h1 h2 h3) (fun g => kf g ls H locs h1 h2 h3)
theorem j_if_gt (X : px_X p s m args cd cc nL Ts own G D cl tys A ad n) {x : Int32} {off : Int} {tgt : Nat} (hd : decode cc pc = .ok (.ifCond .gt off, 3)) (ht : (pc : Int) + off = (tgt : Int)) (kt : 0 < x → px_J p l e R s m args below meth cd D cl A ad n nL cells slots Q c tgt L st) (kf : ¬ 0 < x → px_J p l e R s m args below meth cd D cl A ad n nL cells slots Q c (pc + 3) L st) : px_J p l e R s m args below meth cd D cl A ad n nL cells slots Q c pc L (.int x :: st) := fun ls H locs h1 h2 h3 => lv_if_gt X.1.1 X.1.2.1 hd ht (fun g => kt g ls H locs h1 h2 h3) (fun g => kf g ls H locs h1 h2 h3)
theorem j_if_le (X : px_X p s m args cd cc nL Ts own G D cl tys A ad n) {x : Int32} {off : Int} {tgt : Nat} (hd : decode cc pc = .ok (.ifCond .le off, 3)) (ht : (pc : Int) + off = (tgt : Int)) (kt : x ≤ 0 → px_J p l e R s m args below meth cd D cl A ad n nL cells slots Q c tgt L st) (kf : ¬ x ≤ 0 → px_J p l e R s m args below meth cd D cl A ad n nL cells slots Q c (pc + 3) L st) : px_J p l e R s m args below meth cd D cl A ad n nL cells slots Q c pc L (.int x :: st) := fun ls H locs h1 h2 h3 => lv_if_le X.1.1 X.1.2.1 hd ht (fun g => kt g ls H locs h1 h2 h3) (fun g => kf g ls H locs h1 h2 h3)
theorem j_icmp_eq (X : px_X p s m args cd cc nL Ts own G D cl tys A ad n) {x y : Int32} {off : Int} {tgt : Nat} (hd : decode cc pc = .ok (.if_icmp .eq off, 3)) (ht : (pc : Int) + off = (tgt : Int)) (kt : x = y → px_J p l e R s m args below meth cd D cl A ad n nL cells slots Q c tgt L st) (kf : ¬ x = y → px_J p l e R s m args below meth cd D cl A ad n nL cells slots Q c (pc + 3) L st) : px_J p l e R s m args below meth cd D cl A ad n nL cells slots Q c pc L (.int y :: .int x :: st) := fun ls H locs h1 h2 h3 => lv_icmp_eq X.1.1 X.1.2.1 hd ht (fun g => kt g ls H locs h1 h2 h3) (fun g => kf g ls H locs h1 h2 h3)
theorem j_icmp_ne (X : px_X p s m args cd cc nL Ts own G D cl tys A ad n) {x y : Int32} {off : Int} {tgt : Nat} (hd : decode cc pc = .ok (.if_icmp .ne off, 3)) (ht : (pc : Int) + off = (tgt : Int)) (kt : ¬ x = y → px_J p l e R s m args below meth cd D cl A ad n nL cells slots Q c tgt L st) (kf : x = y → px_J p l e R s m args below meth cd D cl A ad n nL cells slots Q c (pc + 3) L st) : px_J p l e R s m args below meth cd D cl A ad n nL cells slots Q c pc L (.int y :: .int x :: st) := fun ls H locs h1 h2 h3 => lv_icmp_ne X.1.1 X.1.2.1 hd ht (fun g => kt g ls H locs h1 h2 h3) (fun g => kf (by first | exact g | exact Classical.not_not.mp g) ls H locs h1 h2 h3)
theorem j_icmp_lt (X : px_X p s m args cd cc nL Ts own G D cl tys A ad n) {x y : Int32} {off : Int} {tgt : Nat} (hd : decode cc pc = .ok (.if_icmp .lt off, 3)) (ht : (pc : Int) + off = (tgt : Int)) (kt : x < y → px_J p l e R s m args below meth cd D cl A ad n nL cells slots Q c tgt L st) (kf : ¬ x < y → px_J p l e R s m args below meth cd D cl A ad n nL cells slots Q c (pc + 3) L st) : px_J p l e R s m args below meth cd D cl A ad n nL cells slots Q c pc L (.int y :: .int x :: st) := fun ls H locs h1 h2 h3 => lv_icmp_lt X.1.1 X.1.2.1 hd ht (fun g => kt g ls H locs h1 h2 h3) (fun g => kf g ls H locs h1 h2 h3)
theorem j_icmp_ge (X : px_X p s m args cd cc nL Ts own G D cl tys A ad n) {x y : Int32} {off : Int} {tgt : Nat} (hd : decode cc pc = .ok (.if_icmp .ge off, 3)) (ht : (pc : Int) + off = (tgt : Int)) (kt : y ≤ x → px_J p l e R s m args below meth cd D cl A ad n nL cells slots Q c tgt L st) (kf : ¬ y ≤ x → px_J p l e R s m args below meth cd D cl A ad n nL cells slots Q c (pc + 3) L st) : px_J p l e R s m args below meth cd D cl A ad n nL cells slots Q c pc L (.int y :: .int x :: st) := fun ls H locs h1 h2 h3 => lv_icmp_ge X.1.1 X.1.2.1 hd ht (fun g => kt g ls H locs h1 h2 h3) (fun g => kf g ls H locs h1 h2 h3)
theorem j_icmp_gt (X : px_X p s m args cd cc nL Ts own G D cl tys A ad n) {x y : Int32} {off : Int} {tgt : Nat} (hd : decode cc pc = .ok (.if_icmp .gt off, 3)) (ht : (pc : Int) + off = (tgt : Int)) (kt : y < x → px_J p l e R s m args below meth cd D cl A ad n nL cells slots Q c tgt L st) (kf : ¬ y < x → px_J p l e R s m args below meth cd D cl A ad n nL cells slots Q c (pc + 3) L st) : px_J p l e R s m args below meth cd D cl A ad n nL cells slots Q c pc L (.int y :: .int x :: st) := fun ls H locs h1 h2 h3 => lv_icmp_gt X.1.1 X.1.2.1 hd ht (fun g => kt g ls H locs h1 h2 h3) (fun g => kf g ls H locs h1 h2 h3)
theorem j_icmp_le (X : px_X p s m args cd cc nL Ts own G D cl tys A ad n) {x y : Int32} {off : Int} {tgt : Nat} (hd : decode cc pc = .ok (.if_icmp .le off, 3)) (ht : (pc : Int) + off = (tgt : Int)) (kt : x ≤ y → px_J p l e R s m args below meth cd D cl A ad n nL cells slots Q c tgt L st) (kf : ¬ x ≤ y → px_J p l e R s m args below meth cd D cl A ad n nL cells slots Q c (pc + 3) L st) : px_J p l e R s m args below meth cd D cl A ad n nL cells slots Q c pc L (.int y :: .int x :: st) := fun ls H locs h1 h2 h3 => lv_icmp_le X.1.1 X.1.2.1 hd ht (fun g => kt g ls H locs h1 h2 h3) (fun g => kf g ls H locs h1 h2 h3)
theorem j_goto (X : px_X p s m args cd cc nL Ts own G D cl tys A ad n) {off : Int} {tgt : Nat} (hd : decode cc pc = .ok (.goto off, 3)) (ht : (pc : Int) + off = (tgt : Int)) (kk : px_J p l e R s m args below meth cd D cl A ad n nL cells slots Q c tgt L st) : px_J p l e R s m args below meth cd D cl A ad n nL cells slots Q c pc L st := fun ls H locs h1 h2 h3 => lv_goto X.1.1 X.1.2.1 hd ht (kk ls H locs h1 h2 h3)
theorem j_tableOut (X : px_X p s m args cd cc nL Ts own G D cl tys A ad n) {dflt lo hi : Int} {offs : Array Int} {len : Nat} {x : Int32} {tgt : Nat} (hd : decode cc pc = .ok (.tableswitch dflt lo hi offs, len)) (h : x.toInt < lo ∨ hi < x.toInt) (ht : (pc : Int) + dflt = (tgt : Int)) (kk : px_J p l e R s m args below meth cd D cl A ad n nL cells slots Q c tgt L st) : px_J p l e R s m args below meth cd D cl A ad n nL cells slots Q c pc L (.int x :: st) := fun ls H locs h1 h2 h3 => lv_tableOut X.1.1 X.1.2.1 hd h ht (kk ls H locs h1 h2 h3)
theorem j_tableIn (X : px_X p s m args cd cc nL Ts own G D cl tys A ad n) {dflt lo hi : Int} {offs : Array Int} {len : Nat} {x : Int32} {off : Int} {tgt : Nat} (hd : decode cc pc = .ok (.tableswitch dflt lo hi offs, len)) (g1 : ¬ x.toInt < lo) (g2 : ¬ hi < x.toInt) (ho : offs[(x.toInt - lo).toNat]? = some off) (ht : (pc : Int) + off = (tgt : Int)) (kk : px_J p l e R s m args below meth cd D cl A ad n nL cells slots Q c tgt L st) : px_J p l e R s m args below meth cd D cl A ad n nL cells slots Q c pc L (.int x :: st) := fun ls H locs h1 h2 h3 => lv_tableIn X.1.1 X.1.2.1 hd g1 g2 ho ht (kk ls H locs h1 h2 h3)
theorem j_ldc (X : px_X p s m args cd cc nL Ts own G D cl tys A ad n) {index : Nat} {v : Int32} (hc : Cond.constant own index v ∈ Ts) (hd : decode cc pc = .ok (.ldc index, 2)) (kk : px_J p l e R s m args below meth cd D cl A ad n nL cells slots Q c (pc + 2) L (.int v :: st)) : px_J p l e R s m args below meth cd D cl A ad n nL cells slots Q c pc L st := fun ls H locs h1 h2 h3 => lv_ldc X.1.1 X.1.2.1 X.1.2.2.2.1 (X.1.2.2.2.2 _ hc) hd (kk ls H locs h1 h2 h3)
theorem j_topi {x : Int32} (kk : ∀ y : Int32, y = x → px_J p l e R s m args below meth cd D cl A ad n nL cells slots Q c pc L (.int y :: st)) : px_J p l e R s m args below meth cd D cl A ad n nL cells slots Q c pc L (.int x :: st) := kk x rfl
theorem j_w {c' : Nat → va_E} (h : c = c') (kk : px_J p l e R s m args below meth cd D cl A ad n nL cells slots Q c' pc L st) : px_J p l e R s m args below meth cd D cl A ad n nL cells slots Q c pc L st := h ▸ kk
theorem px_start {y : MethodName} {ret : Option FieldType} {rm : Room} {As : List Value} {res : Option Value} {c1 : Nat → va_E} (hG : px_Gk G) (hy : plainName y.cls = true) (hlen : (lg_sl As).length ≤ nL)
    (body : ∀ (p : Program) (e : Env) (s : State) (m : MethodId) (args : Array Value) (below : List Frame) (meth : Method) (cd : Code), px_X p s m args cd cc nL Ts y.cls G D cl tys (px_A ad n s.heap.size) ad n → meth.sig.returnType = ret → meth.locks = false →
      px_J p l e rm s m args below meth cd D cl (px_A ad n s.heap.size) ad n nL 0 0 (MQ below (px_Qc D cl ad n s.heap.size res c1) args s 0 0 (px_A ad n s.heap.size)) c 0 (lv_args 0 As) []) :
    px_M l y (Cond.code y cc nL ret :: Ts) rm G D cl tys As ad c n res c1 := by
  intro sz
  refine Met.ofW (cc := cc) (maxL := nL) (ret := ret) hy rfl ?_
  intro p e s m args below meth cd s₁ B hml hv
  obtain ⟨rfl, hsz, hP, hK, hI, hg⟩ := hv
  subst hsz
  have hts := atoms_spec (ws := Cond.code y cc nL ret :: Ts) B.pre
  have hl := lv_entry As (n := nL) hlen
  rw [lg_entry_eq]
  exact body p e s m _ below meth cd ⟨⟨B.exec, B.bytes, hml, findClass_of_methodNamed B.named, fun w h => hts w (List.mem_cons_of_mem _ h)⟩, hK, hI, fun i hi => Or.inl ⟨i, hi, rfl⟩, fun q hq => Or.inr hq, hG, hg⟩ B.returns B.notSynchronized _ _ [] hl hP va_S.rf
theorem j_iret (X : px_X p s m args cd cc nL Ts own G D cl tys A ad n) (hr : meth.sig.returnType = some .int) (hk : meth.locks = false) {v : Int32} {res : Option Value} {c1 : Nat → va_E} (hv : res = some (.int v)) (hc : c = c1) (hd : decode cc pc = .ok (.ireturn, 1)) :
    px_J p l e R s m args below meth cd D cl (px_A ad n s.heap.size) ad n nL 0 0 (MQ below (px_Qc D cl ad n s.heap.size res c1) args s 0 0 (px_A ad n s.heap.size)) c pc L [.int v] := by
  intro ls H locs h1 h2 h3
  subst hv; subst hc
  exact W.iret X.1.1 X.1.2.1 hr (fun t ht _ => ⟨rfl, by rw [ht]; exact h2, h3.F ht⟩) h3.2.2 hd hk
theorem j_zret (X : px_X p s m args cd cc nL Ts own G D cl tys A ad n) {ty : FieldType} (hr : meth.sig.returnType = some ty) (hk : meth.locks = false) {v : Int32} {res : Option Value} {c1 : Nat → va_E} (hn : narrow ty (.int v) = .int v) (hv : res = some (.int v)) (hc : c = c1) (hd : decode cc pc = .ok (.ireturn, 1)) :
    px_J p l e R s m args below meth cd D cl (px_A ad n s.heap.size) ad n nL 0 0 (MQ below (px_Qc D cl ad n s.heap.size res c1) args s 0 0 (px_A ad n s.heap.size)) c pc L [.int v] := by
  intro ls H locs h1 h2 h3
  subst hv; subst hc
  exact W.zret X.1.1 X.1.2.1 hr hn (fun t ht _ => ⟨rfl, by rw [ht]; exact h2, h3.F ht⟩) h3.2.2 hd hk
theorem j_vret (X : px_X p s m args cd cc nL Ts own G D cl tys A ad n) (hr : meth.sig.returnType = none) (hk : meth.locks = false) {res : Option Value} {c1 : Nat → va_E} (hv : res = none) (hc : c = c1) (hd : decode cc pc = .ok (.return_, 1)) :
    px_J p l e R s m args below meth cd D cl (px_A ad n s.heap.size) ad n nL 0 0 (MQ below (px_Qc D cl ad n s.heap.size res c1) args s 0 0 (px_A ad n s.heap.size)) c pc L [] := by
  intro ls H locs h1 h2 h3
  subst hv; subst hc
  exact W.vret X.1.1 X.1.2.1 hr (fun t ht _ => ⟨rfl, by rw [ht]; exact h2, h3.F ht⟩) h3.2.2 hd hk
theorem j_aret (X : px_X p s m args cd cc nL Ts own G D cl tys A ad n) {C : String} (hr : meth.sig.returnType = some (.object C)) (hk : meth.locks = false) {v : Nat} {res : Option Value} {c1 : Nat → va_E} (hv : res = some (.ref v)) (hc : c = c1) (hd : decode cc pc = .ok (.areturn, 1)) :
    px_J p l e R s m args below meth cd D cl (px_A ad n s.heap.size) ad n nL 0 0 (MQ below (px_Qc D cl ad n s.heap.size res c1) args s 0 0 (px_A ad n s.heap.size)) c pc L [.ref v] := by
  intro ls H locs h1 h2 h3
  subst hv; subst hc
  exact W.aret X.1.1 X.1.2.1 hr (Or.inl ⟨C, rfl⟩) (Or.inr ⟨v, rfl⟩) (fun t ht _ => ⟨rfl, by rw [ht]; exact h2, h3.F ht⟩) h3.2.2 hd hk
theorem px_AA (X : px_X p s m args cd cc nL Ts own G D cl tys A ad n) {H : Heap} {locs : List Loc} (h3 : va_S A s.heap H locs) : ∀ q, px_A ad n H.size q → A q := fun q h => by
  rcases h with ⟨i, hi, rfl⟩ | h
  · exact X.2.2.2.1 i hi
  · exact X.2.2.2.2.1 q (Nat.le_trans h3.1 h)
theorem j_run (X : px_X p s m args cd cc nL Ts own G D cl tys A ad n) {As0 : Array Value} {res : Option Value} {c1 : Nat → va_E} {st0 : List Value}
    (hr : ∀ (ls : Array Slot) (H : Heap) (locs : List Loc), lv_has ls nL L → va_P D cl (px_W ad c n) H → va_S A s.heap H locs → va_Run p l e R s m args below meth cd H locs cells slots 0 0 (F0 m pc ls st0) st (px_Qc D cl ad n H.size res c1 As0) (px_A ad n H.size))
    (kk : px_J p l e R s m args below meth cd D cl A ad n nL cells slots Q c1 (pc + 3) L (res.toList ++ st)) : px_J p l e R s m args below meth cd D cl A ad n nL cells slots Q c pc L st0 := by
  intro ls H locs h1 h2 h3 T hT Y
  obtain ⟨v, st₀, t, T', L', e0, Y', hL, e1, e2, ⟨hv, hP, hz, hk⟩, go⟩ := hr ls H locs h1 h2 h3 T hT Y
  cases hv
  rw [e0] at hz hk
  have hA := px_AA X h3
  obtain ⟨t2, a1, b1⟩ := kk ls T'.heap (locs ++ L') h1 (by rw [e1]; exact hP) ⟨Nat.le_trans h3.1 (by rw [e1]; exact hz), fun q g1 g2 => by rw [e1, hk q (Nat.lt_of_lt_of_le g1 h3.1) (fun z => g2 (hA q z))]; exact h3.2.1 q g1 g2, fun q hq => by
    rcases List.mem_append.mp hq with h | h
    · exact h3.2.2 q h
    · exact hA _ (hL q h)⟩ T' rfl Y'
  exact ⟨t2, go t2 a1, b1⟩
theorem px_pre (X : px_X p s m args cd cc nL Ts own G D cl tys A ad n) {H : Heap} {locs : List Loc} {As : List Value} (h2 : va_P D cl (px_W ad c n) H) (h3 : va_S A s.heap H locs) : ∀ U : State, U.heap = H → s.WarmedH U.vm → px_Pc G D cl tys As ad c n H.size As.toArray U := fun U hU hW =>
  ⟨rfl, by rw [hU], by rw [hU]; exact h2, va_K.moved hW.alike X.2.1, X.2.2.1, X.2.2.2.2.2.1.2 A _ s U H locs X.2.2.2.2.2.2 h3 (px_AA X h3) hW hU⟩
/-- words that every state with the same tables keeps -/
def px_Ok (Ts : List Cond) : Prop := ∀ w ∈ Ts, (w.onTables && w.keeps) = true ∨ ∃ ty, w = .arrayClass ty
/-- what a call needs of the tables, whoever calls -/
def px_Y (Ts : List Cond) (y : MethodName) (bytes : ByteArray) (maxL : Nat) (ret : Option FieldType) (na : Nat) : Prop :=
  px_Ok Ts ∧ Cond.code y bytes maxL ret ∈ Ts ∧ Cond.initialized y.cls ∈ Ts ∧ y.cls ≠ "java/lang/invoke/MethodHandle" ∧ y.cls ≠ "java/lang/invoke/VarHandle" ∧ (parseMethodDescriptor y.desc).map (fun d => d.parameters.length) = some na
theorem px_good {y : MethodName} {bytes : ByteArray} {maxL na : Nat} {ret : Option FieldType} (h : px_Y Ts y bytes maxL ret na) : GoodIn Ts (Cond.code y bytes maxL ret :: Ts) := by
  intro w hw
  have : w ∈ Ts := by
    rcases List.mem_cons.mp hw with rfl | h2
    · exact h.2.1
    · exact h2
  exact ⟨this, h.1 w this⟩
theorem px_CB {y : MethodName} {bytes : ByteArray} {maxL na index : Nat} {ret : Option FieldType} {rm : Room} (hts : ∀ w ∈ Ts, w.before args s = true) (h : px_Y Ts y bytes maxL ret na) (hl : Cond.methodLink own index y ∈ Ts) (hc : rm.cells = 0) (hs : rm.slots = 0) (hR : rm.frames + 1 ≤ R.frames ∧ 8 + (maxL + 11) + rm.locals ≤ R.locals) :
    CallB R s args own index y bytes maxL ret (Cond.code y bytes maxL ret :: Ts) rm 0 0 na :=
  callB_of na hts (px_good h) rfl hc hs (hts _ h.2.2.1) (hts _ hl) h.2.2.2 hR
theorem px_CN {y : MethodName} {bytes : ByteArray} {maxL na index : Nat} {ret : Option FieldType} {rm : Room} {host : String} (hts : ∀ w ∈ Ts, w.before args s = true) (h : px_Y Ts y bytes maxL ret na) (hl : va_Nw (.methodLinkNest own index y host) s) (hc : rm.cells = 0) (hs : rm.slots = 0) (hR : rm.frames + 1 ≤ R.frames ∧ 8 + (maxL + 11) + rm.locals ≤ R.locals) :
    va_CN R s args own index y host bytes maxL ret (Cond.code y bytes maxL ret :: Ts) rm 0 0 na :=
  va_cnB na hts (px_good h) rfl hc hs hl (hts _ h.2.2.1) h.2.2.2 hR
section PXC
variable {y : MethodName} {bytes : ByteArray} {maxL na index : Nat} {ret : Option FieldType} {rm : Room} {As : List Value} {res : Option Value} {c1 : Nat → va_E} {st0 : List Value}
/-- invokevirtual of a method of the receiver's own class -/
theorem j_callV (X : px_X p s m args cd cc nL Ts own G D cl tys A ad n) (i : Nat) (hi : i < n) (hY : px_Y Ts y bytes maxL ret na) (hM : px_M l y (Cond.code y bytes maxL ret :: Ts) rm G D cl tys (.ref (ad i) :: As) ad c n res c1) (hl : Cond.methodLink own index y ∈ Ts) (hin : Cond.instanceMethod y ∈ Ts) (hse : Cond.selects y.cls y y ∈ Ts)
    {ci : Nat} {fs : List Value} {T : u_T} {N : Nat} (he : c i = .inr (ci, fs)) (hc : cl[ci]? = some (y.cls, T, N)) (hn : As.length = na) (hst : st0 = As.reverse ++ .ref (ad i) :: st) (hW : (st.map fun v => v.category).sum ≤ 8) (hd : decode cc pc = .ok (.invokevirtual index, 3)) (hrc : rm.cells = 0) (hrs : rm.slots = 0) (hR : rm.frames + 1 ≤ R.frames ∧ 8 + (maxL + 11) + rm.locals ≤ R.locals) (hf : cells ≤ R.cells ∧ slots ≤ R.slots)
    (kk : px_J p l e R s m args below meth cd D cl A ad n nL cells slots Q c1 (pc + 3) L (res.toList ++ st)) : px_J p l e R s m args below meth cd D cl A ad n nL cells slots Q c pc L st0 :=
  j_run X (fun ls H locs h1 h2 h3 => va_runV (C := y.cls) X.1 (hM H.size) ⟨px_CB X.1.2.2.2.2 hY hl hrc hrs hR, X.1.2.2.2.2 _ hin, X.1.2.2.2.2 _ hse⟩ ⟨px_blind X.2.2.2.2.2.1, va_recv X.2.1 h2 hc (by rw [px_at hi, he]), px_pre X h2 h3⟩ rfl hn h1.1 hst (lv_room hW) hd hf) kk
/-- invokevirtual of a private method of the nest -/
theorem j_callVN {host : String} (X : px_X p s m args cd cc nL Ts own G D cl tys A ad n) (i : Nat) (hi : i < n) (hY : px_Y Ts y bytes maxL ret na) (hM : px_M l y (Cond.code y bytes maxL ret :: Ts) rm G D cl tys (.ref (ad i) :: As) ad c n res c1) (hl : va_Nw (.methodLinkNest own index y host) s) (hin : Cond.instanceMethod y ∈ Ts) (hse : Cond.selects y.cls y y ∈ Ts)
    {ci : Nat} {fs : List Value} {T : u_T} {N : Nat} (he : c i = .inr (ci, fs)) (hc : cl[ci]? = some (y.cls, T, N)) (hn : As.length = na) (hst : st0 = As.reverse ++ .ref (ad i) :: st) (hW : (st.map fun v => v.category).sum ≤ 8) (hd : decode cc pc = .ok (.invokevirtual index, 3)) (hrc : rm.cells = 0) (hrs : rm.slots = 0) (hR : rm.frames + 1 ≤ R.frames ∧ 8 + (maxL + 11) + rm.locals ≤ R.locals) (hf : cells ≤ R.cells ∧ slots ≤ R.slots)
    (kk : px_J p l e R s m args below meth cd D cl A ad n nL cells slots Q c1 (pc + 3) L (res.toList ++ st)) : px_J p l e R s m args below meth cd D cl A ad n nL cells slots Q c pc L st0 :=
  j_run X (fun ls H locs h1 h2 h3 => va_runVN (C := y.cls) X.1 (hM H.size) ⟨px_CN X.1.2.2.2.2 hY hl hrc hrs hR, X.1.2.2.2.2 _ hin, X.1.2.2.2.2 _ hse⟩ ⟨px_blind X.2.2.2.2.2.1, va_recv X.2.1 h2 hc (by rw [px_at hi, he]), px_pre X h2 h3⟩ rfl hn h1.1 hst (lv_room hW) hd hf) kk
/-- invokestatic -/
theorem j_callS (X : px_X p s m args cd cc nL Ts own G D cl tys A ad n) (hY : px_Y Ts y bytes maxL ret na) (hM : px_M l y (Cond.code y bytes maxL ret :: Ts) rm G D cl tys As ad c n res c1) (hl : Cond.methodLink own index y ∈ Ts) (hsy : Cond.static y ∈ Ts)
    (hn : As.length = na) (hst : st0 = As.reverse ++ st) (hW : (st.map fun v => v.category).sum ≤ 8) (hd : decode cc pc = .ok (.invokestatic index, 3)) (hrc : rm.cells = 0) (hrs : rm.slots = 0) (hR : rm.frames + 1 ≤ R.frames ∧ 8 + (maxL + 11) + rm.locals ≤ R.locals) (hf : cells ≤ R.cells ∧ slots ≤ R.slots)
    (kk : px_J p l e R s m args below meth cd D cl A ad n nL cells slots Q c1 (pc + 3) L (res.toList ++ st)) : px_J p l e R s m args below meth cd D cl A ad n nL cells slots Q c pc L st0 :=
  j_run X (fun ls H locs h1 h2 h3 => va_runS X.1 (hM H.size) ⟨px_CB X.1.2.2.2.2 hY hl hrc hrs hR, X.1.2.2.2.2 _ hsy⟩ ⟨px_blind X.2.2.2.2.2.1, px_pre X h2 h3⟩ rfl hn h1.1 hst (lv_room hW) hd hf) kk
theorem j_callSN {host : String} (X : px_X p s m args cd cc nL Ts own G D cl tys A ad n) (hY : px_Y Ts y bytes maxL ret na) (hM : px_M l y (Cond.code y bytes maxL ret :: Ts) rm G D cl tys As ad c n res c1) (hl : va_Nw (.methodLinkNest own index y host) s) (hsy : Cond.static y ∈ Ts)
    (hn : As.length = na) (hst : st0 = As.reverse ++ st) (hW : (st.map fun v => v.category).sum ≤ 8) (hd : decode cc pc = .ok (.invokestatic index, 3)) (hrc : rm.cells = 0) (hrs : rm.slots = 0) (hR : rm.frames + 1 ≤ R.frames ∧ 8 + (maxL + 11) + rm.locals ≤ R.locals) (hf : cells ≤ R.cells ∧ slots ≤ R.slots)
    (kk : px_J p l e R s m args below meth cd D cl A ad n nL cells slots Q c1 (pc + 3) L (res.toList ++ st)) : px_J p l e R s m args below meth cd D cl A ad n nL cells slots Q c pc L st0 :=
  j_run X (fun ls H locs h1 h2 h3 => va_runSN X.1 (hM H.size) ⟨px_CN X.1.2.2.2.2 hY hl hrc hrs hR, X.1.2.2.2.2 _ hsy, trivial⟩ ⟨px_blind X.2.2.2.2.2.1, px_pre X h2 h3⟩ rfl hn h1.1 hst (lv_room hW) hd hf) kk
def px_U (Ts : List Cond) (own : String) (index : Nat) (C owner : String) (x y : MethodName) (na : Nat) : Prop :=
  Cond.methodLink own index x ∈ Ts ∧ Cond.sameMethod x.cls owner x.name x.desc ∈ Ts ∧ Cond.selects C x y ∈ Ts ∧ Cond.instanceMethod y ∈ Ts ∧ y = ⟨owner, x.name, x.desc⟩ ∧ owner ≠ "java/lang/invoke/MethodHandle" ∧ owner ≠ "java/lang/invoke/VarHandle" ∧ (parseMethodDescriptor x.desc).map (fun d => d.parameters.length) = some na
theorem px_goodU {x : MethodName} {C owner : String} (h : px_Y Ts y bytes maxL ret na) (u : px_U Ts own index C owner x y na) : GoodIn Ts (va_wsU own index C owner x y (Cond.code y bytes maxL ret :: Ts)) := by
  intro w hw
  have : w ∈ Ts := by
    unfold va_wsU at hw
    rcases List.mem_append.mp hw with h2 | h2
    · simp only [List.mem_cons, List.not_mem_nil, or_false] at h2
      rcases h2 with rfl | rfl | rfl | rfl | rfl
      · exact u.1
      · exact u.2.1
      · exact u.2.2.1
      · exact u.2.2.2.1
      · exact h.2.2.1
    · exact (px_good h w h2).1
  exact ⟨this, h.1 w this⟩
/-- invokevirtual of a method that the receiver's class inherits -/
theorem j_callU {x : MethodName} {C owner : String} (X : px_X p s m args cd cc nL Ts own G D cl tys A ad n) (i : Nat) (hi : i < n) (hY : px_Y Ts y bytes maxL ret na) (hM : px_M l y (Cond.code y bytes maxL ret :: Ts) rm G D cl tys (.ref (ad i) :: As) ad c n res c1) (hU : px_U Ts own index C owner x y na)
    {ci : Nat} {fs : List Value} {T : u_T} {N : Nat} (he : c i = .inr (ci, fs)) (hc : cl[ci]? = some (C, T, N)) (hn : As.length = na) (hst : st0 = As.reverse ++ .ref (ad i) :: st) (hW : (st.map fun v => v.category).sum ≤ 8) (hd : decode cc pc = .ok (.invokevirtual index, 3)) (hrc : rm.cells = 0) (hrs : rm.slots = 0) (hR : rm.frames + 1 ≤ R.frames ∧ 8 + (maxL + 11) + rm.locals ≤ R.locals) (hf : cells ≤ R.cells ∧ slots ≤ R.slots)
    (kk : px_J p l e R s m args below meth cd D cl A ad n nL cells slots Q c1 (pc + 3) L (res.toList ++ st)) : px_J p l e R s m args below meth cd D cl A ad n nL cells slots Q c pc L st0 :=
  j_run X (fun ls H locs h1 h2 h3 => va_runU (C := C) X.1 (hM H.size) (va_cwU na X.1.2.2.2.2 (px_goodU hY hU) rfl hrc hrs hU.2.2.2.2.1 hU.2.2.2.2.2 hR) ⟨px_blind X.2.2.2.2.2.1, va_recv X.2.1 h2 hc (by rw [px_at hi, he]), px_pre X h2 h3⟩ rfl hn h1.1 hst (lv_room hW) hd hf) kk
end PXC
end PXR
end
section
/-! methods that read no cell and write none (px_P), and walks in which nothing has been written yet (px_Z) -/
def px_Z (p : Program) (l : Launch) (e : Env) (R : Room) (s : State) (m : MethodId) (args : Array Value) (below : List Frame) (meth : Method) (cd : Code) (nL : Nat) (Q : State → Prop) (pc : Nat) (L : List (Nat × Value)) (st : List Value) : Prop :=
  ∀ (ls : Array Slot), lv_has ls nL L → W p l e R s m args below meth cd s.heap [] 0 0 Q (F0 m pc ls st)
def px_Qp (res : Option Value) : Array Value → State → Outcome → State → Prop := fun _ st o t => o = .returned res ∧ t.heap = st.heap
def px_P (l : Launch) (y : MethodName) (ws : List Cond) (rm : Room) (As : List Value) (res : Option Value) : Prop :=
  Met l y ws rm (fun a _ => a = As.toArray) (px_Qp res) 0 0 (fun _ => False)
section PZR
variable {p : Program} {l : Launch} {e : Env} {R : Room} {s : State} {m : MethodId} {args : Array Value} {below : List Frame} {meth : Method} {cd : Code} {Q : State → Prop} {cells slots : Nat}
variable {cc : ByteArray} {Ts : List Cond} {own : String} {G : (Nat → Prop) → State → Prop} {D : va_G} {cl : List vw_C} {A : Nat → Prop} {tys : List (ClassId × FieldType)} {ad : Nat → Nat} {n nL : Nat} {c : Nat → va_E} {pc : Nat} {L : List (Nat × Value)} {st : List Value}
theorem z_iconst (X : CallFix p m cd cc nL s args Ts own) {k : Int} {v : Int32} (hd : decode cc pc = .ok (.iconst k, 1)) (hv : Int32.ofInt k = v) (kk : px_Z p l e R s m args below meth cd nL Q (pc + 1) L (.int v :: st)) : px_Z p l e R s m args below meth cd nL Q pc L (st) := fun ls h1 => lv_iconst X.1 X.2.1 hd hv (kk ls h1)
theorem z_bipush (X : CallFix p m cd cc nL s args Ts own) {k : Int} {v : Int32} (hd : decode cc pc = .ok (.bipush k, 2)) (hv : (Int8.ofInt k).toInt32 = v) (kk : px_Z p l e R s m args below meth cd nL Q (pc + 2) L (.int v :: st)) : px_Z p l e R s m args below meth cd nL Q pc L (st) := fun ls h1 => lv_bipush X.1 X.2.1 hd hv (kk ls h1)
theorem z_sipush (X : CallFix p m cd cc nL s args Ts own) {k : Int} {v : Int32} (hd : decode cc pc = .ok (.sipush k, 3)) (hv : (Int16.ofInt k).toInt32 = v) (kk : px_Z p l e R s m args below meth cd nL Q (pc + 3) L (.int v :: st)) : px_Z p l e R s m args below meth cd nL Q pc L (st) := fun ls h1 => lv_sipush X.1 X.2.1 hd hv (kk ls h1)
theorem z_iadd (X : CallFix p m cd cc nL s args Ts own) {x y : Int32} (hd : decode cc pc = .ok (.iadd, 1)) (kk : px_Z p l e R s m args below meth cd nL Q (pc + 1) L (.int (x + y) :: st)) : px_Z p l e R s m args below meth cd nL Q pc L (.int y :: .int x :: st) := fun ls h1 => lv_iadd X.1 X.2.1 hd (kk ls h1)
theorem z_isub (X : CallFix p m cd cc nL s args Ts own) {x y : Int32} (hd : decode cc pc = .ok (.isub, 1)) (kk : px_Z p l e R s m args below meth cd nL Q (pc + 1) L (.int (x - y) :: st)) : px_Z p l e R s m args below meth cd nL Q pc L (.int y :: .int x :: st) := fun ls h1 => lv_isub X.1 X.2.1 hd (kk ls h1)
theorem z_imul (X : CallFix p m cd cc nL s args Ts own) {x y : Int32} (hd : decode cc pc = .ok (.imul, 1)) (kk : px_Z p l e R s m args below meth cd nL Q (pc + 1) L (.int (x * y) :: st)) : px_Z p l e R s m args below meth cd nL Q pc L (.int y :: .int x :: st) := fun ls h1 => lv_imul X.1 X.2.1 hd (kk ls h1)
theorem z_iand (X : CallFix p m cd cc nL s args Ts own) {x y : Int32} (hd : decode cc pc = .ok (.iand, 1)) (kk : px_Z p l e R s m args below meth cd nL Q (pc + 1) L (.int (x &&& y) :: st)) : px_Z p l e R s m args below meth cd nL Q pc L (.int y :: .int x :: st) := fun ls h1 => lv_iand X.1 X.2.1 hd (kk ls h1)
theorem z_ior (X : CallFix p m cd cc nL s args Ts own) {x y : Int32} (hd : decode cc pc = .ok (.ior, 1)) (kk : px_Z p l e R s m args below meth cd nL Q (pc + 1) L (.int (x ||| y) :: st)) : px_Z p l e R s m args below meth cd nL Q pc L (.int y :: .int x :: st) := fun ls h1 => lv_ior X.1 X.2.1 hd (kk ls h1)
theorem z_ixor (X : CallFix p m cd cc nL s args Ts own) {x y : Int32} (hd : decode cc pc = .ok (.ixor, 1)) (kk : px_Z p l e R s m args below meth cd nL Q (pc + 1) L (.int (x ^^^ y) :: st)) : px_Z p l e R s m args below meth cd nL Q pc L (.int y :: .int x :: st) := fun ls h1 => lv_ixor X.1 X.2.1 hd (kk ls h1)
theorem z_idiv (X : CallFix p m cd cc nL s args Ts own) {x y : Int32} (hd : decode cc pc = .ok (.idiv, 1)) (hne : ¬ y = 0) (kk : px_Z p l e R s m args below meth cd nL Q (pc + 1) L (.int (x / y) :: st)) : px_Z p l e R s m args below meth cd nL Q pc L (.int y :: .int x :: st) := fun ls h1 => lv_idiv X.1 X.2.1 hd hne (kk ls h1)
theorem z_irem (X : CallFix p m cd cc nL s args Ts own) {x y : Int32} (hd : decode cc pc = .ok (.irem, 1)) (hne : ¬ y = 0) (kk : px_Z p l e R s m args below meth cd nL Q (pc + 1) L (.int (x - x / y * y) :: st)) : px_Z p l e R s m args below meth cd nL Q pc L (.int y :: .int x :: st) := fun ls h1 => lv_irem X.1 X.2.1 hd hne (kk ls h1)
theorem z_ineg (X : CallFix p m cd cc nL s args Ts own) {x : Int32} (hd : decode cc pc = .ok (.ineg, 1)) (kk : px_Z p l e R s m args below meth cd nL Q (pc + 1) L (.int (-x) :: st)) : px_Z p l e R s m args below meth cd nL Q pc L (.int x :: st) := fun ls h1 => lv_ineg X.1 X.2.1 hd (kk ls h1)
theorem z_ishl (X : CallFix p m cd cc nL s args Ts own) {x y : Int32} (hd : decode cc pc = .ok (.ishl, 1)) (kk : px_Z p l e R s m args below meth cd nL Q (pc + 1) L (.int (x <<< (y &&& 31)) :: st)) : px_Z p l e R s m args below meth cd nL Q pc L (.int y :: .int x :: st) := fun ls h1 => lv_ishl X.1 X.2.1 hd (kk ls h1)
theorem z_ishr (X : CallFix p m cd cc nL s args Ts own) {x y : Int32} (hd : decode cc pc = .ok (.ishr, 1)) (kk : px_Z p l e R s m args below meth cd nL Q (pc + 1) L (.int (x >>> (y &&& 31)) :: st)) : px_Z p l e R s m args below meth cd nL Q pc L (.int y :: .int x :: st) := fun ls h1 => lv_ishr X.1 X.2.1 hd (kk ls h1)
theorem z_iushr (X : CallFix p m cd cc nL s args Ts own) {x y v : Int32} (hd : decode cc pc = .ok (.iushr, 1)) (hv : (x.toUInt32 >>> (y.toUInt32 &&& Int32.toUInt32 31)).toInt32 = v) (kk : px_Z p l e R s m args below meth cd nL Q (pc + 1) L (.int v :: st)) : px_Z p l e R s m args below meth cd nL Q pc L (.int y :: .int x :: st) := fun ls h1 => lv_iushr X.1 X.2.1 hd hv (kk ls h1)
theorem z_i2l (X : CallFix p m cd cc nL s args Ts own) {x : Int32} {v : Int64} (hd : decode cc pc = .ok (.i2l, 1)) (hv : x.toInt64 = v) (kk : px_Z p l e R s m args below meth cd nL Q (pc + 1) L (.long v :: st)) : px_Z p l e R s m args below meth cd nL Q pc L (.int x :: st) := fun ls h1 => lv_i2l X.1 X.2.1 hd hv (kk ls h1)
theorem z_dup (X : CallFix p m cd cc nL s args Ts own) {va : Value} (hd : decode cc pc = .ok (.dup, 1)) (ha : va.category = 1) (kk : px_Z p l e R s m args below meth cd nL Q (pc + 1) L (va :: va :: st)) : px_Z p l e R s m args below meth cd nL Q pc L (va :: st) := fun ls h1 => lv_dup X.1 X.2.1 hd ha (kk ls h1)
theorem z_pop (X : CallFix p m cd cc nL s args Ts own) {va : Value} (hd : decode cc pc = .ok (.pop, 1)) (ha : va.category = 1) (kk : px_Z p l e R s m args below meth cd nL Q (pc + 1) L (st)) : px_Z p l e R s m args below meth cd nL Q pc L (va :: st) := fun ls h1 => lv_pop X.1 X.2.1 hd ha (kk ls h1)
theorem z_dup_x1 (X : CallFix p m cd cc nL s args Ts own) {va vb : Value} (hd : decode cc pc = .ok (.dup_x1, 1)) (ha : va.category = 1) (hb : vb.category = 1) (kk : px_Z p l e R s m args below meth cd nL Q (pc + 1) L (va :: vb :: va :: st)) : px_Z p l e R s m args below meth cd nL Q pc L (va :: vb :: st) := fun ls h1 => lv_dup_x1 X.1 X.2.1 hd ha hb (kk ls h1)
theorem z_dup2_11 (X : CallFix p m cd cc nL s args Ts own) {va vb : Value} (hd : decode cc pc = .ok (.dup2, 1)) (ha : va.category = 1) (hb : vb.category = 1) (kk : px_Z p l e R s m args below meth cd nL Q (pc + 1) L (va :: vb :: va :: vb :: st)) : px_Z p l e R s m args below meth cd nL Q pc L (va :: vb :: st) := fun ls h1 => lv_dup2_11 X.1 X.2.1 hd ha hb (kk ls h1)
theorem z_null (X : CallFix p m cd cc nL s args Ts own)  (hd : decode cc pc = .ok (.aconst_null, 1)) (kk : px_Z p l e R s m args below meth cd nL Q (pc + 1) L (.null :: st)) : px_Z p l e R s m args below meth cd nL Q pc L (st) := fun ls h1 => lv_null X.1 X.2.1 hd (kk ls h1)
theorem z_iload_n (X : CallFix p m cd cc nL s args Ts own) {k : Fin 4} (hd : decode cc pc = .ok (.iload_n k, 1)) (q : Nat) {x : Int32} (hL : L[q]? = some ((k : Nat), .int x)) (kk : px_Z p l e R s m args below meth cd nL Q (pc + 1) L (.int x :: st)) : px_Z p l e R s m args below meth cd nL Q pc L (st) := fun ls h1 => lv_iload_n X.1 X.2.1 hd rfl (lv_at h1 q hL) (kk ls h1)
theorem z_iload (X : CallFix p m cd cc nL s args Ts own) {k : Nat} (hd : decode cc pc = .ok (.iload k, 2)) (q : Nat) {x : Int32} (hL : L[q]? = some (k, .int x)) (kk : px_Z p l e R s m args below meth cd nL Q (pc + 2) L (.int x :: st)) : px_Z p l e R s m args below meth cd nL Q pc L (st) := fun ls h1 => lv_iload X.1 X.2.1 hd (lv_at h1 q hL) (kk ls h1)
theorem z_istore_n (X : CallFix p m cd cc nL s args Ts own) {k : Fin 4} {x : Int32} (hd : decode cc pc = .ok (.istore_n k, 1)) (L' : List (Nat × Value)) (hn : (k : Nat) < nL) (hl : ((k : Nat), Value.int x) :: L.filter (fun q => !(q.1 == (k : Nat)) && !(q.1 + 1 == (k : Nat) && q.2.category == 2)) = L') (kk : px_Z p l e R s m args below meth cd nL Q (pc + 1) L' st) : px_Z p l e R s m args below meth cd nL Q pc L (.int x :: st) := fun ls h1 => lv_istore_n X.1 X.2.1 hd rfl h1 hn hl (fun ls' h' => kk ls' h')
theorem z_istore (X : CallFix p m cd cc nL s args Ts own) {k : Nat} {x : Int32} (hd : decode cc pc = .ok (.istore k, 2)) (L' : List (Nat × Value)) (hn : k < nL) (hl : (k, Value.int x) :: L.filter (fun q => !(q.1 == (k : Nat)) && !(q.1 + 1 == (k : Nat) && q.2.category == 2)) = L') (kk : px_Z p l e R s m args below meth cd nL Q (pc + 2) L' st) : px_Z p l e R s m args below meth cd nL Q pc L (.int x :: st) := fun ls h1 => lv_istore X.1 X.2.1 hd h1 hn hl (fun ls' h' => kk ls' h')
theorem z_aload_n (X : CallFix p m cd cc nL s args Ts own) {k : Fin 4} (hd : decode cc pc = .ok (.aload_n k, 1)) (q : Nat) {x : Nat} (hL : L[q]? = some ((k : Nat), .ref x)) (kk : px_Z p l e R s m args below meth cd nL Q (pc + 1) L (.ref x :: st)) : px_Z p l e R s m args below meth cd nL Q pc L (st) := fun ls h1 => lv_aload_n X.1 X.2.1 hd rfl (lv_at h1 q hL) (kk ls h1)
theorem z_aload (X : CallFix p m cd cc nL s args Ts own) {k : Nat} (hd : decode cc pc = .ok (.aload k, 2)) (q : Nat) {x : Nat} (hL : L[q]? = some (k, .ref x)) (kk : px_Z p l e R s m args below meth cd nL Q (pc + 2) L (.ref x :: st)) : px_Z p l e R s m args below meth cd nL Q pc L (st) := fun ls h1 => lv_aload X.1 X.2.1 hd (lv_at h1 q hL) (kk ls h1)
theorem z_astore_n (X : CallFix p m cd cc nL s args Ts own) {k : Fin 4} {x : Nat} (hd : decode cc pc = .ok (.astore_n k, 1)) (L' : List (Nat × Value)) (hn : (k : Nat) < nL) (hl : ((k : Nat), Value.ref x) :: L.filter (fun q => !(q.1 == (k : Nat)) && !(q.1 + 1 == (k : Nat) && q.2.category == 2)) = L') (kk : px_Z p l e R s m args below meth cd nL Q (pc + 1) L' st) : px_Z p l e R s m args below meth cd nL Q pc L (.ref x :: st) := fun ls h1 => lv_astore_n X.1 X.2.1 hd rfl h1 hn hl (fun ls' h' => kk ls' h')
theorem z_astore (X : CallFix p m cd cc nL s args Ts own) {k : Nat} {x : Nat} (hd : decode cc pc = .ok (.astore k, 2)) (L' : List (Nat × Value)) (hn : k < nL) (hl : (k, Value.ref x) :: L.filter (fun q => !(q.1 == (k : Nat)) && !(q.1 + 1 == (k : Nat) && q.2.category == 2)) = L') (kk : px_Z p l e R s m args below meth cd nL Q (pc + 2) L' st) : px_Z p l e R s m args below meth cd nL Q pc L (.ref x :: st) := fun ls h1 => lv_astore X.1 X.2.1 hd h1 hn hl (fun ls' h' => kk ls' h')
theorem z_iinc (X : CallFix p m cd cc nL s args Ts own) {k : Nat} {a : Int} {x v : Int32} (hd : decode cc pc = .ok (.iinc k a, 3)) (q : Nat) (L' : List (Nat × Value)) (hL : L[q]? = some (k, .int x)) (hv : x + Int32.ofInt a = v) (hn : k < nL) (hl : (k, Value.int v) :: L.filter (fun q => !(q.1 == k) && !(q.1 + 1 == k && q.2.category == 2)) = L') (kk : px_Z p l e R s m args below meth cd nL Q (pc + 3) L' st) : px_Z p l e R s m args below meth cd nL Q pc L st := fun ls h1 => lv_iinc X.1 X.2.1 hd h1 hL hv hn hl (fun ls' h' => kk ls' h')
theorem z_if_eq (X : CallFix p m cd cc nL s args Ts own) {x : Int32} {off : Int} {tgt : Nat} (hd : decode cc pc = .ok (.ifCond .eq off, 3)) (ht : (pc : Int) + off = (tgt : Int)) (kt : x = 0 → px_Z p l e R s m args below meth cd nL Q tgt L st) (kf : ¬ x = 0 → px_Z p l e R s m args below meth cd nL Q (pc + 3) L st) : px_Z p l e R s m args below meth cd nL Q pc L (.int x :: st) := fun ls h1 => lv_if_eq X.1 X.2.1 hd ht (fun g => kt g ls h1) (fun g => kf g ls h1)
theorem z_if_ne (X : CallFix p m cd cc nL s args Ts own) {x : Int32} {off : Int} {tgt : Nat} (hd : decode cc pc = .ok (.ifCond .ne off, 3)) (ht : (pc : Int) + off = (tgt : Int)) (kt : ¬ x = 0 → px_Z p l e R s m args below meth cd nL Q tgt L st) (kf : x = 0 → px_Z p l e R s m args below meth cd nL Q (pc + 3) L st) : px_Z p l e R s m args below meth cd nL Q pc L (.int x :: st) := fun ls h1 => lv_if_ne X.1 X.2.1 hd ht (fun g => kt g ls h1) (fun g => kf (by first | exact g | exact Classical.not_not.mp g) ls h1)
theorem z_if_lt (X : CallFix p m cd cc nL s args Ts own) {x : Int32} {off : Int} {tgt : Nat} (hd : decode cc pc = .ok (.ifCond .lt off, 3)) (ht : (pc : Int) + off = (tgt : Int)) (kt : x < 0 → px_Z p l e R s m args below meth cd nL Q tgt L st) (kf : ¬ x < 0 → px_Z p l e R s m args below meth cd nL Q (pc + 3) L st) : px_Z p l e R s m args below meth cd nL Q pc L (.int x :: st) := fun ls h1 => lv_if_lt X.1 X.2.1 hd ht (fun g => kt g ls h1) (fun g => kf g ls h1)
theorem z_if_ge (X : CallFix p m cd cc nL s args Ts own) {x : Int32} {off : Int} {tgt : Nat} (hd : decode cc pc = .ok (.ifCond .ge off, 3)) (ht : (pc : Int) + off = (tgt : Int)) (kt : 0 ≤ x → px_Z p l e R s m args below meth cd nL Q tgt L st) (kf : ¬ 0 ≤ x → px_Z p l e R s m args below meth cd nL Q (pc + 3) L st) : px_Z p l e R s m args below meth cd nL Q pc L (.int x :: st) := fun ls h1 => lv_if_ge X.1 X.2.1 hd ht (fun g => kt g ls h1) (fun g => kf g ls h1)
theorem z_if_gt (X : CallFix p m cd cc nL s args Ts own) {x : Int32} {off : Int} {tgt : Nat} (hd : decode cc pc = .ok (.ifCond .gt off, 3)) (ht : (pc : Int) + off = (tgt : Int)) (kt : 0 < x → px_Z p l e R s m args below meth cd nL Q tgt L st) (kf : ¬ 0 < x → px_Z p l e R s m args below meth cd nL Q (pc + 3) L st) : px_Z p l e R s m args below meth cd nL Q pc L (.int x :: st) := fun ls h1 => lv_if_gt X.1 X.2.1 hd ht (fun g => kt g ls h1) (fun g => kf g ls h1)
theorem z_if_le (X : CallFix p m cd cc nL s args Ts own) {x : Int32} {off : Int} {tgt : Nat} (hd : decode cc pc = .ok (.ifCond .le off, 3)) (ht : (pc : Int) + off = (tgt : Int)) (kt : x ≤ 0 → px_Z p l e R s m args below meth cd nL Q tgt L st) (kf : ¬ x ≤ 0 → px_Z p l e R s m args below meth cd nL Q (pc + 3) L st) : px_Z p l e R s m args below meth cd nL Q pc L (.int x :: st) := fun ls h1 => lv_if_le X.1 X.2.1 hd ht (fun g => kt g ls h1) (fun g => kf g ls h1)
theorem z_icmp_eq (X : CallFix p m cd cc nL s args Ts own) {x y : Int32} {off : Int} {tgt : Nat} (hd : decode cc pc = .ok (.if_icmp .eq off, 3)) (ht : (pc : Int) + off = (tgt : Int)) (kt : x = y → px_Z p l e R s m args below meth cd nL Q tgt L st) (kf : ¬ x = y → px_Z p l e R s m args below meth cd nL Q (pc + 3) L st) : px_Z p l e R s m args below meth cd nL Q pc L (.int y :: .int x :: st) := fun ls h1 => lv_icmp_eq X.1 X.2.1 hd ht (fun g => kt g ls h1) (fun g => kf g ls h1)
theorem z_icmp_ne (X : CallFix p m cd cc nL s args Ts own) {x y : Int32} {off : Int} {tgt : Nat} (hd : decode cc pc = .ok (.if_icmp .ne off, 3)) (ht : (pc : Int) + off = (tgt : Int)) (kt : ¬ x = y → px_Z p l e R s m args below meth cd nL Q tgt L st) (kf : x = y → px_Z p l e R s m args below meth cd nL Q (pc + 3) L st) : px_Z p l e R s m args below meth cd nL Q pc L (.int y :: .int x :: st) := fun ls h1 => lv_icmp_ne X.1 X.2.1 hd ht (fun g => kt g ls h1) (fun g => kf (by first | exact g | exact Classical.not_not.mp g) ls h1)
theorem z_icmp_lt (X : CallFix p m cd cc nL s args Ts own) {x y : Int32} {off : Int} {tgt : Nat} (hd : decode cc pc = .ok (.if_icmp .lt off, 3)) (ht : (pc : Int) + off = (tgt : Int)) (kt : x < y → px_Z p l e R s m args below meth cd nL Q tgt L st) (kf : ¬ x < y → px_Z p l e R s m args below meth cd nL Q (pc + 3) L st) : px_Z p l e R s m args below meth cd nL Q pc L (.int y :: .int x :: st) := fun ls h1 => lv_icmp_lt X.1 X.2.1 hd ht (fun g => kt g ls h1) (fun g => kf g ls h1)
theorem z_icmp_ge (X : CallFix p m cd cc nL s args Ts own) {x y : Int32} {off : Int} {tgt : Nat} (hd : decode cc pc = .ok (.if_icmp .ge off, 3)) (ht : (pc : Int) + off = (tgt : Int)) (kt : y ≤ x → px_Z p l e R s m args below meth cd nL Q tgt L st) (kf : ¬ y ≤ x → px_Z p l e R s m args below meth cd nL Q (pc + 3) L st) : px_Z p l e R s m args below meth cd nL Q pc L (.int y :: .int x :: st) := fun ls h1 => lv_icmp_ge X.1 X.2.1 hd ht (fun g => kt g ls h1) (fun g => kf g ls h1)
theorem z_icmp_gt (X : CallFix p m cd cc nL s args Ts own) {x y : Int32} {off : Int} {tgt : Nat} (hd : decode cc pc = .ok (.if_icmp .gt off, 3)) (ht : (pc : Int) + off = (tgt : Int)) (kt : y < x → px_Z p l e R s m args below meth cd nL Q tgt L st) (kf : ¬ y < x → px_Z p l e R s m args below meth cd nL Q (pc + 3) L st) : px_Z p l e R s m args below meth cd nL Q pc L (.int y :: .int x :: st) := fun ls h1 => lv_icmp_gt X.1 X.2.1 hd ht (fun g => kt g ls h1) (fun g => kf g ls h1)
theorem z_icmp_le (X : CallFix p m cd cc nL s args Ts own) {x y : Int32} {off : Int} {tgt : Nat} (hd : decode cc pc = .ok (.if_icmp .le off, 3)) (ht : (pc : Int) + off = (tgt : Int)) (kt : x ≤ y → px_Z p l e R s m args below meth cd nL Q tgt L st) (kf : ¬ x ≤ y → px_Z p l e R s m args below meth cd nL Q (pc + 3) L st) : px_Z p l e R s m args below meth cd nL Q pc L (.int y :: .int x :: st) := fun ls h1 => lv_icmp_le X.1 X.2.1 hd ht (fun g => kt g ls h1) (fun g => kf g ls h1)
theorem z_goto (X : CallFix p m cd cc nL s args Ts own) {off : Int} {tgt : Nat} (hd : decode cc pc = .ok (.goto off, 3)) (ht : (pc : Int) + off = (tgt : Int)) (kk : px_Z p l e R s m args below meth cd nL Q tgt L st) : px_Z p l e R s m args below meth cd nL Q pc L st := fun ls h1 => lv_goto X.1 X.2.1 hd ht (kk ls h1)
theorem z_tableOut (X : CallFix p m cd cc nL s args Ts own) {dflt lo hi : Int} {offs : Array Int} {len : Nat} {x : Int32} {tgt : Nat} (hd : decode cc pc = .ok (.tableswitch dflt lo hi offs, len)) (h : x.toInt < lo ∨ hi < x.toInt) (ht : (pc : Int) + dflt = (tgt : Int)) (kk : px_Z p l e R s m args below meth cd nL Q tgt L st) : px_Z p l e R s m args below meth cd nL Q pc L (.int x :: st) := fun ls h1 => lv_tableOut X.1 X.2.1 hd h ht (kk ls h1)
theorem z_tableIn (X : CallFix p m cd cc nL s args Ts own) {dflt lo hi : Int} {offs : Array Int} {len : Nat} {x : Int32} {off : Int} {tgt : Nat} (hd : decode cc pc = .ok (.tableswitch dflt lo hi offs, len)) (g1 : ¬ x.toInt < lo) (g2 : ¬ hi < x.toInt) (ho : offs[(x.toInt - lo).toNat]? = some off) (ht : (pc : Int) + off = (tgt : Int)) (kk : px_Z p l e R s m args below meth cd nL Q tgt L st) : px_Z p l e R s m args below meth cd nL Q pc L (.int x :: st) := fun ls h1 => lv_tableIn X.1 X.2.1 hd g1 g2 ho ht (kk ls h1)
theorem z_ldc (X : CallFix p m cd cc nL s args Ts own) {index : Nat} {v : Int32} (hc : Cond.constant own index v ∈ Ts) (hd : decode cc pc = .ok (.ldc index, 2)) (kk : px_Z p l e R s m args below meth cd nL Q (pc + 2) L (.int v :: st)) : px_Z p l e R s m args below meth cd nL Q pc L st := fun ls h1 => lv_ldc X.1 X.2.1 X.2.2.2.1 (X.2.2.2.2 _ hc) hd (kk ls h1)
theorem z_topi {x : Int32} (kk : ∀ y : Int32, y = x → px_Z p l e R s m args below meth cd nL Q pc L (.int y :: st)) : px_Z p l e R s m args below meth cd nL Q pc L (.int x :: st) := kk x rfl
theorem px_startP {y : MethodName} {ret : Option FieldType} {rm : Room} {As : List Value} {res : Option Value} (hy : plainName y.cls = true) (hlen : (lg_sl As).length ≤ nL)
    (body : ∀ (p : Program) (e : Env) (s : State) (m : MethodId) (args : Array Value) (below : List Frame) (meth : Method) (cd : Code), CallFix p m cd cc nL s args Ts y.cls → meth.sig.returnType = ret → meth.locks = false →
      px_Z p l e rm s m args below meth cd nL (MQ below (px_Qp res) args s 0 0 (fun _ => False)) 0 (lv_args 0 As) []) :
    px_P l y (Cond.code y cc nL ret :: Ts) rm As res := by
  refine Met.ofW (cc := cc) (maxL := nL) (ret := ret) hy rfl ?_
  intro p e s m args below meth cd s₁ B hml hv
  cases hv
  have hts := atoms_spec (ws := Cond.code y cc nL ret :: Ts) B.pre
  have hl := lv_entry As (n := nL) hlen
  rw [lg_entry_eq]
  exact body p e s m _ below meth cd ⟨B.exec, B.bytes, hml, findClass_of_methodNamed B.named, fun w h => hts w (List.mem_cons_of_mem _ h)⟩ B.returns B.notSynchronized _ hl
theorem z_iret (X : CallFix p m cd cc nL s args Ts own) (hr : meth.sig.returnType = some .int) (hk : meth.locks = false) {v : Int32} {res : Option Value} (hv : res = some (.int v)) (hd : decode cc pc = .ok (.ireturn, 1)) :
    px_Z p l e R s m args below meth cd nL (MQ below (px_Qp res) args s 0 0 (fun _ => False)) pc L [.int v] := by
  intro ls h1
  subst hv
  exact W.iret X.1 X.2.1 hr (fun t ht _ => ⟨rfl, ht⟩) (fun q h => by cases h) hd hk
theorem z_zret (X : CallFix p m cd cc nL s args Ts own) {ty : FieldType} (hr : meth.sig.returnType = some ty) (hk : meth.locks = false) {v : Int32} {res : Option Value} (hn : narrow ty (.int v) = .int v) (hv : res = some (.int v)) (hd : decode cc pc = .ok (.ireturn, 1)) :
    px_Z p l e R s m args below meth cd nL (MQ below (px_Qp res) args s 0 0 (fun _ => False)) pc L [.int v] := by
  intro ls h1
  subst hv
  exact W.zret X.1 X.2.1 hr hn (fun t ht _ => ⟨rfl, ht⟩) (fun q h => by cases h) hd hk
theorem px_none {L : List Loc} (h : ∀ q ∈ L, (fun _ : Addr => False) q.base) : L = [] := by
  cases L with
  | nil => rfl
  | cons a t => exact (h a List.mem_cons_self).elim
section PZC
variable {y : MethodName} {bytes : ByteArray} {maxL na index : Nat} {ret : Option FieldType} {rm : Room} {As : List Value} {res : Option Value} {st0 : List Value}
theorem px_runP {H : Heap} {locs : List Loc} {g : JFrame} {st : List Value} {aa : Array Value} (hr : va_Run p l e R s m args below meth cd H locs cells slots 0 0 g st (px_Qp res aa) (fun _ => False)) (kk : W p l e R s m args below meth cd H locs cells slots Q { g with pc := g.pc + 3, stack := res.toList ++ st }) : W p l e R s m args below meth cd H locs cells slots Q g := by
  intro T hT Y
  obtain ⟨v, st₀, t, T', L', e0, Y', hL, e1, e2, ⟨hv, hh⟩, go⟩ := hr T hT Y
  cases hv
  cases px_none hL
  rw [List.append_nil] at Y'
  obtain ⟨t2, a1, b1⟩ := kk T' (by rw [e1, hh, e0]) Y'
  exact ⟨t2, go t2 a1, b1⟩
theorem px_callP (X : CallFix p m cd cc nL s args Ts own) (hY : px_Y Ts y bytes maxL ret na) (hM : px_P l y (Cond.code y bytes maxL ret :: Ts) rm As res) (hl : Cond.methodLink own index y ∈ Ts) (hsy : Cond.static y ∈ Ts) {H : Heap} {locs : List Loc} {ls : Array Slot} (h1 : ls.size = nL)
    (hn : As.length = na) (hst : st0 = As.reverse ++ st) (hW : (st.map fun v => v.category).sum ≤ 8) (hd : decode cc pc = .ok (.invokestatic index, 3)) (hrc : rm.cells = 0) (hrs : rm.slots = 0) (hR : rm.frames + 1 ≤ R.frames ∧ 8 + (maxL + 11) + rm.locals ≤ R.locals) (hf : cells ≤ R.cells ∧ slots ≤ R.slots) :
    va_Run p l e R s m args below meth cd H locs cells slots 0 0 (F0 m pc ls st0) st (px_Qp res As.toArray) (fun _ => False) :=
  va_runS X hM ⟨px_CB X.2.2.2.2 hY hl hrc hrs hR, X.2.2.2.2 _ hsy⟩ ⟨fun _ _ _ _ q => q, fun _ _ _ => rfl⟩ rfl hn h1 hst (lv_room hW) hd hf
theorem px_callPN {host : String} (X : CallFix p m cd cc nL s args Ts own) (hY : px_Y Ts y bytes maxL ret na) (hM : px_P l y (Cond.code y bytes maxL ret :: Ts) rm As res) (hl : va_Nw (.methodLinkNest own index y host) s) (hsy : Cond.static y ∈ Ts) {H : Heap} {locs : List Loc} {ls : Array Slot} (h1 : ls.size = nL)
    (hn : As.length = na) (hst : st0 = As.reverse ++ st) (hW : (st.map fun v => v.category).sum ≤ 8) (hd : decode cc pc = .ok (.invokestatic index, 3)) (hrc : rm.cells = 0) (hrs : rm.slots = 0) (hR : rm.frames + 1 ≤ R.frames ∧ 8 + (maxL + 11) + rm.locals ≤ R.locals) (hf : cells ≤ R.cells ∧ slots ≤ R.slots) :
    va_Run p l e R s m args below meth cd H locs cells slots 0 0 (F0 m pc ls st0) st (px_Qp res As.toArray) (fun _ => False) :=
  va_runSN X hM ⟨px_CN X.2.2.2.2 hY hl hrc hrs hR, X.2.2.2.2 _ hsy, trivial⟩ ⟨fun _ _ _ _ q => q, fun _ _ _ => rfl⟩ rfl hn h1 hst (lv_room hW) hd hf
theorem j_callP (X : px_X p s m args cd cc nL Ts own G D cl tys A ad n) (hY : px_Y Ts y bytes maxL ret na) (hM : px_P l y (Cond.code y bytes maxL ret :: Ts) rm As res) (hl : Cond.methodLink own index y ∈ Ts) (hsy : Cond.static y ∈ Ts)
    (hn : As.length = na) (hst : st0 = As.reverse ++ st) (hW : (st.map fun v => v.category).sum ≤ 8) (hd : decode cc pc = .ok (.invokestatic index, 3)) (hrc : rm.cells = 0) (hrs : rm.slots = 0) (hR : rm.frames + 1 ≤ R.frames ∧ 8 + (maxL + 11) + rm.locals ≤ R.locals) (hf : cells ≤ R.cells ∧ slots ≤ R.slots)
    (kk : px_J p l e R s m args below meth cd D cl A ad n nL cells slots Q c (pc + 3) L (res.toList ++ st)) : px_J p l e R s m args below meth cd D cl A ad n nL cells slots Q c pc L st0 :=
  fun ls H locs h1 h2 h3 => px_runP (px_callP X.1 hY hM hl hsy h1.1 hn hst hW hd hrc hrs hR hf) (kk ls H locs h1 h2 h3)
theorem j_callPN {host : String} (X : px_X p s m args cd cc nL Ts own G D cl tys A ad n) (hY : px_Y Ts y bytes maxL ret na) (hM : px_P l y (Cond.code y bytes maxL ret :: Ts) rm As res) (hl : va_Nw (.methodLinkNest own index y host) s) (hsy : Cond.static y ∈ Ts)
    (hn : As.length = na) (hst : st0 = As.reverse ++ st) (hW : (st.map fun v => v.category).sum ≤ 8) (hd : decode cc pc = .ok (.invokestatic index, 3)) (hrc : rm.cells = 0) (hrs : rm.slots = 0) (hR : rm.frames + 1 ≤ R.frames ∧ 8 + (maxL + 11) + rm.locals ≤ R.locals) (hf : cells ≤ R.cells ∧ slots ≤ R.slots)
    (kk : px_J p l e R s m args below meth cd D cl A ad n nL cells slots Q c (pc + 3) L (res.toList ++ st)) : px_J p l e R s m args below meth cd D cl A ad n nL cells slots Q c pc L st0 :=
  fun ls H locs h1 h2 h3 => px_runP (px_callPN X.1 hY hM hl hsy h1.1 hn hst hW hd hrc hrs hR hf) (kk ls H locs h1 h2 h3)
theorem z_callP (X : CallFix p m cd cc nL s args Ts own) (hY : px_Y Ts y bytes maxL ret na) (hM : px_P l y (Cond.code y bytes maxL ret :: Ts) rm As res) (hl : Cond.methodLink own index y ∈ Ts) (hsy : Cond.static y ∈ Ts)
    (hn : As.length = na) (hst : st0 = As.reverse ++ st) (hW : (st.map fun v => v.category).sum ≤ 8) (hd : decode cc pc = .ok (.invokestatic index, 3)) (hrc : rm.cells = 0) (hrs : rm.slots = 0) (hR : rm.frames + 1 ≤ R.frames ∧ 8 + (maxL + 11) + rm.locals ≤ R.locals)
    (kk : px_Z p l e R s m args below meth cd nL Q (pc + 3) L (res.toList ++ st)) : px_Z p l e R s m args below meth cd nL Q pc L st0 :=
  fun ls h1 => px_runP (px_callP X hY hM hl hsy h1.1 hn hst hW hd hrc hrs hR ⟨Nat.zero_le _, Nat.zero_le _⟩) (kk ls h1)
end PZC
end PZR
end
section
/-! names: field tables, classes, methods; the words of the tables that stay, by their places -/
def WS : List Cond := lw_tbl.filter goodWord
theorem WS_mem {w : Cond} (i : Nat) (h : lw_tbl[i]? = some w) (hg : goodWord w = true) : w ∈ WS := List.mem_filter.mpr ⟨List.mem_of_getElem? h, hg⟩
theorem WS_ok : px_Ok WS := fun w h => good_of_word (List.mem_filter.mp h).2
theorem WS_hts {args : Array Value} {s : State} (h : ∀ w ∈ lw_tbl, w.before args s = true) : ∀ w ∈ WS, w.before args s = true := fun w hw => h w (List.mem_filter.mp hw).1
def T_Cp : u_T := fun k => match k with
  | 0 => ("ReplayMachine$Checkpoints", "kept", "[LReplayMachine$State;", true)
  | 1 => ("ReplayMachine$Checkpoints", "size", "I", false)
  | _ => ("ReplayMachine$Checkpoints", "every", "I", false)
def t_Cp : Nat → FieldType := fun k => match k with
  | 0 => .array (.object "ReplayMachine$State")
  | 1 => .int
  | _ => .int
theorem nm_Cp : ∀ a, a < 3 → ∀ b, b < 3 → a ≠ b → (T_Cp a).2.1 ≠ (T_Cp b).2.1 := by decide +kernel
theorem ty_Cp : ∀ k, k < 3 → parseFieldDescriptor (T_Cp k).2.2.1 = some (t_Cp k) := by decide +kernel
def T_Ma : u_T := fun k => match k with
  | 0 => ("ReplayMachine$Machine", "code", "[I", true)
  | 1 => ("ReplayMachine$Machine", "inputs", "[I", true)
  | 2 => ("ReplayMachine$Machine", "now", "LReplayMachine$State;", true)
  | 3 => ("ReplayMachine$Machine", "undo", "LReplayMachine$Undo;", true)
  | 4 => ("ReplayMachine$Machine", "inputCount", "I", false)
  | _ => ("ReplayMachine$Machine", "note", "LReplayMachine$Note;", false)
def t_Ma : Nat → FieldType := fun k => match k with
  | 0 => .array .int
  | 1 => .array .int
  | 2 => .object "ReplayMachine$State"
  | 3 => .object "ReplayMachine$Undo"
  | 4 => .int
  | _ => .object "ReplayMachine$Note"
theorem nm_Ma : ∀ a, a < 6 → ∀ b, b < 6 → a ≠ b → (T_Ma a).2.1 ≠ (T_Ma b).2.1 := by decide +kernel
theorem ty_Ma : ∀ k, k < 6 → parseFieldDescriptor (T_Ma k).2.2.1 = some (t_Ma k) := by decide +kernel
def T_Nt : u_T := fun k => match k with
  | 0 => ("ReplayMachine$Registers", "time", "I", false)
  | 1 => ("ReplayMachine$Registers", "pc", "I", false)
  | 2 => ("ReplayMachine$Registers", "frame", "I", false)
  | 3 => ("ReplayMachine$Registers", "x", "I", false)
  | 4 => ("ReplayMachine$Registers", "taken", "I", false)
  | 5 => ("ReplayMachine$Registers", "height", "I", false)
  | 6 => ("ReplayMachine$Registers", "changed", "I", false)
  | 7 => ("ReplayMachine$Note", "places", "[I", true)
  | 8 => ("ReplayMachine$Note", "words", "[I", true)
  | _ => ("ReplayMachine$Note", "size", "I", false)
def t_Nt : Nat → FieldType := fun k => match k with
  | 0 => .int
  | 1 => .int
  | 2 => .int
  | 3 => .int
  | 4 => .int
  | 5 => .int
  | 6 => .int
  | 7 => .array .int
  | 8 => .array .int
  | _ => .int
theorem nm_Nt : ∀ a, a < 10 → ∀ b, b < 10 → a ≠ b → (T_Nt a).2.1 ≠ (T_Nt b).2.1 := by decide +kernel
theorem ty_Nt : ∀ k, k < 10 → parseFieldDescriptor (T_Nt k).2.2.1 = some (t_Nt k) := by decide +kernel
def T_St : u_T := fun k => match k with
  | 0 => ("ReplayMachine$Registers", "time", "I", false)
  | 1 => ("ReplayMachine$Registers", "pc", "I", false)
  | 2 => ("ReplayMachine$Registers", "frame", "I", false)
  | 3 => ("ReplayMachine$Registers", "x", "I", false)
  | 4 => ("ReplayMachine$Registers", "taken", "I", false)
  | 5 => ("ReplayMachine$Registers", "height", "I", false)
  | 6 => ("ReplayMachine$Registers", "changed", "I", false)
  | _ => ("ReplayMachine$State", "memory", "[I", true)
def t_St : Nat → FieldType := fun k => match k with
  | 0 => .int
  | 1 => .int
  | 2 => .int
  | 3 => .int
  | 4 => .int
  | 5 => .int
  | 6 => .int
  | _ => .array .int
theorem nm_St : ∀ a, a < 8 → ∀ b, b < 8 → a ≠ b → (T_St a).2.1 ≠ (T_St b).2.1 := by decide +kernel
theorem ty_St : ∀ k, k < 8 → parseFieldDescriptor (T_St k).2.2.1 = some (t_St k) := by decide +kernel
def T_Un : u_T := fun k => match k with
  | 0 => ("ReplayMachine$Undo", "notes", "[LReplayMachine$Note;", true)
  | 1 => ("ReplayMachine$Undo", "newest", "I", false)
  | _ => ("ReplayMachine$Undo", "size", "I", false)
def t_Un : Nat → FieldType := fun k => match k with
  | 0 => .array (.object "ReplayMachine$Note")
  | 1 => .int
  | _ => .int
theorem nm_Un : ∀ a, a < 3 → ∀ b, b < 3 → a ≠ b → (T_Un a).2.1 ≠ (T_Un b).2.1 := by decide +kernel
theorem ty_Un : ∀ k, k < 3 → parseFieldDescriptor (T_Un k).2.2.1 = some (t_Un k) := by decide +kernel
def T_RM : u_T := fun k => match k with
  | 0 => ("ReplayMachine", "machine", "LReplayMachine$Machine;", true)
  | 1 => ("ReplayMachine", "checkpoints", "LReplayMachine$Checkpoints;", true)
  | 2 => ("ReplayMachine", "breaks", "[Z", true)
  | 3 => ("ReplayMachine", "watches", "[Z", true)
  | 4 => ("ReplayMachine", "greatest", "I", false)
  | _ => ("ReplayMachine", "cost", "I", false)
def t_RM : Nat → FieldType := fun k => match k with
  | 0 => .object "ReplayMachine$Machine"
  | 1 => .object "ReplayMachine$Checkpoints"
  | 2 => .array .boolean
  | 3 => .array .boolean
  | 4 => .int
  | _ => .int
theorem nm_RM : ∀ a, a < 6 → ∀ b, b < 6 → a ≠ b → (T_RM a).2.1 ≠ (T_RM b).2.1 := by decide +kernel
theorem ty_RM : ∀ k, k < 6 → parseFieldDescriptor (T_RM k).2.2.1 = some (t_RM k) := by decide +kernel
def T_Mo : u_T := fun k => match k with
  | 0 => ("ReplayMachineModel", "program", "[I", true)
  | 1 => ("ReplayMachineModel", "inputs", "[I", true)
  | 2 => ("ReplayMachineModel", "breaks", "[Z", true)
  | 3 => ("ReplayMachineModel", "watches", "[Z", true)
  | 4 => ("ReplayMachineModel", "cells", "[I", true)
  | 5 => ("ReplayMachineModel", "stack", "[I", true)
  | 6 => ("ReplayMachineModel", "were", "[I", true)
  | 7 => ("ReplayMachineModel", "markWords", "[I", true)
  | 8 => ("ReplayMachineModel", "markOthers", "[I", true)
  | 9 => ("ReplayMachineModel", "keptAt", "[I", true)
  | 10 => ("ReplayMachineModel", "code", "I", false)
  | 11 => ("ReplayMachineModel", "given", "I", false)
  | 12 => ("ReplayMachineModel", "time", "I", false)
  | 13 => ("ReplayMachineModel", "pc", "I", false)
  | 14 => ("ReplayMachineModel", "frame", "I", false)
  | 15 => ("ReplayMachineModel", "x", "I", false)
  | 16 => ("ReplayMachineModel", "taken", "I", false)
  | 17 => ("ReplayMachineModel", "height", "I", false)
  | 18 => ("ReplayMachineModel", "reached", "I", false)
  | 19 => ("ReplayMachineModel", "undo", "I", false)
  | 20 => ("ReplayMachineModel", "cost", "I", false)
  | 21 => ("ReplayMachineModel", "every", "I", false)
  | _ => ("ReplayMachineModel", "kept", "I", false)
def t_Mo : Nat → FieldType := fun k => match k with
  | 0 => .array .int
  | 1 => .array .int
  | 2 => .array .boolean
  | 3 => .array .boolean
  | 4 => .array .int
  | 5 => .array .int
  | 6 => .array .int
  | 7 => .array .int
  | 8 => .array .int
  | 9 => .array .int
  | 10 => .int
  | 11 => .int
  | 12 => .int
  | 13 => .int
  | 14 => .int
  | 15 => .int
  | 16 => .int
  | 17 => .int
  | 18 => .int
  | 19 => .int
  | 20 => .int
  | 21 => .int
  | _ => .int
theorem nm_Mo : ∀ a, a < 23 → ∀ b, b < 23 → a ≠ b → (T_Mo a).2.1 ≠ (T_Mo b).2.1 := by decide +kernel
theorem ty_Mo : ∀ k, k < 23 → parseFieldDescriptor (T_Mo k).2.2.1 = some (t_Mo k) := by decide +kernel
abbrev CLS : List vw_C := [("ReplayMachine$Checkpoints", T_Cp, 3), ("ReplayMachine$Machine", T_Ma, 6), ("ReplayMachine$Note", T_Nt, 10), ("ReplayMachine$State", T_St, 8), ("ReplayMachine$Undo", T_Un, 3), ("ReplayMachine", T_RM, 6), ("ReplayMachineModel", T_Mo, 23)]
abbrev b_RM_init : ByteArray := prog_1_method_1_code
def y_RM_init : MethodName := ⟨"ReplayMachine", "<init>", "(I)V"⟩
abbrev b_Ma_init : ByteArray := prog_3_method_1_code
def y_Ma_init : MethodName := ⟨"ReplayMachine$Machine", "<init>", "(I)V"⟩
abbrev b_St_init : ByteArray := prog_6_method_1_code
def y_St_init : MethodName := ⟨"ReplayMachine$State", "<init>", "(I)V"⟩
abbrev b_Rg_init : ByteArray := prog_5_method_1_code
def y_Rg_init : MethodName := ⟨"ReplayMachine$Registers", "<init>", "()V"⟩
abbrev b_Un_init : ByteArray := prog_7_method_1_code
def y_Un_init : MethodName := ⟨"ReplayMachine$Undo", "<init>", "()V"⟩
abbrev b_Nt_init : ByteArray := prog_4_method_1_code
def y_Nt_init : MethodName := ⟨"ReplayMachine$Note", "<init>", "()V"⟩
abbrev b_Cp_init : ByteArray := prog_2_method_1_code
def y_Cp_init : MethodName := ⟨"ReplayMachine$Checkpoints", "<init>", "(I)V"⟩
abbrev b_RM_input : ByteArray := prog_1_method_3_code
def y_RM_input : MethodName := ⟨"ReplayMachine", "input", "(I)I"⟩
abbrev b_Ma_addInput : ByteArray := prog_3_method_2_code
def y_Ma_addInput : MethodName := ⟨"ReplayMachine$Machine", "addInput", "(I)I"⟩
abbrev b_RM_step : ByteArray := prog_1_method_4_code
def y_RM_step : MethodName := ⟨"ReplayMachine", "step", "()I"⟩
abbrev b_RM_advance : ByteArray := prog_1_method_19_code
def y_RM_advance : MethodName := ⟨"ReplayMachine", "advance", "()I"⟩
abbrev b_Ma_obstacle : ByteArray := prog_3_method_3_code
def y_Ma_obstacle : MethodName := ⟨"ReplayMachine$Machine", "obstacle", "()I"⟩
abbrev b_RM_within : ByteArray := prog_1_method_16_code
def y_RM_within : MethodName := ⟨"ReplayMachine", "within", "(II)Z"⟩
abbrev b_Ma_hasTooFew : ByteArray := prog_3_method_4_code
def y_Ma_hasTooFew : MethodName := ⟨"ReplayMachine$Machine", "hasTooFew", "(II)Z"⟩
abbrev b_Ma_argumentPlace : ByteArray := prog_3_method_5_code
def y_Ma_argumentPlace : MethodName := ⟨"ReplayMachine$Machine", "argumentPlace", "(I)I"⟩
abbrev b_Ma_fromTop : ByteArray := prog_3_method_6_code
def y_Ma_fromTop : MethodName := ⟨"ReplayMachine$Machine", "fromTop", "(I)I"⟩
abbrev b_St_number : ByteArray := prog_6_method_3_code
def y_St_number : MethodName := ⟨"ReplayMachine$State", "number", "(I)I"⟩
abbrev b_Ma_perform : ByteArray := prog_3_method_7_code
def y_Ma_perform : MethodName := ⟨"ReplayMachine$Machine", "perform", "()V"⟩
abbrev b_Un_begin : ByteArray := prog_7_method_2_code
def y_Un_begin : MethodName := ⟨"ReplayMachine$Undo", "begin", "(LReplayMachine$State;)LReplayMachine$Note;"⟩
abbrev b_Nt_begin : ByteArray := prog_4_method_2_code
def y_Nt_begin : MethodName := ⟨"ReplayMachine$Note", "begin", "(LReplayMachine$State;)V"⟩
abbrev b_Rg_copyRegisters : ByteArray := prog_5_method_2_code
def y_Rg_copyRegisters : MethodName := ⟨"ReplayMachine$Registers", "copyRegisters", "(LReplayMachine$Registers;)V"⟩
abbrev b_Ma_push : ByteArray := prog_3_method_9_code
def y_Ma_push : MethodName := ⟨"ReplayMachine$Machine", "push", "(I)V"⟩
abbrev b_Ma_put : ByteArray := prog_3_method_8_code
def y_Ma_put : MethodName := ⟨"ReplayMachine$Machine", "put", "(II)V"⟩
abbrev b_Nt_keepWord : ByteArray := prog_4_method_3_code
def y_Nt_keepWord : MethodName := ⟨"ReplayMachine$Note", "keepWord", "(II)V"⟩
abbrev b_Ma_exchange : ByteArray := prog_3_method_11_code
def y_Ma_exchange : MethodName := ⟨"ReplayMachine$Machine", "exchange", "()V"⟩
abbrev b_Ma_result : ByteArray := prog_3_method_12_code
def y_Ma_result : MethodName := ⟨"ReplayMachine$Machine", "result", "(III)I"⟩
abbrev b_Ma_replaceTwo : ByteArray := prog_3_method_10_code
def y_Ma_replaceTwo : MethodName := ⟨"ReplayMachine$Machine", "replaceTwo", "(I)V"⟩
abbrev b_Ma_load : ByteArray := prog_3_method_13_code
def y_Ma_load : MethodName := ⟨"ReplayMachine$Machine", "load", "()V"⟩
abbrev b_Ma_store : ByteArray := prog_3_method_14_code
def y_Ma_store : MethodName := ⟨"ReplayMachine$Machine", "store", "()V"⟩
abbrev b_Ma_jumpIf : ByteArray := prog_3_method_15_code
def y_Ma_jumpIf : MethodName := ⟨"ReplayMachine$Machine", "jumpIf", "(ZI)V"⟩
abbrev b_Ma_enter : ByteArray := prog_3_method_16_code
def y_Ma_enter : MethodName := ⟨"ReplayMachine$Machine", "enter", "(I)V"⟩
abbrev b_Ma_leave : ByteArray := prog_3_method_17_code
def y_Ma_leave : MethodName := ⟨"ReplayMachine$Machine", "leave", "()V"⟩
abbrev b_Ma_takeInput : ByteArray := prog_3_method_18_code
def y_Ma_takeInput : MethodName := ⟨"ReplayMachine$Machine", "takeInput", "()V"⟩
abbrev b_Ma_pushRandom : ByteArray := prog_3_method_19_code
def y_Ma_pushRandom : MethodName := ⟨"ReplayMachine$Machine", "pushRandom", "(I)V"⟩
abbrev b_Cp_offer : ByteArray := prog_2_method_2_code
def y_Cp_offer : MethodName := ⟨"ReplayMachine$Checkpoints", "offer", "(LReplayMachine$State;)V"⟩
abbrev b_Cp_isMultiple : ByteArray := prog_2_method_3_code
def y_Cp_isMultiple : MethodName := ⟨"ReplayMachine$Checkpoints", "isMultiple", "(I)Z"⟩
abbrev b_Cp_thinOut : ByteArray := prog_2_method_4_code
def y_Cp_thinOut : MethodName := ⟨"ReplayMachine$Checkpoints", "thinOut", "()V"⟩
abbrev b_St_copyState : ByteArray := prog_6_method_2_code
def y_St_copyState : MethodName := ⟨"ReplayMachine$State", "copyState", "(LReplayMachine$State;)V"⟩
abbrev b_RM_cell : ByteArray := prog_1_method_13_code
def y_RM_cell : MethodName := ⟨"ReplayMachine", "cell", "(I)I"⟩
abbrev b_La_cell : ByteArray := method_2_code
def y_La_cell : MethodName := ⟨"ReplayMachineLaw", "cell", "([II)I"⟩
abbrev b_La_poke : ByteArray := method_3_code
def y_La_poke : MethodName := ⟨"ReplayMachineLaw", "poke", "(LReplayMachine;II)I"⟩
abbrev b_RM_poke : ByteArray := prog_1_method_2_code
def y_RM_poke : MethodName := ⟨"ReplayMachine", "poke", "(II)V"⟩
abbrev b_La_forth : ByteArray := method_4_code
def y_La_forth : MethodName := ⟨"ReplayMachineLaw", "forth", "(LReplayMachine;I[J)I"⟩
abbrev b_RM_forth : ByteArray := prog_1_method_5_code
def y_RM_forth : MethodName := ⟨"ReplayMachine", "forth", "(I)I"⟩
abbrev b_RM_isFuel : ByteArray := prog_1_method_17_code
def y_RM_isFuel : MethodName := ⟨"ReplayMachine", "isFuel", "(I)Z"⟩
abbrev b_RM_stopHere : ByteArray := prog_1_method_20_code
def y_RM_stopHere : MethodName := ⟨"ReplayMachine", "stopHere", "()I"⟩
abbrev b_La_back : ByteArray := method_5_code
def y_La_back : MethodName := ⟨"ReplayMachineLaw", "back", "(LReplayMachine;I[J)I"⟩
abbrev b_RM_back : ByteArray := prog_1_method_6_code
def y_RM_back : MethodName := ⟨"ReplayMachine", "back", "(I)I"⟩
abbrev b_RM_travel : ByteArray := prog_1_method_21_code
def y_RM_travel : MethodName := ⟨"ReplayMachine", "travel", "(I)V"⟩
abbrev b_Un_takeBack : ByteArray := prog_7_method_3_code
def y_Un_takeBack : MethodName := ⟨"ReplayMachine$Undo", "takeBack", "(ILReplayMachine$State;)V"⟩
abbrev b_Nt_restore : ByteArray := prog_4_method_4_code
def y_Nt_restore : MethodName := ⟨"ReplayMachine$Note", "restore", "(LReplayMachine$State;)V"⟩
abbrev b_Cp_latestUpTo : ByteArray := prog_2_method_5_code
def y_Cp_latestUpTo : MethodName := ⟨"ReplayMachine$Checkpoints", "latestUpTo", "(I)LReplayMachine$State;"⟩
abbrev b_La_go : ByteArray := method_6_code
def y_La_go : MethodName := ⟨"ReplayMachineLaw", "go", "(LReplayMachine;I)I"⟩
abbrev b_RM_go : ByteArray := prog_1_method_7_code
def y_RM_go : MethodName := ⟨"ReplayMachine", "go", "(I)V"⟩
abbrev b_La_setBreak : ByteArray := method_7_code
def y_La_setBreak : MethodName := ⟨"ReplayMachineLaw", "setBreak", "(LReplayMachine;I[J)I"⟩
abbrev b_RM_setBreak : ByteArray := prog_1_method_8_code
def y_RM_setBreak : MethodName := ⟨"ReplayMachine", "setBreak", "(I)Z"⟩
abbrev b_RM_mark : ByteArray := prog_1_method_18_code
def y_RM_mark : MethodName := ⟨"ReplayMachine", "mark", "([ZIZ)Z"⟩
abbrev b_La_clearBreak : ByteArray := method_8_code
def y_La_clearBreak : MethodName := ⟨"ReplayMachineLaw", "clearBreak", "(LReplayMachine;I[J)I"⟩
abbrev b_RM_clearBreak : ByteArray := prog_1_method_9_code
def y_RM_clearBreak : MethodName := ⟨"ReplayMachine", "clearBreak", "(I)Z"⟩
abbrev b_La_setWatch : ByteArray := method_9_code
def y_La_setWatch : MethodName := ⟨"ReplayMachineLaw", "setWatch", "(LReplayMachine;I[J)I"⟩
abbrev b_RM_setWatch : ByteArray := prog_1_method_10_code
def y_RM_setWatch : MethodName := ⟨"ReplayMachine", "setWatch", "(I)Z"⟩
abbrev b_La_clearWatch : ByteArray := method_10_code
def y_La_clearWatch : MethodName := ⟨"ReplayMachineLaw", "clearWatch", "(LReplayMachine;I[J)I"⟩
abbrev b_RM_clearWatch : ByteArray := prog_1_method_11_code
def y_RM_clearWatch : MethodName := ⟨"ReplayMachine", "clearWatch", "(I)Z"⟩
abbrev b_La_state : ByteArray := method_11_code
def y_La_state : MethodName := ⟨"ReplayMachineLaw", "state", "(LReplayMachine;I[J)I"⟩
abbrev b_RM_state : ByteArray := prog_1_method_12_code
def y_RM_state : MethodName := ⟨"ReplayMachine", "state", "(I)I"⟩
abbrev b_La_stack : ByteArray := method_12_code
def y_La_stack : MethodName := ⟨"ReplayMachineLaw", "stack", "(LReplayMachine;I[J)I"⟩
abbrev b_RM_stack : ByteArray := prog_1_method_14_code
def y_RM_stack : MethodName := ⟨"ReplayMachine", "stack", "(I)I"⟩
abbrev b_La_checkpoint : ByteArray := method_13_code
def y_La_checkpoint : MethodName := ⟨"ReplayMachineLaw", "checkpoint", "(LReplayMachine;I[J)I"⟩
abbrev b_RM_checkpoint : ByteArray := prog_1_method_15_code
def y_RM_checkpoint : MethodName := ⟨"ReplayMachine", "checkpoint", "(I)I"⟩
abbrev b_Mo_init : ByteArray := prog_9_method_1_code
def y_Mo_init : MethodName := ⟨"ReplayMachineModel", "<init>", "(I)V"⟩
abbrev b_Mo_mark : ByteArray := prog_9_method_6_code
def y_Mo_mark : MethodName := ⟨"ReplayMachineModel", "mark", "()V"⟩
abbrev b_Mo_thrown : ByteArray := prog_9_method_2_code
def y_Mo_thrown : MethodName := ⟨"ReplayMachineModel", "thrown", "()I"⟩
abbrev b_Mo_poke : ByteArray := prog_9_method_4_code
def y_Mo_poke : MethodName := ⟨"ReplayMachineModel", "poke", "(II)V"⟩
abbrev b_Mo_input : ByteArray := prog_9_method_5_code
def y_Mo_input : MethodName := ⟨"ReplayMachineModel", "input", "(I)I"⟩
abbrev b_Mo_step : ByteArray := prog_9_method_22_code
def y_Mo_step : MethodName := ⟨"ReplayMachineModel", "step", "()I"⟩
abbrev b_Mo_advance : ByteArray := prog_9_method_20_code
def y_Mo_advance : MethodName := ⟨"ReplayMachineModel", "advance", "()I"⟩
abbrev b_Mo_check : ByteArray := prog_9_method_11_code
def y_Mo_check : MethodName := ⟨"ReplayMachineModel", "check", "()I"⟩
abbrev b_Mo_needs : ByteArray := prog_9_method_8_code
def y_Mo_needs : MethodName := ⟨"ReplayMachineModel", "needs", "(I)I"⟩
abbrev b_Mo_isArgument : ByteArray := prog_9_method_10_code
def y_Mo_isArgument : MethodName := ⟨"ReplayMachineModel", "isArgument", "(I)Z"⟩
abbrev b_Mo_grows : ByteArray := prog_9_method_9_code
def y_Mo_grows : MethodName := ⟨"ReplayMachineModel", "grows", "(I)I"⟩
abbrev b_Mo_perform : ByteArray := prog_9_method_19_code
def y_Mo_perform : MethodName := ⟨"ReplayMachineModel", "perform", "()V"⟩
abbrev b_Mo_push : ByteArray := prog_9_method_12_code
def y_Mo_push : MethodName := ⟨"ReplayMachineModel", "push", "(I)V"⟩
abbrev b_Mo_pop : ByteArray := prog_9_method_13_code
def y_Mo_pop : MethodName := ⟨"ReplayMachineModel", "pop", "()I"⟩
abbrev b_Mo_branch : ByteArray := prog_9_method_15_code
def y_Mo_branch : MethodName := ⟨"ReplayMachineModel", "branch", "(II)V"⟩
abbrev b_Mo_call : ByteArray := prog_9_method_17_code
def y_Mo_call : MethodName := ⟨"ReplayMachineModel", "call", "(I)V"⟩
abbrev b_Mo_giveBack : ByteArray := prog_9_method_16_code
def y_Mo_giveBack : MethodName := ⟨"ReplayMachineModel", "giveBack", "()V"⟩
abbrev b_Mo_draw : ByteArray := prog_9_method_18_code
def y_Mo_draw : MethodName := ⟨"ReplayMachineModel", "draw", "(I)I"⟩
abbrev b_Mo_reckon : ByteArray := prog_9_method_14_code
def y_Mo_reckon : MethodName := ⟨"ReplayMachineModel", "reckon", "(III)I"⟩
abbrev b_Mo_grow : ByteArray := prog_9_method_21_code
def y_Mo_grow : MethodName := ⟨"ReplayMachineModel", "grow", "()V"⟩
abbrev b_Mo_forth : ByteArray := prog_9_method_25_code
def y_Mo_forth : MethodName := ⟨"ReplayMachineModel", "forth", "(I)I"⟩
abbrev b_Mo_remember : ByteArray := prog_9_method_23_code
def y_Mo_remember : MethodName := ⟨"ReplayMachineModel", "remember", "()V"⟩
abbrev b_Mo_stop : ByteArray := prog_9_method_24_code
def y_Mo_stop : MethodName := ⟨"ReplayMachineModel", "stop", "()I"⟩
abbrev b_Mo_go : ByteArray := prog_9_method_27_code
def y_Mo_go : MethodName := ⟨"ReplayMachineModel", "go", "(I)V"⟩
abbrev b_Mo_account : ByteArray := prog_9_method_26_code
def y_Mo_account : MethodName := ⟨"ReplayMachineModel", "account", "(I)V"⟩
abbrev b_Mo_seek : ByteArray := prog_9_method_7_code
def y_Mo_seek : MethodName := ⟨"ReplayMachineModel", "seek", "(I)V"⟩
abbrev b_Mo_back : ByteArray := prog_9_method_29_code
def y_Mo_back : MethodName := ⟨"ReplayMachineModel", "back", "(I)I"⟩
abbrev b_Mo_backOne : ByteArray := prog_9_method_28_code
def y_Mo_backOne : MethodName := ⟨"ReplayMachineModel", "backOne", "()I"⟩
abbrev b_Mo_setBreak : ByteArray := prog_9_method_31_code
def y_Mo_setBreak : MethodName := ⟨"ReplayMachineModel", "setBreak", "(I)Z"⟩
abbrev b_Mo_outside : ByteArray := prog_9_method_30_code
def y_Mo_outside : MethodName := ⟨"ReplayMachineModel", "outside", "(II)Z"⟩
abbrev b_Mo_clearBreak : ByteArray := prog_9_method_32_code
def y_Mo_clearBreak : MethodName := ⟨"ReplayMachineModel", "clearBreak", "(I)Z"⟩
abbrev b_Mo_setWatch : ByteArray := prog_9_method_33_code
def y_Mo_setWatch : MethodName := ⟨"ReplayMachineModel", "setWatch", "(I)Z"⟩
abbrev b_Mo_clearWatch : ByteArray := prog_9_method_34_code
def y_Mo_clearWatch : MethodName := ⟨"ReplayMachineModel", "clearWatch", "(I)Z"⟩
abbrev b_Mo_state : ByteArray := prog_9_method_35_code
def y_Mo_state : MethodName := ⟨"ReplayMachineModel", "state", "(I)I"⟩
abbrev b_Mo_fail : ByteArray := prog_9_method_3_code
def y_Mo_fail : MethodName := ⟨"ReplayMachineModel", "fail", "(I)I"⟩
abbrev b_Mo_cell : ByteArray := prog_9_method_36_code
def y_Mo_cell : MethodName := ⟨"ReplayMachineModel", "cell", "(I)I"⟩
abbrev b_Mo_stack : ByteArray := prog_9_method_37_code
def y_Mo_stack : MethodName := ⟨"ReplayMachineModel", "stack", "(I)I"⟩
abbrev b_Mo_checkpoint : ByteArray := prog_9_method_38_code
def y_Mo_checkpoint : MethodName := ⟨"ReplayMachineModel", "checkpoint", "(I)I"⟩
set_option maxRecDepth 20000 in
theorem mw_0 : Cond.initialized "ReplayMachineLaw" ∈ WS := WS_mem 38 (by decide +kernel) (by decide +kernel)
set_option maxRecDepth 20000 in
theorem mw_1 : Cond.initialized "ReplayMachine" ∈ WS := WS_mem 39 (by decide +kernel) (by decide +kernel)
set_option maxRecDepth 20000 in
theorem mw_2 : Cond.initialized "ReplayMachine$Machine" ∈ WS := WS_mem 40 (by decide +kernel) (by decide +kernel)
set_option maxRecDepth 20000 in
theorem mw_3 : Cond.initialized "ReplayMachine$Registers" ∈ WS := WS_mem 41 (by decide +kernel) (by decide +kernel)
set_option maxRecDepth 20000 in
theorem mw_4 : Cond.initialized "ReplayMachine$State" ∈ WS := WS_mem 42 (by decide +kernel) (by decide +kernel)
set_option maxRecDepth 20000 in
theorem mw_5 : Cond.initialized "ReplayMachine$Undo" ∈ WS := WS_mem 43 (by decide +kernel) (by decide +kernel)
set_option maxRecDepth 20000 in
theorem mw_6 : Cond.initialized "ReplayMachine$Note" ∈ WS := WS_mem 44 (by decide +kernel) (by decide +kernel)
set_option maxRecDepth 20000 in
theorem mw_7 : Cond.initialized "ReplayMachine$Checkpoints" ∈ WS := WS_mem 45 (by decide +kernel) (by decide +kernel)
set_option maxRecDepth 20000 in
theorem mw_8 : Cond.initialized "ReplayMachineModel" ∈ WS := WS_mem 46 (by decide +kernel) (by decide +kernel)
set_option maxRecDepth 20000 in
theorem mw_9 : Cond.initialized "java/lang/Throwable" ∈ WS := WS_mem 47 (by decide +kernel) (by decide +kernel)
set_option maxRecDepth 20000 in
theorem mw_10 : Cond.initialized "java/lang/Exception" ∈ WS := WS_mem 48 (by decide +kernel) (by decide +kernel)
set_option maxRecDepth 20000 in
theorem mw_11 : Cond.initialized "java/lang/RuntimeException" ∈ WS := WS_mem 49 (by decide +kernel) (by decide +kernel)
set_option maxRecDepth 20000 in
theorem mw_12 : Cond.initialized "java/lang/IndexOutOfBoundsException" ∈ WS := WS_mem 50 (by decide +kernel) (by decide +kernel)
set_option maxRecDepth 20000 in
theorem mw_13 : Cond.initialized "java/lang/IllegalStateException" ∈ WS := WS_mem 51 (by decide +kernel) (by decide +kernel)
set_option maxRecDepth 20000 in
theorem mw_14 : Cond.initialized "java/lang/Math" ∈ WS := WS_mem 52 (by decide +kernel) (by decide +kernel)
set_option maxRecDepth 20000 in
theorem mw_15 : Cond.initialized "java/lang/System" ∈ WS := WS_mem 53 (by decide +kernel) (by decide +kernel)
set_option maxRecDepth 20000 in
theorem mw_16 : Cond.initialized "java/lang/IllegalArgumentException" ∈ WS := WS_mem 54 (by decide +kernel) (by decide +kernel)
set_option maxRecDepth 20000 in
theorem mw_17 : Cond.classLink "ReplayMachineLaw" 8 "ReplayMachine" ∈ WS := WS_mem 55 (by decide +kernel) (by decide +kernel)
set_option maxRecDepth 20000 in
theorem mw_18 : Cond.instantiable "ReplayMachine" 6 ∈ WS := WS_mem 56 (by decide +kernel) (by decide +kernel)
set_option maxRecDepth 20000 in
theorem mw_19 : Cond.methodLink "ReplayMachineLaw" 58 y_RM_init ∈ WS := WS_mem 57 (by decide +kernel) (by decide +kernel)
set_option maxRecDepth 20000 in
theorem mw_20 : Cond.instanceMethod y_RM_init ∈ WS := WS_mem 58 (by decide +kernel) (by decide +kernel)
set_option maxRecDepth 20000 in
theorem mw_21 : Cond.code y_RM_init prog_1_method_1_code 2 none ∈ WS := WS_mem 59 (by decide +kernel) (by decide +kernel)
set_option maxRecDepth 20000 in
theorem mw_22 : Cond.methodLink "ReplayMachine" 3 (⟨"java/lang/Object", "<init>", "()V"⟩ : MethodName) ∈ WS := WS_mem 60 (by decide +kernel) (by decide +kernel)
set_option maxRecDepth 20000 in
theorem mw_23 : Cond.instanceMethod (⟨"java/lang/Object", "<init>", "()V"⟩ : MethodName) ∈ WS := WS_mem 61 (by decide +kernel) (by decide +kernel)
set_option maxRecDepth 20000 in
theorem mw_24 : Cond.code (⟨"java/lang/Object", "<init>", "()V"⟩ : MethodName) object_method_1_code 1 none ∈ WS := WS_mem 62 (by decide +kernel) (by decide +kernel)
set_option maxRecDepth 20000 in
theorem mw_25 : Cond.classLink "ReplayMachine" 9 "ReplayMachine$Machine" ∈ WS := WS_mem 63 (by decide +kernel) (by decide +kernel)
set_option maxRecDepth 20000 in
theorem mw_26 : Cond.instantiable "ReplayMachine$Machine" 6 ∈ WS := WS_mem 64 (by decide +kernel) (by decide +kernel)
set_option maxRecDepth 20000 in
theorem mw_27 : Cond.methodLink "ReplayMachine" 11 y_Ma_init ∈ WS := WS_mem 65 (by decide +kernel) (by decide +kernel)
set_option maxRecDepth 20000 in
theorem mw_28 : Cond.instanceMethod y_Ma_init ∈ WS := WS_mem 66 (by decide +kernel) (by decide +kernel)
set_option maxRecDepth 20000 in
theorem mw_29 : Cond.code y_Ma_init prog_3_method_1_code 2 none ∈ WS := WS_mem 67 (by decide +kernel) (by decide +kernel)
set_option maxRecDepth 20000 in
theorem mw_30 : Cond.methodLink "ReplayMachine$Machine" 3 (⟨"java/lang/Object", "<init>", "()V"⟩ : MethodName) ∈ WS := WS_mem 68 (by decide +kernel) (by decide +kernel)
set_option maxRecDepth 20000 in
theorem mw_31 : Cond.classLink "ReplayMachine$Machine" 18 "ReplayMachine$State" ∈ WS := WS_mem 69 (by decide +kernel) (by decide +kernel)
set_option maxRecDepth 20000 in
theorem mw_32 : Cond.instantiable "ReplayMachine$State" 8 ∈ WS := WS_mem 70 (by decide +kernel) (by decide +kernel)
set_option maxRecDepth 20000 in
theorem mw_33 : Cond.methodLink "ReplayMachine$Machine" 20 y_St_init ∈ WS := WS_mem 71 (by decide +kernel) (by decide +kernel)
set_option maxRecDepth 20000 in
theorem mw_34 : Cond.instanceMethod y_St_init ∈ WS := WS_mem 72 (by decide +kernel) (by decide +kernel)
set_option maxRecDepth 20000 in
theorem mw_35 : Cond.code y_St_init prog_6_method_1_code 2 none ∈ WS := WS_mem 73 (by decide +kernel) (by decide +kernel)
set_option maxRecDepth 20000 in
theorem mw_37 : Cond.instanceMethod y_Rg_init ∈ WS := WS_mem 75 (by decide +kernel) (by decide +kernel)
set_option maxRecDepth 20000 in
theorem mw_38 : Cond.code y_Rg_init prog_5_method_1_code 1 none ∈ WS := WS_mem 76 (by decide +kernel) (by decide +kernel)
set_option maxRecDepth 20000 in
theorem mw_39 : Cond.methodLink "ReplayMachine$Registers" 1 (⟨"java/lang/Object", "<init>", "()V"⟩ : MethodName) ∈ WS := WS_mem 77 (by decide +kernel) (by decide +kernel)
set_option maxRecDepth 20000 in
theorem mw_40 : Cond.fieldLink "ReplayMachine$State" 18 "ReplayMachine$State" "memory" "[I" ∈ WS := WS_mem 78 (by decide +kernel) (by decide +kernel)
set_option maxRecDepth 20000 in
theorem mw_41 : Cond.fieldLink "ReplayMachine$Note" 24 "ReplayMachine$State" "memory" "[I" ∈ WS := WS_mem 79 (by decide +kernel) (by decide +kernel)
set_option maxRecDepth 20000 in
theorem mw_42 : Cond.fieldLink "ReplayMachine$Machine" 126 "ReplayMachine$State" "memory" "[I" ∈ WS := WS_mem 80 (by decide +kernel) (by decide +kernel)
set_option maxRecDepth 20000 in
theorem mw_43 : Cond.fieldLink "ReplayMachine" 129 "ReplayMachine$State" "memory" "[I" ∈ WS := WS_mem 81 (by decide +kernel) (by decide +kernel)
set_option maxRecDepth 20000 in
theorem mw_44 : Cond.fieldLink "ReplayMachine$Registers" 7 "ReplayMachine$Registers" "time" "I" ∈ WS := WS_mem 82 (by decide +kernel) (by decide +kernel)
set_option maxRecDepth 20000 in
theorem mw_45 : Cond.fieldLink "ReplayMachine$Checkpoints" 27 "ReplayMachine$State" "time" "I" ∈ WS := WS_mem 83 (by decide +kernel) (by decide +kernel)
set_option maxRecDepth 20000 in
theorem mw_46 : Cond.sameField "ReplayMachine$State" "ReplayMachine$Registers" "time" "I" ∈ WS := WS_mem 84 (by decide +kernel) (by decide +kernel)
set_option maxRecDepth 20000 in
theorem mw_47 : Cond.fieldLink "ReplayMachine" 83 "ReplayMachine$State" "time" "I" ∈ WS := WS_mem 85 (by decide +kernel) (by decide +kernel)
set_option maxRecDepth 20000 in
theorem mw_48 : Cond.fieldLink "ReplayMachine$Machine" 85 "ReplayMachine$State" "time" "I" ∈ WS := WS_mem 86 (by decide +kernel) (by decide +kernel)
set_option maxRecDepth 20000 in
theorem mw_49 : Cond.fieldLink "ReplayMachine$Registers" 13 "ReplayMachine$Registers" "pc" "I" ∈ WS := WS_mem 87 (by decide +kernel) (by decide +kernel)
set_option maxRecDepth 20000 in
theorem mw_50 : Cond.fieldLink "ReplayMachine$Machine" 46 "ReplayMachine$State" "pc" "I" ∈ WS := WS_mem 88 (by decide +kernel) (by decide +kernel)
set_option maxRecDepth 20000 in
theorem mw_51 : Cond.sameField "ReplayMachine$State" "ReplayMachine$Registers" "pc" "I" ∈ WS := WS_mem 89 (by decide +kernel) (by decide +kernel)
set_option maxRecDepth 20000 in
theorem mw_52 : Cond.fieldLink "ReplayMachine" 99 "ReplayMachine$State" "pc" "I" ∈ WS := WS_mem 90 (by decide +kernel) (by decide +kernel)
set_option maxRecDepth 20000 in
theorem mw_53 : Cond.fieldLink "ReplayMachine$Registers" 16 "ReplayMachine$Registers" "frame" "I" ∈ WS := WS_mem 91 (by decide +kernel) (by decide +kernel)
set_option maxRecDepth 20000 in
theorem mw_54 : Cond.fieldLink "ReplayMachine$Machine" 69 "ReplayMachine$State" "frame" "I" ∈ WS := WS_mem 92 (by decide +kernel) (by decide +kernel)
set_option maxRecDepth 20000 in
theorem mw_55 : Cond.sameField "ReplayMachine$State" "ReplayMachine$Registers" "frame" "I" ∈ WS := WS_mem 93 (by decide +kernel) (by decide +kernel)
set_option maxRecDepth 20000 in
theorem mw_56 : Cond.fieldLink "ReplayMachine" 102 "ReplayMachine$State" "frame" "I" ∈ WS := WS_mem 94 (by decide +kernel) (by decide +kernel)
set_option maxRecDepth 20000 in
theorem mw_57 : Cond.fieldLink "ReplayMachine$State" 9 "ReplayMachine$State" "x" "I" ∈ WS := WS_mem 95 (by decide +kernel) (by decide +kernel)
set_option maxRecDepth 20000 in
theorem mw_58 : Cond.sameField "ReplayMachine$State" "ReplayMachine$Registers" "x" "I" ∈ WS := WS_mem 96 (by decide +kernel) (by decide +kernel)
set_option maxRecDepth 20000 in
theorem mw_59 : Cond.fieldLink "ReplayMachine$Registers" 19 "ReplayMachine$Registers" "x" "I" ∈ WS := WS_mem 97 (by decide +kernel) (by decide +kernel)
set_option maxRecDepth 20000 in
theorem mw_60 : Cond.fieldLink "ReplayMachine" 105 "ReplayMachine$State" "x" "I" ∈ WS := WS_mem 98 (by decide +kernel) (by decide +kernel)
set_option maxRecDepth 20000 in
theorem mw_61 : Cond.fieldLink "ReplayMachine$Machine" 139 "ReplayMachine$State" "x" "I" ∈ WS := WS_mem 99 (by decide +kernel) (by decide +kernel)
set_option maxRecDepth 20000 in
theorem mw_62 : Cond.fieldLink "ReplayMachine$Registers" 22 "ReplayMachine$Registers" "taken" "I" ∈ WS := WS_mem 100 (by decide +kernel) (by decide +kernel)
set_option maxRecDepth 20000 in
theorem mw_63 : Cond.fieldLink "ReplayMachine$Machine" 60 "ReplayMachine$State" "taken" "I" ∈ WS := WS_mem 101 (by decide +kernel) (by decide +kernel)
set_option maxRecDepth 20000 in
theorem mw_64 : Cond.sameField "ReplayMachine$State" "ReplayMachine$Registers" "taken" "I" ∈ WS := WS_mem 102 (by decide +kernel) (by decide +kernel)
set_option maxRecDepth 20000 in
theorem mw_65 : Cond.fieldLink "ReplayMachine" 108 "ReplayMachine$State" "taken" "I" ∈ WS := WS_mem 103 (by decide +kernel) (by decide +kernel)
set_option maxRecDepth 20000 in
theorem mw_66 : Cond.fieldLink "ReplayMachine$Registers" 25 "ReplayMachine$Registers" "height" "I" ∈ WS := WS_mem 104 (by decide +kernel) (by decide +kernel)
set_option maxRecDepth 20000 in
theorem mw_67 : Cond.fieldLink "ReplayMachine$Machine" 63 "ReplayMachine$State" "height" "I" ∈ WS := WS_mem 105 (by decide +kernel) (by decide +kernel)
set_option maxRecDepth 20000 in
theorem mw_68 : Cond.sameField "ReplayMachine$State" "ReplayMachine$Registers" "height" "I" ∈ WS := WS_mem 106 (by decide +kernel) (by decide +kernel)
set_option maxRecDepth 20000 in
theorem mw_69 : Cond.fieldLink "ReplayMachine" 111 "ReplayMachine$State" "height" "I" ∈ WS := WS_mem 107 (by decide +kernel) (by decide +kernel)
set_option maxRecDepth 20000 in
theorem mw_70 : Cond.fieldLink "ReplayMachine$State" 15 "ReplayMachine$State" "changed" "I" ∈ WS := WS_mem 108 (by decide +kernel) (by decide +kernel)
set_option maxRecDepth 20000 in
theorem mw_71 : Cond.sameField "ReplayMachine$State" "ReplayMachine$Registers" "changed" "I" ∈ WS := WS_mem 109 (by decide +kernel) (by decide +kernel)
set_option maxRecDepth 20000 in
theorem mw_72 : Cond.fieldLink "ReplayMachine$Registers" 28 "ReplayMachine$Registers" "changed" "I" ∈ WS := WS_mem 110 (by decide +kernel) (by decide +kernel)
set_option maxRecDepth 20000 in
theorem mw_73 : Cond.fieldLink "ReplayMachine$Machine" 88 "ReplayMachine$State" "changed" "I" ∈ WS := WS_mem 111 (by decide +kernel) (by decide +kernel)
set_option maxRecDepth 20000 in
theorem mw_74 : Cond.fieldLink "ReplayMachine" 153 "ReplayMachine$State" "changed" "I" ∈ WS := WS_mem 112 (by decide +kernel) (by decide +kernel)
set_option maxRecDepth 20000 in
theorem mw_75 : Cond.laysFinal "ReplayMachine$State" "ReplayMachine$State" "memory" "[I" ∈ WS := WS_mem 113 (by decide +kernel) (by decide +kernel)
set_option maxRecDepth 20000 in
theorem mw_77 : Cond.lays "ReplayMachine$State" "ReplayMachine$Registers" "time" "I" ∈ WS := WS_mem 115 (by decide +kernel) (by decide +kernel)
set_option maxRecDepth 20000 in
theorem mw_79 : Cond.lays "ReplayMachine$State" "ReplayMachine$Registers" "pc" "I" ∈ WS := WS_mem 117 (by decide +kernel) (by decide +kernel)
set_option maxRecDepth 20000 in
theorem mw_81 : Cond.lays "ReplayMachine$State" "ReplayMachine$Registers" "frame" "I" ∈ WS := WS_mem 119 (by decide +kernel) (by decide +kernel)
set_option maxRecDepth 20000 in
theorem mw_83 : Cond.lays "ReplayMachine$State" "ReplayMachine$Registers" "x" "I" ∈ WS := WS_mem 121 (by decide +kernel) (by decide +kernel)
set_option maxRecDepth 20000 in
theorem mw_85 : Cond.lays "ReplayMachine$State" "ReplayMachine$Registers" "taken" "I" ∈ WS := WS_mem 123 (by decide +kernel) (by decide +kernel)
set_option maxRecDepth 20000 in
theorem mw_87 : Cond.lays "ReplayMachine$State" "ReplayMachine$Registers" "height" "I" ∈ WS := WS_mem 125 (by decide +kernel) (by decide +kernel)
set_option maxRecDepth 20000 in
theorem mw_89 : Cond.lays "ReplayMachine$State" "ReplayMachine$Registers" "changed" "I" ∈ WS := WS_mem 127 (by decide +kernel) (by decide +kernel)
set_option maxRecDepth 20000 in
theorem mw_92 : Cond.arrayClass FieldType.int ∈ WS := WS_mem 130 (by decide +kernel) (by decide +kernel)
set_option maxRecDepth 20000 in
theorem mw_93 : Cond.classLink "ReplayMachine$Machine" 27 "ReplayMachine$Undo" ∈ WS := WS_mem 131 (by decide +kernel) (by decide +kernel)
set_option maxRecDepth 20000 in
theorem mw_94 : Cond.instantiable "ReplayMachine$Undo" 3 ∈ WS := WS_mem 132 (by decide +kernel) (by decide +kernel)
set_option maxRecDepth 20000 in
theorem mw_95 : Cond.methodLink "ReplayMachine$Machine" 29 y_Un_init ∈ WS := WS_mem 133 (by decide +kernel) (by decide +kernel)
set_option maxRecDepth 20000 in
theorem mw_96 : Cond.instanceMethod y_Un_init ∈ WS := WS_mem 134 (by decide +kernel) (by decide +kernel)
set_option maxRecDepth 20000 in
theorem mw_97 : Cond.code y_Un_init prog_7_method_1_code 2 none ∈ WS := WS_mem 135 (by decide +kernel) (by decide +kernel)
set_option maxRecDepth 20000 in
theorem mw_98 : Cond.methodLink "ReplayMachine$Undo" 3 (⟨"java/lang/Object", "<init>", "()V"⟩ : MethodName) ∈ WS := WS_mem 136 (by decide +kernel) (by decide +kernel)
set_option maxRecDepth 20000 in
theorem mw_99 : Cond.classLink "ReplayMachine$Undo" 9 "ReplayMachine$Note" ∈ WS := WS_mem 137 (by decide +kernel) (by decide +kernel)
set_option maxRecDepth 20000 in
theorem mw_101 : Cond.instantiable "ReplayMachine$Note" 10 ∈ WS := WS_mem 139 (by decide +kernel) (by decide +kernel)
set_option maxRecDepth 20000 in
theorem mw_102 : Cond.methodLink "ReplayMachine$Undo" 17 y_Nt_init ∈ WS := WS_mem 140 (by decide +kernel) (by decide +kernel)
set_option maxRecDepth 20000 in
theorem mw_103 : Cond.instanceMethod y_Nt_init ∈ WS := WS_mem 141 (by decide +kernel) (by decide +kernel)
set_option maxRecDepth 20000 in
theorem mw_104 : Cond.code y_Nt_init prog_4_method_1_code 1 none ∈ WS := WS_mem 142 (by decide +kernel) (by decide +kernel)
set_option maxRecDepth 20000 in
theorem mw_106 : Cond.fieldLink "ReplayMachine$Note" 9 "ReplayMachine$Note" "places" "[I" ∈ WS := WS_mem 144 (by decide +kernel) (by decide +kernel)
set_option maxRecDepth 20000 in
theorem mw_107 : Cond.fieldLink "ReplayMachine$Note" 13 "ReplayMachine$Note" "words" "[I" ∈ WS := WS_mem 145 (by decide +kernel) (by decide +kernel)
set_option maxRecDepth 20000 in
theorem mw_108 : Cond.fieldLink "ReplayMachine$Note" 20 "ReplayMachine$Note" "size" "I" ∈ WS := WS_mem 146 (by decide +kernel) (by decide +kernel)
set_option maxRecDepth 20000 in
theorem mw_109 : Cond.laysFinal "ReplayMachine$Note" "ReplayMachine$Note" "places" "[I" ∈ WS := WS_mem 147 (by decide +kernel) (by decide +kernel)
set_option maxRecDepth 20000 in
theorem mw_111 : Cond.laysFinal "ReplayMachine$Note" "ReplayMachine$Note" "words" "[I" ∈ WS := WS_mem 149 (by decide +kernel) (by decide +kernel)
set_option maxRecDepth 20000 in
theorem mw_113 : Cond.lays "ReplayMachine$Note" "ReplayMachine$Note" "size" "I" ∈ WS := WS_mem 151 (by decide +kernel) (by decide +kernel)
set_option maxRecDepth 20000 in
theorem mw_115 : Cond.lays "ReplayMachine$Note" "ReplayMachine$Registers" "time" "I" ∈ WS := WS_mem 153 (by decide +kernel) (by decide +kernel)
set_option maxRecDepth 20000 in
theorem mw_116 : Cond.lays "ReplayMachine$Note" "ReplayMachine$Registers" "pc" "I" ∈ WS := WS_mem 154 (by decide +kernel) (by decide +kernel)
set_option maxRecDepth 20000 in
theorem mw_117 : Cond.lays "ReplayMachine$Note" "ReplayMachine$Registers" "frame" "I" ∈ WS := WS_mem 155 (by decide +kernel) (by decide +kernel)
set_option maxRecDepth 20000 in
theorem mw_118 : Cond.lays "ReplayMachine$Note" "ReplayMachine$Registers" "x" "I" ∈ WS := WS_mem 156 (by decide +kernel) (by decide +kernel)
set_option maxRecDepth 20000 in
theorem mw_119 : Cond.lays "ReplayMachine$Note" "ReplayMachine$Registers" "taken" "I" ∈ WS := WS_mem 157 (by decide +kernel) (by decide +kernel)
set_option maxRecDepth 20000 in
theorem mw_120 : Cond.lays "ReplayMachine$Note" "ReplayMachine$Registers" "height" "I" ∈ WS := WS_mem 158 (by decide +kernel) (by decide +kernel)
set_option maxRecDepth 20000 in
theorem mw_121 : Cond.lays "ReplayMachine$Note" "ReplayMachine$Registers" "changed" "I" ∈ WS := WS_mem 159 (by decide +kernel) (by decide +kernel)
set_option maxRecDepth 20000 in
theorem mw_123 : Cond.fieldLink "ReplayMachine$Undo" 11 "ReplayMachine$Undo" "notes" "[LReplayMachine$Note;" ∈ WS := WS_mem 161 (by decide +kernel) (by decide +kernel)
set_option maxRecDepth 20000 in
theorem mw_124 : Cond.fieldLink "ReplayMachine$Machine" 34 "ReplayMachine$Undo" "notes" "[LReplayMachine$Note;" ∈ WS := WS_mem 162 (by decide +kernel) (by decide +kernel)
set_option maxRecDepth 20000 in
theorem mw_125 : Cond.fieldLink "ReplayMachine$Undo" 18 "ReplayMachine$Undo" "newest" "I" ∈ WS := WS_mem 163 (by decide +kernel) (by decide +kernel)
set_option maxRecDepth 20000 in
theorem mw_126 : Cond.fieldLink "ReplayMachine$Undo" 22 "ReplayMachine$Undo" "size" "I" ∈ WS := WS_mem 164 (by decide +kernel) (by decide +kernel)
set_option maxRecDepth 20000 in
theorem mw_127 : Cond.fieldLink "ReplayMachine" 118 "ReplayMachine$Undo" "size" "I" ∈ WS := WS_mem 165 (by decide +kernel) (by decide +kernel)
set_option maxRecDepth 20000 in
theorem mw_128 : Cond.laysFinal "ReplayMachine$Undo" "ReplayMachine$Undo" "notes" "[LReplayMachine$Note;" ∈ WS := WS_mem 166 (by decide +kernel) (by decide +kernel)
set_option maxRecDepth 20000 in
theorem mw_130 : Cond.lays "ReplayMachine$Undo" "ReplayMachine$Undo" "newest" "I" ∈ WS := WS_mem 168 (by decide +kernel) (by decide +kernel)
set_option maxRecDepth 20000 in
theorem mw_132 : Cond.lays "ReplayMachine$Undo" "ReplayMachine$Undo" "size" "I" ∈ WS := WS_mem 170 (by decide +kernel) (by decide +kernel)
set_option maxRecDepth 20000 in
theorem mw_135 : Cond.fieldLink "ReplayMachine$Machine" 9 "ReplayMachine$Machine" "code" "[I" ∈ WS := WS_mem 173 (by decide +kernel) (by decide +kernel)
set_option maxRecDepth 20000 in
theorem mw_136 : Cond.fieldLink "ReplayMachine" 52 "ReplayMachine$Machine" "code" "[I" ∈ WS := WS_mem 174 (by decide +kernel) (by decide +kernel)
set_option maxRecDepth 20000 in
theorem mw_137 : Cond.fieldLink "ReplayMachine$Machine" 15 "ReplayMachine$Machine" "inputs" "[I" ∈ WS := WS_mem 175 (by decide +kernel) (by decide +kernel)
set_option maxRecDepth 20000 in
theorem mw_138 : Cond.fieldLink "ReplayMachine$Machine" 23 "ReplayMachine$Machine" "now" "LReplayMachine$State;" ∈ WS := WS_mem 176 (by decide +kernel) (by decide +kernel)
set_option maxRecDepth 20000 in
theorem mw_139 : Cond.fieldLink "ReplayMachine" 79 "ReplayMachine$Machine" "now" "LReplayMachine$State;" ∈ WS := WS_mem 177 (by decide +kernel) (by decide +kernel)
set_option maxRecDepth 20000 in
theorem mw_140 : Cond.fieldLink "ReplayMachine$Machine" 30 "ReplayMachine$Machine" "undo" "LReplayMachine$Undo;" ∈ WS := WS_mem 178 (by decide +kernel) (by decide +kernel)
set_option maxRecDepth 20000 in
theorem mw_141 : Cond.fieldLink "ReplayMachine" 114 "ReplayMachine$Machine" "undo" "LReplayMachine$Undo;" ∈ WS := WS_mem 179 (by decide +kernel) (by decide +kernel)
set_option maxRecDepth 20000 in
theorem mw_142 : Cond.fieldLink "ReplayMachine$Machine" 42 "ReplayMachine$Machine" "inputCount" "I" ∈ WS := WS_mem 180 (by decide +kernel) (by decide +kernel)
set_option maxRecDepth 20000 in
theorem mw_143 : Cond.fieldLink "ReplayMachine$Machine" 38 "ReplayMachine$Machine" "note" "LReplayMachine$Note;" ∈ WS := WS_mem 181 (by decide +kernel) (by decide +kernel)
set_option maxRecDepth 20000 in
theorem mw_144 : Cond.laysFinal "ReplayMachine$Machine" "ReplayMachine$Machine" "code" "[I" ∈ WS := WS_mem 182 (by decide +kernel) (by decide +kernel)
set_option maxRecDepth 20000 in
theorem mw_146 : Cond.laysFinal "ReplayMachine$Machine" "ReplayMachine$Machine" "inputs" "[I" ∈ WS := WS_mem 184 (by decide +kernel) (by decide +kernel)
set_option maxRecDepth 20000 in
theorem mw_148 : Cond.laysFinal "ReplayMachine$Machine" "ReplayMachine$Machine" "now" "LReplayMachine$State;" ∈ WS := WS_mem 186 (by decide +kernel) (by decide +kernel)
set_option maxRecDepth 20000 in
theorem mw_150 : Cond.laysFinal "ReplayMachine$Machine" "ReplayMachine$Machine" "undo" "LReplayMachine$Undo;" ∈ WS := WS_mem 188 (by decide +kernel) (by decide +kernel)
set_option maxRecDepth 20000 in
theorem mw_152 : Cond.lays "ReplayMachine$Machine" "ReplayMachine$Machine" "inputCount" "I" ∈ WS := WS_mem 190 (by decide +kernel) (by decide +kernel)
set_option maxRecDepth 20000 in
theorem mw_154 : Cond.lays "ReplayMachine$Machine" "ReplayMachine$Machine" "note" "LReplayMachine$Note;" ∈ WS := WS_mem 192 (by decide +kernel) (by decide +kernel)
set_option maxRecDepth 20000 in
theorem mw_157 : Cond.classLink "ReplayMachine" 18 "ReplayMachine$Checkpoints" ∈ WS := WS_mem 195 (by decide +kernel) (by decide +kernel)
set_option maxRecDepth 20000 in
theorem mw_158 : Cond.instantiable "ReplayMachine$Checkpoints" 3 ∈ WS := WS_mem 196 (by decide +kernel) (by decide +kernel)
set_option maxRecDepth 20000 in
theorem mw_159 : Cond.methodLink "ReplayMachine" 20 y_Cp_init ∈ WS := WS_mem 197 (by decide +kernel) (by decide +kernel)
set_option maxRecDepth 20000 in
theorem mw_160 : Cond.instanceMethod y_Cp_init ∈ WS := WS_mem 198 (by decide +kernel) (by decide +kernel)
set_option maxRecDepth 20000 in
theorem mw_161 : Cond.code y_Cp_init prog_2_method_1_code 3 none ∈ WS := WS_mem 199 (by decide +kernel) (by decide +kernel)
set_option maxRecDepth 20000 in
theorem mw_162 : Cond.methodLink "ReplayMachine$Checkpoints" 3 (⟨"java/lang/Object", "<init>", "()V"⟩ : MethodName) ∈ WS := WS_mem 200 (by decide +kernel) (by decide +kernel)
set_option maxRecDepth 20000 in
theorem mw_163 : Cond.classLink "ReplayMachine$Checkpoints" 9 "ReplayMachine$State" ∈ WS := WS_mem 201 (by decide +kernel) (by decide +kernel)
set_option maxRecDepth 20000 in
theorem mw_165 : Cond.methodLink "ReplayMachine$Checkpoints" 17 y_St_init ∈ WS := WS_mem 203 (by decide +kernel) (by decide +kernel)
set_option maxRecDepth 20000 in
theorem mw_166 : Cond.fieldLink "ReplayMachine$Checkpoints" 11 "ReplayMachine$Checkpoints" "kept" "[LReplayMachine$State;" ∈ WS := WS_mem 204 (by decide +kernel) (by decide +kernel)
set_option maxRecDepth 20000 in
theorem mw_167 : Cond.fieldLink "ReplayMachine" 139 "ReplayMachine$Checkpoints" "kept" "[LReplayMachine$State;" ∈ WS := WS_mem 205 (by decide +kernel) (by decide +kernel)
set_option maxRecDepth 20000 in
theorem mw_168 : Cond.fieldLink "ReplayMachine$Checkpoints" 20 "ReplayMachine$Checkpoints" "size" "I" ∈ WS := WS_mem 206 (by decide +kernel) (by decide +kernel)
set_option maxRecDepth 20000 in
theorem mw_169 : Cond.fieldLink "ReplayMachine" 126 "ReplayMachine$Checkpoints" "size" "I" ∈ WS := WS_mem 207 (by decide +kernel) (by decide +kernel)
set_option maxRecDepth 20000 in
theorem mw_170 : Cond.fieldLink "ReplayMachine$Checkpoints" 24 "ReplayMachine$Checkpoints" "every" "I" ∈ WS := WS_mem 208 (by decide +kernel) (by decide +kernel)
set_option maxRecDepth 20000 in
theorem mw_171 : Cond.fieldLink "ReplayMachine" 123 "ReplayMachine$Checkpoints" "every" "I" ∈ WS := WS_mem 209 (by decide +kernel) (by decide +kernel)
set_option maxRecDepth 20000 in
theorem mw_172 : Cond.laysFinal "ReplayMachine$Checkpoints" "ReplayMachine$Checkpoints" "kept" "[LReplayMachine$State;" ∈ WS := WS_mem 210 (by decide +kernel) (by decide +kernel)
set_option maxRecDepth 20000 in
theorem mw_174 : Cond.lays "ReplayMachine$Checkpoints" "ReplayMachine$Checkpoints" "size" "I" ∈ WS := WS_mem 212 (by decide +kernel) (by decide +kernel)
set_option maxRecDepth 20000 in
theorem mw_176 : Cond.lays "ReplayMachine$Checkpoints" "ReplayMachine$Checkpoints" "every" "I" ∈ WS := WS_mem 214 (by decide +kernel) (by decide +kernel)
set_option maxRecDepth 20000 in
theorem mw_179 : Cond.fieldLink "ReplayMachine" 14 "ReplayMachine" "machine" "LReplayMachine$Machine;" ∈ WS := WS_mem 217 (by decide +kernel) (by decide +kernel)
set_option maxRecDepth 20000 in
theorem mw_180 : Cond.fieldLink "ReplayMachine" 21 "ReplayMachine" "checkpoints" "LReplayMachine$Checkpoints;" ∈ WS := WS_mem 218 (by decide +kernel) (by decide +kernel)
set_option maxRecDepth 20000 in
theorem mw_181 : Cond.fieldLink "ReplayMachine" 25 "ReplayMachine" "breaks" "[Z" ∈ WS := WS_mem 219 (by decide +kernel) (by decide +kernel)
set_option maxRecDepth 20000 in
theorem mw_182 : Cond.fieldLink "ReplayMachine" 29 "ReplayMachine" "watches" "[Z" ∈ WS := WS_mem 220 (by decide +kernel) (by decide +kernel)
set_option maxRecDepth 20000 in
theorem mw_183 : Cond.fieldLink "ReplayMachine" 43 "ReplayMachine" "greatest" "I" ∈ WS := WS_mem 221 (by decide +kernel) (by decide +kernel)
set_option maxRecDepth 20000 in
theorem mw_184 : Cond.fieldLink "ReplayMachine" 60 "ReplayMachine" "cost" "I" ∈ WS := WS_mem 222 (by decide +kernel) (by decide +kernel)
set_option maxRecDepth 20000 in
theorem mw_185 : Cond.laysFinal "ReplayMachine" "ReplayMachine" "machine" "LReplayMachine$Machine;" ∈ WS := WS_mem 223 (by decide +kernel) (by decide +kernel)
set_option maxRecDepth 20000 in
theorem mw_187 : Cond.laysFinal "ReplayMachine" "ReplayMachine" "checkpoints" "LReplayMachine$Checkpoints;" ∈ WS := WS_mem 225 (by decide +kernel) (by decide +kernel)
set_option maxRecDepth 20000 in
theorem mw_189 : Cond.laysFinal "ReplayMachine" "ReplayMachine" "breaks" "[Z" ∈ WS := WS_mem 227 (by decide +kernel) (by decide +kernel)
set_option maxRecDepth 20000 in
theorem mw_191 : Cond.laysFinal "ReplayMachine" "ReplayMachine" "watches" "[Z" ∈ WS := WS_mem 229 (by decide +kernel) (by decide +kernel)
set_option maxRecDepth 20000 in
theorem mw_193 : Cond.lays "ReplayMachine" "ReplayMachine" "greatest" "I" ∈ WS := WS_mem 231 (by decide +kernel) (by decide +kernel)
set_option maxRecDepth 20000 in
theorem mw_195 : Cond.lays "ReplayMachine" "ReplayMachine" "cost" "I" ∈ WS := WS_mem 233 (by decide +kernel) (by decide +kernel)
set_option maxRecDepth 20000 in
theorem mw_198 : Cond.arrayClass FieldType.boolean ∈ WS := WS_mem 236 (by decide +kernel) (by decide +kernel)
set_option maxRecDepth 20000 in
theorem mw_199 : Cond.methodLink "ReplayMachineLaw" 71 y_RM_input ∈ WS := WS_mem 237 (by decide +kernel) (by decide +kernel)
set_option maxRecDepth 20000 in
theorem mw_200 : Cond.instanceMethod y_RM_input ∈ WS := WS_mem 238 (by decide +kernel) (by decide +kernel)
set_option maxRecDepth 20000 in
theorem mw_201 : Cond.selects "ReplayMachine" y_RM_input y_RM_input ∈ WS := WS_mem 239 (by decide +kernel) (by decide +kernel)
set_option maxRecDepth 20000 in
theorem mw_202 : Cond.code y_RM_input prog_1_method_3_code 2 (some FieldType.int) ∈ WS := WS_mem 240 (by decide +kernel) (by decide +kernel)
set_option maxRecDepth 20000 in
theorem mw_203 : Cond.methodLink "ReplayMachine" 56 y_Ma_addInput ∈ WS := WS_mem 241 (by decide +kernel) (by decide +kernel)
set_option maxRecDepth 20000 in
theorem mw_204 : Cond.instanceMethod y_Ma_addInput ∈ WS := WS_mem 242 (by decide +kernel) (by decide +kernel)
set_option maxRecDepth 20000 in
theorem mw_205 : Cond.selects "ReplayMachine$Machine" y_Ma_addInput y_Ma_addInput ∈ WS := WS_mem 243 (by decide +kernel) (by decide +kernel)
set_option maxRecDepth 20000 in
theorem mw_206 : Cond.code y_Ma_addInput prog_3_method_2_code 2 (some FieldType.int) ∈ WS := WS_mem 244 (by decide +kernel) (by decide +kernel)
set_option maxRecDepth 20000 in
theorem mw_207 : Cond.methodLink "ReplayMachineLaw" 75 y_RM_step ∈ WS := WS_mem 245 (by decide +kernel) (by decide +kernel)
set_option maxRecDepth 20000 in
theorem mw_208 : Cond.instanceMethod y_RM_step ∈ WS := WS_mem 246 (by decide +kernel) (by decide +kernel)
set_option maxRecDepth 20000 in
theorem mw_209 : Cond.selects "ReplayMachine" y_RM_step y_RM_step ∈ WS := WS_mem 247 (by decide +kernel) (by decide +kernel)
set_option maxRecDepth 20000 in
theorem mw_210 : Cond.code y_RM_step prog_1_method_4_code 1 (some FieldType.int) ∈ WS := WS_mem 248 (by decide +kernel) (by decide +kernel)
set_option maxRecDepth 20000 in
theorem mw_211 : Cond.methodLink "ReplayMachine" 63 y_RM_advance ∈ WS := WS_mem 249 (by decide +kernel) (by decide +kernel)
set_option maxRecDepth 20000 in
theorem mw_213 : Cond.instanceMethod y_RM_advance ∈ WS := WS_mem 251 (by decide +kernel) (by decide +kernel)
set_option maxRecDepth 20000 in
theorem mw_214 : Cond.code y_RM_advance prog_1_method_19_code 2 (some FieldType.int) ∈ WS := WS_mem 252 (by decide +kernel) (by decide +kernel)
set_option maxRecDepth 20000 in
theorem mw_215 : Cond.methodLink "ReplayMachine" 143 y_Ma_obstacle ∈ WS := WS_mem 253 (by decide +kernel) (by decide +kernel)
set_option maxRecDepth 20000 in
theorem mw_216 : Cond.instanceMethod y_Ma_obstacle ∈ WS := WS_mem 254 (by decide +kernel) (by decide +kernel)
set_option maxRecDepth 20000 in
theorem mw_217 : Cond.selects "ReplayMachine$Machine" y_Ma_obstacle y_Ma_obstacle ∈ WS := WS_mem 255 (by decide +kernel) (by decide +kernel)
set_option maxRecDepth 20000 in
theorem mw_218 : Cond.code y_Ma_obstacle prog_3_method_3_code 3 (some FieldType.int) ∈ WS := WS_mem 256 (by decide +kernel) (by decide +kernel)
set_option maxRecDepth 20000 in
theorem mw_220 : Cond.static y_RM_within ∈ WS := WS_mem 258 (by decide +kernel) (by decide +kernel)
set_option maxRecDepth 20000 in
theorem mw_221 : Cond.code y_RM_within prog_1_method_16_code 2 (some FieldType.boolean) ∈ WS := WS_mem 259 (by decide +kernel) (by decide +kernel)
set_option maxRecDepth 20000 in
theorem mw_222 : Cond.methodLink "ReplayMachine$Machine" 53 y_Ma_hasTooFew ∈ WS := WS_mem 260 (by decide +kernel) (by decide +kernel)
set_option maxRecDepth 20000 in
theorem mw_224 : Cond.instanceMethod y_Ma_hasTooFew ∈ WS := WS_mem 262 (by decide +kernel) (by decide +kernel)
set_option maxRecDepth 20000 in
theorem mw_225 : Cond.code y_Ma_hasTooFew prog_3_method_4_code 3 (some FieldType.boolean) ∈ WS := WS_mem 263 (by decide +kernel) (by decide +kernel)
set_option maxRecDepth 20000 in
theorem mw_226 : Cond.methodLink "ReplayMachine$Machine" 72 y_Ma_argumentPlace ∈ WS := WS_mem 264 (by decide +kernel) (by decide +kernel)
set_option maxRecDepth 20000 in
theorem mw_228 : Cond.instanceMethod y_Ma_argumentPlace ∈ WS := WS_mem 266 (by decide +kernel) (by decide +kernel)
set_option maxRecDepth 20000 in
theorem mw_229 : Cond.code y_Ma_argumentPlace prog_3_method_5_code 2 (some FieldType.int) ∈ WS := WS_mem 267 (by decide +kernel) (by decide +kernel)
set_option maxRecDepth 20000 in
theorem mw_230 : Cond.fieldLink "ReplayMachine$Machine" 75 "ReplayMachine$Machine" "NEEDS" "[I" ∈ WS := WS_mem 268 (by decide +kernel) (by decide +kernel)
set_option maxRecDepth 20000 in
theorem mw_232 : Cond.methodLink "ReplayMachine$Machine" 56 y_Ma_fromTop ∈ WS := WS_mem 270 (by decide +kernel) (by decide +kernel)
set_option maxRecDepth 20000 in
theorem mw_234 : Cond.instanceMethod y_Ma_fromTop ∈ WS := WS_mem 272 (by decide +kernel) (by decide +kernel)
set_option maxRecDepth 20000 in
theorem mw_235 : Cond.code y_Ma_fromTop prog_3_method_6_code 2 (some FieldType.int) ∈ WS := WS_mem 273 (by decide +kernel) (by decide +kernel)
set_option maxRecDepth 20000 in
theorem mw_236 : Cond.methodLink "ReplayMachine$Machine" 78 y_St_number ∈ WS := WS_mem 274 (by decide +kernel) (by decide +kernel)
set_option maxRecDepth 20000 in
theorem mw_237 : Cond.instanceMethod y_St_number ∈ WS := WS_mem 275 (by decide +kernel) (by decide +kernel)
set_option maxRecDepth 20000 in
theorem mw_238 : Cond.selects "ReplayMachine$State" y_St_number y_St_number ∈ WS := WS_mem 276 (by decide +kernel) (by decide +kernel)
set_option maxRecDepth 20000 in
theorem mw_239 : Cond.code y_St_number prog_6_method_3_code 2 (some FieldType.int) ∈ WS := WS_mem 277 (by decide +kernel) (by decide +kernel)
set_option maxRecDepth 20000 in
theorem mw_241 : Cond.fieldLink "ReplayMachine$Machine" 66 "ReplayMachine$Machine" "GROWS" "[I" ∈ WS := WS_mem 279 (by decide +kernel) (by decide +kernel)
set_option maxRecDepth 20000 in
theorem mw_243 : Cond.methodLink "ReplayMachine" 146 y_Ma_perform ∈ WS := WS_mem 281 (by decide +kernel) (by decide +kernel)
set_option maxRecDepth 20000 in
theorem mw_244 : Cond.instanceMethod y_Ma_perform ∈ WS := WS_mem 282 (by decide +kernel) (by decide +kernel)
set_option maxRecDepth 20000 in
theorem mw_245 : Cond.selects "ReplayMachine$Machine" y_Ma_perform y_Ma_perform ∈ WS := WS_mem 283 (by decide +kernel) (by decide +kernel)
set_option maxRecDepth 20000 in
theorem mw_246 : Cond.code y_Ma_perform prog_3_method_7_code 3 none ∈ WS := WS_mem 284 (by decide +kernel) (by decide +kernel)
set_option maxRecDepth 20000 in
theorem mw_247 : Cond.methodLink "ReplayMachine$Machine" 81 y_Un_begin ∈ WS := WS_mem 285 (by decide +kernel) (by decide +kernel)
set_option maxRecDepth 20000 in
theorem mw_248 : Cond.instanceMethod y_Un_begin ∈ WS := WS_mem 286 (by decide +kernel) (by decide +kernel)
set_option maxRecDepth 20000 in
theorem mw_249 : Cond.selects "ReplayMachine$Undo" y_Un_begin y_Un_begin ∈ WS := WS_mem 287 (by decide +kernel) (by decide +kernel)
set_option maxRecDepth 20000 in
theorem mw_250 : Cond.code y_Un_begin prog_7_method_2_code 2 (some (FieldType.object "ReplayMachine$Note")) ∈ WS := WS_mem 288 (by decide +kernel) (by decide +kernel)
set_option maxRecDepth 20000 in
theorem mw_251 : Cond.methodLink "ReplayMachine$Undo" 25 (⟨"java/lang/Math", "min", "(II)I"⟩ : MethodName) ∈ WS := WS_mem 289 (by decide +kernel) (by decide +kernel)
set_option maxRecDepth 20000 in
theorem mw_252 : Cond.static (⟨"java/lang/Math", "min", "(II)I"⟩ : MethodName) ∈ WS := WS_mem 290 (by decide +kernel) (by decide +kernel)
set_option maxRecDepth 20000 in
theorem mw_253 : Cond.code (⟨"java/lang/Math", "min", "(II)I"⟩ : MethodName) prog_14_method_69_code 2 (some FieldType.int) ∈ WS := WS_mem 291 (by decide +kernel) (by decide +kernel)
set_option maxRecDepth 20000 in
theorem mw_254 : Cond.methodLink "ReplayMachine$Undo" 31 y_Nt_begin ∈ WS := WS_mem 292 (by decide +kernel) (by decide +kernel)
set_option maxRecDepth 20000 in
theorem mw_255 : Cond.instanceMethod y_Nt_begin ∈ WS := WS_mem 293 (by decide +kernel) (by decide +kernel)
set_option maxRecDepth 20000 in
theorem mw_256 : Cond.selects "ReplayMachine$Note" y_Nt_begin y_Nt_begin ∈ WS := WS_mem 294 (by decide +kernel) (by decide +kernel)
set_option maxRecDepth 20000 in
theorem mw_257 : Cond.code y_Nt_begin prog_4_method_2_code 2 none ∈ WS := WS_mem 295 (by decide +kernel) (by decide +kernel)
set_option maxRecDepth 20000 in
theorem mw_258 : Cond.methodLink "ReplayMachine$Note" 16 (⟨"ReplayMachine$Note", "copyRegisters", "(LReplayMachine$Registers;)V"⟩ : MethodName) ∈ WS := WS_mem 296 (by decide +kernel) (by decide +kernel)
set_option maxRecDepth 20000 in
theorem mw_259 : Cond.sameMethod "ReplayMachine$Note" "ReplayMachine$Registers" "copyRegisters" "(LReplayMachine$Registers;)V" ∈ WS := WS_mem 297 (by decide +kernel) (by decide +kernel)
set_option maxRecDepth 20000 in
theorem mw_261 : Cond.selects "ReplayMachine$Note" (⟨"ReplayMachine$Note", "copyRegisters", "(LReplayMachine$Registers;)V"⟩ : MethodName) y_Rg_copyRegisters ∈ WS := WS_mem 299 (by decide +kernel) (by decide +kernel)
set_option maxRecDepth 20000 in
theorem mw_262 : Cond.instanceMethod y_Rg_copyRegisters ∈ WS := WS_mem 300 (by decide +kernel) (by decide +kernel)
set_option maxRecDepth 20000 in
theorem mw_263 : Cond.code y_Rg_copyRegisters prog_5_method_2_code 2 none ∈ WS := WS_mem 301 (by decide +kernel) (by decide +kernel)
set_option maxRecDepth 20000 in
theorem mw_264 : Cond.methodLink "ReplayMachine$Machine" 91 y_Ma_push ∈ WS := WS_mem 302 (by decide +kernel) (by decide +kernel)
set_option maxRecDepth 20000 in
theorem mw_266 : Cond.instanceMethod y_Ma_push ∈ WS := WS_mem 304 (by decide +kernel) (by decide +kernel)
set_option maxRecDepth 20000 in
theorem mw_267 : Cond.code y_Ma_push prog_3_method_9_code 2 none ∈ WS := WS_mem 305 (by decide +kernel) (by decide +kernel)
set_option maxRecDepth 20000 in
theorem mw_268 : Cond.methodLink "ReplayMachine$Machine" 135 y_Ma_put ∈ WS := WS_mem 306 (by decide +kernel) (by decide +kernel)
set_option maxRecDepth 20000 in
theorem mw_270 : Cond.instanceMethod y_Ma_put ∈ WS := WS_mem 308 (by decide +kernel) (by decide +kernel)
set_option maxRecDepth 20000 in
theorem mw_271 : Cond.code y_Ma_put prog_3_method_8_code 3 none ∈ WS := WS_mem 309 (by decide +kernel) (by decide +kernel)
set_option maxRecDepth 20000 in
theorem mw_272 : Cond.methodLink "ReplayMachine$Machine" 129 y_Nt_keepWord ∈ WS := WS_mem 310 (by decide +kernel) (by decide +kernel)
set_option maxRecDepth 20000 in
theorem mw_273 : Cond.instanceMethod y_Nt_keepWord ∈ WS := WS_mem 311 (by decide +kernel) (by decide +kernel)
set_option maxRecDepth 20000 in
theorem mw_274 : Cond.selects "ReplayMachine$Note" y_Nt_keepWord y_Nt_keepWord ∈ WS := WS_mem 312 (by decide +kernel) (by decide +kernel)
set_option maxRecDepth 20000 in
theorem mw_275 : Cond.code y_Nt_keepWord prog_4_method_3_code 3 none ∈ WS := WS_mem 313 (by decide +kernel) (by decide +kernel)
set_option maxRecDepth 20000 in
theorem mw_276 : Cond.methodLink "ReplayMachine$Machine" 94 y_Ma_exchange ∈ WS := WS_mem 314 (by decide +kernel) (by decide +kernel)
set_option maxRecDepth 20000 in
theorem mw_278 : Cond.instanceMethod y_Ma_exchange ∈ WS := WS_mem 316 (by decide +kernel) (by decide +kernel)
set_option maxRecDepth 20000 in
theorem mw_279 : Cond.code y_Ma_exchange prog_3_method_11_code 3 none ∈ WS := WS_mem 317 (by decide +kernel) (by decide +kernel)
set_option maxRecDepth 20000 in
theorem mw_280 : Cond.methodLink "ReplayMachine$Machine" 97 y_Ma_result ∈ WS := WS_mem 318 (by decide +kernel) (by decide +kernel)
set_option maxRecDepth 20000 in
theorem mw_281 : Cond.static y_Ma_result ∈ WS := WS_mem 319 (by decide +kernel) (by decide +kernel)
set_option maxRecDepth 20000 in
theorem mw_282 : Cond.code y_Ma_result prog_3_method_12_code 3 (some FieldType.int) ∈ WS := WS_mem 320 (by decide +kernel) (by decide +kernel)
set_option maxRecDepth 20000 in
theorem mw_283 : Cond.methodLink "ReplayMachine$Machine" 101 y_Ma_replaceTwo ∈ WS := WS_mem 321 (by decide +kernel) (by decide +kernel)
set_option maxRecDepth 20000 in
theorem mw_285 : Cond.instanceMethod y_Ma_replaceTwo ∈ WS := WS_mem 323 (by decide +kernel) (by decide +kernel)
set_option maxRecDepth 20000 in
theorem mw_286 : Cond.code y_Ma_replaceTwo prog_3_method_10_code 2 none ∈ WS := WS_mem 324 (by decide +kernel) (by decide +kernel)
set_option maxRecDepth 20000 in
theorem mw_287 : Cond.methodLink "ReplayMachine$Machine" 104 y_Ma_load ∈ WS := WS_mem 325 (by decide +kernel) (by decide +kernel)
set_option maxRecDepth 20000 in
theorem mw_289 : Cond.instanceMethod y_Ma_load ∈ WS := WS_mem 327 (by decide +kernel) (by decide +kernel)
set_option maxRecDepth 20000 in
theorem mw_290 : Cond.code y_Ma_load prog_3_method_13_code 2 none ∈ WS := WS_mem 328 (by decide +kernel) (by decide +kernel)
set_option maxRecDepth 20000 in
theorem mw_291 : Cond.methodLink "ReplayMachine$Machine" 107 y_Ma_store ∈ WS := WS_mem 329 (by decide +kernel) (by decide +kernel)
set_option maxRecDepth 20000 in
theorem mw_293 : Cond.instanceMethod y_Ma_store ∈ WS := WS_mem 331 (by decide +kernel) (by decide +kernel)
set_option maxRecDepth 20000 in
theorem mw_294 : Cond.code y_Ma_store prog_3_method_14_code 3 none ∈ WS := WS_mem 332 (by decide +kernel) (by decide +kernel)
set_option maxRecDepth 20000 in
theorem mw_295 : Cond.methodLink "ReplayMachine$Machine" 110 y_Ma_jumpIf ∈ WS := WS_mem 333 (by decide +kernel) (by decide +kernel)
set_option maxRecDepth 20000 in
theorem mw_297 : Cond.instanceMethod y_Ma_jumpIf ∈ WS := WS_mem 335 (by decide +kernel) (by decide +kernel)
set_option maxRecDepth 20000 in
theorem mw_298 : Cond.code y_Ma_jumpIf prog_3_method_15_code 3 none ∈ WS := WS_mem 336 (by decide +kernel) (by decide +kernel)
set_option maxRecDepth 20000 in
theorem mw_299 : Cond.methodLink "ReplayMachine$Machine" 114 y_Ma_enter ∈ WS := WS_mem 337 (by decide +kernel) (by decide +kernel)
set_option maxRecDepth 20000 in
theorem mw_301 : Cond.instanceMethod y_Ma_enter ∈ WS := WS_mem 339 (by decide +kernel) (by decide +kernel)
set_option maxRecDepth 20000 in
theorem mw_302 : Cond.code y_Ma_enter prog_3_method_16_code 2 none ∈ WS := WS_mem 340 (by decide +kernel) (by decide +kernel)
set_option maxRecDepth 20000 in
theorem mw_303 : Cond.methodLink "ReplayMachine$Machine" 117 y_Ma_leave ∈ WS := WS_mem 341 (by decide +kernel) (by decide +kernel)
set_option maxRecDepth 20000 in
theorem mw_305 : Cond.instanceMethod y_Ma_leave ∈ WS := WS_mem 343 (by decide +kernel) (by decide +kernel)
set_option maxRecDepth 20000 in
theorem mw_306 : Cond.code y_Ma_leave prog_3_method_17_code 2 none ∈ WS := WS_mem 344 (by decide +kernel) (by decide +kernel)
set_option maxRecDepth 20000 in
theorem mw_307 : Cond.methodLink "ReplayMachine$Machine" 120 y_Ma_takeInput ∈ WS := WS_mem 345 (by decide +kernel) (by decide +kernel)
set_option maxRecDepth 20000 in
theorem mw_309 : Cond.instanceMethod y_Ma_takeInput ∈ WS := WS_mem 347 (by decide +kernel) (by decide +kernel)
set_option maxRecDepth 20000 in
theorem mw_310 : Cond.code y_Ma_takeInput prog_3_method_18_code 1 none ∈ WS := WS_mem 348 (by decide +kernel) (by decide +kernel)
set_option maxRecDepth 20000 in
theorem mw_311 : Cond.methodLink "ReplayMachine$Machine" 123 y_Ma_pushRandom ∈ WS := WS_mem 349 (by decide +kernel) (by decide +kernel)
set_option maxRecDepth 20000 in
theorem mw_313 : Cond.instanceMethod y_Ma_pushRandom ∈ WS := WS_mem 351 (by decide +kernel) (by decide +kernel)
set_option maxRecDepth 20000 in
theorem mw_314 : Cond.code y_Ma_pushRandom prog_3_method_19_code 2 none ∈ WS := WS_mem 352 (by decide +kernel) (by decide +kernel)
set_option maxRecDepth 20000 in
theorem mw_315 : Cond.constant "ReplayMachine$Machine" 138 (1103515245) ∈ WS := WS_mem 353 (by decide +kernel) (by decide +kernel)
set_option maxRecDepth 20000 in
theorem mw_316 : Cond.methodLink "ReplayMachine" 149 y_Cp_offer ∈ WS := WS_mem 354 (by decide +kernel) (by decide +kernel)
set_option maxRecDepth 20000 in
theorem mw_317 : Cond.instanceMethod y_Cp_offer ∈ WS := WS_mem 355 (by decide +kernel) (by decide +kernel)
set_option maxRecDepth 20000 in
theorem mw_318 : Cond.selects "ReplayMachine$Checkpoints" y_Cp_offer y_Cp_offer ∈ WS := WS_mem 356 (by decide +kernel) (by decide +kernel)
set_option maxRecDepth 20000 in
theorem mw_319 : Cond.code y_Cp_offer prog_2_method_2_code 2 none ∈ WS := WS_mem 357 (by decide +kernel) (by decide +kernel)
set_option maxRecDepth 20000 in
theorem mw_320 : Cond.methodLink "ReplayMachine$Checkpoints" 30 y_Cp_isMultiple ∈ WS := WS_mem 358 (by decide +kernel) (by decide +kernel)
set_option maxRecDepth 20000 in
theorem mw_322 : Cond.instanceMethod y_Cp_isMultiple ∈ WS := WS_mem 360 (by decide +kernel) (by decide +kernel)
set_option maxRecDepth 20000 in
theorem mw_323 : Cond.code y_Cp_isMultiple prog_2_method_3_code 2 (some FieldType.boolean) ∈ WS := WS_mem 361 (by decide +kernel) (by decide +kernel)
set_option maxRecDepth 20000 in
theorem mw_324 : Cond.methodLink "ReplayMachine$Checkpoints" 34 y_Cp_thinOut ∈ WS := WS_mem 362 (by decide +kernel) (by decide +kernel)
set_option maxRecDepth 20000 in
theorem mw_326 : Cond.instanceMethod y_Cp_thinOut ∈ WS := WS_mem 364 (by decide +kernel) (by decide +kernel)
set_option maxRecDepth 20000 in
theorem mw_327 : Cond.code y_Cp_thinOut prog_2_method_4_code 4 none ∈ WS := WS_mem 365 (by decide +kernel) (by decide +kernel)
set_option maxRecDepth 20000 in
theorem mw_328 : Cond.methodLink "ReplayMachine$Checkpoints" 37 y_St_copyState ∈ WS := WS_mem 366 (by decide +kernel) (by decide +kernel)
set_option maxRecDepth 20000 in
theorem mw_329 : Cond.instanceMethod y_St_copyState ∈ WS := WS_mem 367 (by decide +kernel) (by decide +kernel)
set_option maxRecDepth 20000 in
theorem mw_330 : Cond.selects "ReplayMachine$State" y_St_copyState y_St_copyState ∈ WS := WS_mem 368 (by decide +kernel) (by decide +kernel)
set_option maxRecDepth 20000 in
theorem mw_331 : Cond.code y_St_copyState prog_6_method_2_code 2 none ∈ WS := WS_mem 369 (by decide +kernel) (by decide +kernel)
set_option maxRecDepth 20000 in
theorem mw_332 : Cond.methodLink "ReplayMachine$State" 22 (⟨"ReplayMachine$State", "copyRegisters", "(LReplayMachine$Registers;)V"⟩ : MethodName) ∈ WS := WS_mem 370 (by decide +kernel) (by decide +kernel)
set_option maxRecDepth 20000 in
theorem mw_333 : Cond.sameMethod "ReplayMachine$State" "ReplayMachine$Registers" "copyRegisters" "(LReplayMachine$Registers;)V" ∈ WS := WS_mem 371 (by decide +kernel) (by decide +kernel)
set_option maxRecDepth 20000 in
theorem mw_334 : Cond.selects "ReplayMachine$State" (⟨"ReplayMachine$State", "copyRegisters", "(LReplayMachine$Registers;)V"⟩ : MethodName) y_Rg_copyRegisters ∈ WS := WS_mem 372 (by decide +kernel) (by decide +kernel)
set_option maxRecDepth 20000 in
theorem mw_335 : Cond.methodLink "ReplayMachine$State" 26 (⟨"java/lang/System", "arraycopy", "(Ljava/lang/Object;ILjava/lang/Object;II)V"⟩ : MethodName) ∈ WS := WS_mem 373 (by decide +kernel) (by decide +kernel)
set_option maxRecDepth 20000 in
theorem mw_336 : Cond.static (⟨"java/lang/System", "arraycopy", "(Ljava/lang/Object;ILjava/lang/Object;II)V"⟩ : MethodName) ∈ WS := WS_mem 374 (by decide +kernel) (by decide +kernel)
set_option maxRecDepth 20000 in
theorem mw_337 : Cond.native (⟨"java/lang/System", "arraycopy", "(Ljava/lang/Object;ILjava/lang/Object;II)V"⟩ : MethodName) ∈ WS := WS_mem 375 (by decide +kernel) (by decide +kernel)
set_option maxRecDepth 20000 in
theorem mw_338 : Cond.methodLink "ReplayMachineLaw" 105 y_RM_cell ∈ WS := WS_mem 376 (by decide +kernel) (by decide +kernel)
set_option maxRecDepth 20000 in
theorem mw_339 : Cond.instanceMethod y_RM_cell ∈ WS := WS_mem 377 (by decide +kernel) (by decide +kernel)
set_option maxRecDepth 20000 in
theorem mw_340 : Cond.selects "ReplayMachine" y_RM_cell y_RM_cell ∈ WS := WS_mem 378 (by decide +kernel) (by decide +kernel)
set_option maxRecDepth 20000 in
theorem mw_341 : Cond.code y_RM_cell prog_1_method_13_code 2 (some FieldType.int) ∈ WS := WS_mem 379 (by decide +kernel) (by decide +kernel)
set_option maxRecDepth 20000 in
theorem mw_342 : Cond.methodLink "ReplayMachine" 32 y_RM_within ∈ WS := WS_mem 380 (by decide +kernel) (by decide +kernel)
set_option maxRecDepth 20000 in
theorem mw_343 : Cond.methodLink "ReplayMachineLaw" 52 y_La_cell ∈ WS := WS_mem 381 (by decide +kernel) (by decide +kernel)
set_option maxRecDepth 20000 in
theorem mw_344 : Cond.static y_La_cell ∈ WS := WS_mem 382 (by decide +kernel) (by decide +kernel)
set_option maxRecDepth 20000 in
theorem mw_345 : Cond.code y_La_cell method_2_code 2 (some FieldType.int) ∈ WS := WS_mem 383 (by decide +kernel) (by decide +kernel)
set_option maxRecDepth 20000 in
theorem mw_346 : Cond.methodLink "ReplayMachineLaw" 63 y_La_poke ∈ WS := WS_mem 384 (by decide +kernel) (by decide +kernel)
set_option maxRecDepth 20000 in
theorem mw_347 : Cond.static y_La_poke ∈ WS := WS_mem 385 (by decide +kernel) (by decide +kernel)
set_option maxRecDepth 20000 in
theorem mw_348 : Cond.codeWith y_La_poke method_3_code 4 (some FieldType.int) [(0, 6, 9, 13), (0, 6, 12, 15)] ∈ WS := WS_mem 386 (by decide +kernel) (by decide +kernel)
set_option maxRecDepth 20000 in
theorem mw_349 : Cond.classLink "ReplayMachineLaw" 13 "java/lang/IndexOutOfBoundsException" ∈ WS := WS_mem 387 (by decide +kernel) (by decide +kernel)
set_option maxRecDepth 20000 in
theorem mw_350 : Cond.classLink "ReplayMachineLaw" 15 "java/lang/IllegalStateException" ∈ WS := WS_mem 388 (by decide +kernel) (by decide +kernel)
set_option maxRecDepth 20000 in
theorem mw_351 : Cond.methodLink "ReplayMachineLaw" 7 y_RM_poke ∈ WS := WS_mem 389 (by decide +kernel) (by decide +kernel)
set_option maxRecDepth 20000 in
theorem mw_352 : Cond.instanceMethod y_RM_poke ∈ WS := WS_mem 390 (by decide +kernel) (by decide +kernel)
set_option maxRecDepth 20000 in
theorem mw_353 : Cond.selects "ReplayMachine" y_RM_poke y_RM_poke ∈ WS := WS_mem 391 (by decide +kernel) (by decide +kernel)
set_option maxRecDepth 20000 in
theorem mw_354 : Cond.code y_RM_poke prog_1_method_2_code 3 none ∈ WS := WS_mem 392 (by decide +kernel) (by decide +kernel)
set_option maxRecDepth 20000 in
theorem mw_355 : Cond.classLink "ReplayMachine" 36 "java/lang/IndexOutOfBoundsException" ∈ WS := WS_mem 393 (by decide +kernel) (by decide +kernel)
set_option maxRecDepth 20000 in
theorem mw_356 : Cond.instantiable "java/lang/IndexOutOfBoundsException" 6 ∈ WS := WS_mem 394 (by decide +kernel) (by decide +kernel)
set_option maxRecDepth 20000 in
theorem mw_364 : Cond.selects "java/lang/IndexOutOfBoundsException" (⟨"java/lang/Throwable", "fillInStackTrace", "(I)Ljava/lang/Throwable;"⟩ : MethodName) (⟨"java/lang/Throwable", "fillInStackTrace", "(I)Ljava/lang/Throwable;"⟩ : MethodName) ∈ WS := WS_mem 402 (by decide +kernel) (by decide +kernel)
set_option maxRecDepth 20000 in
theorem mw_365 : Cond.selects "java/lang/IndexOutOfBoundsException" (⟨"java/lang/Throwable", "fillInStackTrace", "()Ljava/lang/Throwable;"⟩ : MethodName) (⟨"java/lang/Throwable", "fillInStackTrace", "()Ljava/lang/Throwable;"⟩ : MethodName) ∈ WS := WS_mem 403 (by decide +kernel) (by decide +kernel)
set_option maxRecDepth 20000 in
theorem mw_366 : Cond.lays "java/lang/IndexOutOfBoundsException" "java/lang/Throwable" "cause" "Ljava/lang/Throwable;" ∈ WS := WS_mem 404 (by decide +kernel) (by decide +kernel)
set_option maxRecDepth 20000 in
theorem mw_367 : Cond.lays "java/lang/Throwable" "java/lang/Throwable" "cause" "Ljava/lang/Throwable;" ∈ WS := WS_mem 405 (by decide +kernel) (by decide +kernel)
set_option maxRecDepth 20000 in
theorem mw_368 : Cond.lays "java/lang/IndexOutOfBoundsException" "java/lang/Throwable" "stackTrace" "[Ljava/lang/StackTraceElement;" ∈ WS := WS_mem 406 (by decide +kernel) (by decide +kernel)
set_option maxRecDepth 20000 in
theorem mw_369 : Cond.lays "java/lang/Throwable" "java/lang/Throwable" "stackTrace" "[Ljava/lang/StackTraceElement;" ∈ WS := WS_mem 407 (by decide +kernel) (by decide +kernel)
set_option maxRecDepth 20000 in
theorem mw_370 : Cond.lays "java/lang/IndexOutOfBoundsException" "java/lang/Throwable" "suppressedExceptions" "Ljava/util/List;" ∈ WS := WS_mem 408 (by decide +kernel) (by decide +kernel)
set_option maxRecDepth 20000 in
theorem mw_371 : Cond.lays "java/lang/Throwable" "java/lang/Throwable" "suppressedExceptions" "Ljava/util/List;" ∈ WS := WS_mem 409 (by decide +kernel) (by decide +kernel)
set_option maxRecDepth 20000 in
theorem mw_372 : Cond.lays "java/lang/IndexOutOfBoundsException" "java/lang/Throwable" "detailMessage" "Ljava/lang/String;" ∈ WS := WS_mem 410 (by decide +kernel) (by decide +kernel)
set_option maxRecDepth 20000 in
theorem mw_373 : Cond.lays "java/lang/Throwable" "java/lang/Throwable" "detailMessage" "Ljava/lang/String;" ∈ WS := WS_mem 411 (by decide +kernel) (by decide +kernel)
set_option maxRecDepth 20000 in
theorem mw_374 : Cond.lays "java/lang/IndexOutOfBoundsException" "java/lang/Throwable" "backtrace" "Ljava/lang/Object;" ∈ WS := WS_mem 412 (by decide +kernel) (by decide +kernel)
set_option maxRecDepth 20000 in
theorem mw_375 : Cond.lays "java/lang/Throwable" "java/lang/Throwable" "backtrace" "Ljava/lang/Object;" ∈ WS := WS_mem 413 (by decide +kernel) (by decide +kernel)
set_option maxRecDepth 20000 in
theorem mw_376 : Cond.fieldLink "java/lang/Throwable" 198 "java/lang/Throwable" "backtrace" "Ljava/lang/Object;" ∈ WS := WS_mem 414 (by decide +kernel) (by decide +kernel)
set_option maxRecDepth 20000 in
theorem mw_378 : Cond.instanceMethod (⟨"java/lang/Throwable", "<init>", "()V"⟩ : MethodName) ∈ WS := WS_mem 416 (by decide +kernel) (by decide +kernel)
set_option maxRecDepth 20000 in
theorem mw_379 : Cond.code (⟨"java/lang/Throwable", "<init>", "()V"⟩ : MethodName) prog_18_method_1_code 1 none ∈ WS := WS_mem 417 (by decide +kernel) (by decide +kernel)
set_option maxRecDepth 20000 in
theorem mw_380 : Cond.methodLink "java/lang/Throwable" 1 (⟨"java/lang/Object", "<init>", "()V"⟩ : MethodName) ∈ WS := WS_mem 418 (by decide +kernel) (by decide +kernel)
set_option maxRecDepth 20000 in
theorem mw_381 : Cond.fieldLink "java/lang/Throwable" 13 "java/lang/Throwable" "UNASSIGNED_STACK" "[Ljava/lang/StackTraceElement;" ∈ WS := WS_mem 419 (by decide +kernel) (by decide +kernel)
set_option maxRecDepth 20000 in
theorem mw_383 : Cond.fieldLink "java/lang/Throwable" 20 "java/lang/Throwable" "SUPPRESSED_SENTINEL" "Ljava/util/List;" ∈ WS := WS_mem 421 (by decide +kernel) (by decide +kernel)
set_option maxRecDepth 20000 in
theorem mw_385 : Cond.methodLink "java/lang/Throwable" 27 (⟨"java/lang/Throwable", "fillInStackTrace", "()Ljava/lang/Throwable;"⟩ : MethodName) ∈ WS := WS_mem 423 (by decide +kernel) (by decide +kernel)
set_option maxRecDepth 20000 in
theorem mw_386 : Cond.instanceMethod (⟨"java/lang/Throwable", "fillInStackTrace", "()Ljava/lang/Throwable;"⟩ : MethodName) ∈ WS := WS_mem 424 (by decide +kernel) (by decide +kernel)
set_option maxRecDepth 20000 in
theorem mw_387 : Cond.sameMethod "java/lang/Throwable" "java/lang/Throwable" "fillInStackTrace" "()Ljava/lang/Throwable;" ∈ WS := WS_mem 425 (by decide +kernel) (by decide +kernel)
set_option maxRecDepth 20000 in
theorem mw_388 : Cond.selects "java/lang/IllegalArgumentException" (⟨"java/lang/Throwable", "fillInStackTrace", "()Ljava/lang/Throwable;"⟩ : MethodName) (⟨"java/lang/Throwable", "fillInStackTrace", "()Ljava/lang/Throwable;"⟩ : MethodName) ∈ WS := WS_mem 426 (by decide +kernel) (by decide +kernel)
set_option maxRecDepth 20000 in
theorem mw_389 : Cond.selects "java/lang/IllegalStateException" (⟨"java/lang/Throwable", "fillInStackTrace", "()Ljava/lang/Throwable;"⟩ : MethodName) (⟨"java/lang/Throwable", "fillInStackTrace", "()Ljava/lang/Throwable;"⟩ : MethodName) ∈ WS := WS_mem 427 (by decide +kernel) (by decide +kernel)
set_option maxRecDepth 20000 in
theorem mw_390 : Cond.codeSync (⟨"java/lang/Throwable", "fillInStackTrace", "()Ljava/lang/Throwable;"⟩ : MethodName) prog_18_method_18_code 1 (some (FieldType.object "java/lang/Throwable")) ∈ WS := WS_mem 428 (by decide +kernel) (by decide +kernel)
set_option maxRecDepth 20000 in
theorem mw_391 : Cond.methodLink "java/lang/Throwable" 202 (⟨"java/lang/Throwable", "fillInStackTrace", "(I)Ljava/lang/Throwable;"⟩ : MethodName) ∈ WS := WS_mem 429 (by decide +kernel) (by decide +kernel)
set_option maxRecDepth 20000 in
theorem mw_393 : Cond.instanceMethod (⟨"java/lang/Throwable", "fillInStackTrace", "(I)Ljava/lang/Throwable;"⟩ : MethodName) ∈ WS := WS_mem 431 (by decide +kernel) (by decide +kernel)
set_option maxRecDepth 20000 in
theorem mw_394 : Cond.instantiable "java/lang/Throwable" 6 ∈ WS := WS_mem 432 (by decide +kernel) (by decide +kernel)
set_option maxRecDepth 20000 in
theorem mw_395 : Cond.native (⟨"java/lang/Throwable", "fillInStackTrace", "(I)Ljava/lang/Throwable;"⟩ : MethodName) ∈ WS := WS_mem 433 (by decide +kernel) (by decide +kernel)
set_option maxRecDepth 20000 in
theorem mw_397 : Cond.methodLink "ReplayMachine" 40 (⟨"java/lang/IndexOutOfBoundsException", "<init>", "(Ljava/lang/String;)V"⟩ : MethodName) ∈ WS := WS_mem 435 (by decide +kernel) (by decide +kernel)
set_option maxRecDepth 20000 in
theorem mw_398 : Cond.instanceMethod (⟨"java/lang/IndexOutOfBoundsException", "<init>", "(Ljava/lang/String;)V"⟩ : MethodName) ∈ WS := WS_mem 436 (by decide +kernel) (by decide +kernel)
set_option maxRecDepth 20000 in
theorem mw_399 : Cond.code (⟨"java/lang/IndexOutOfBoundsException", "<init>", "(Ljava/lang/String;)V"⟩ : MethodName) prog_13_method_2_code 2 none ∈ WS := WS_mem 437 (by decide +kernel) (by decide +kernel)
set_option maxRecDepth 20000 in
theorem mw_400 : Cond.methodLink "java/lang/IndexOutOfBoundsException" 7 (⟨"java/lang/RuntimeException", "<init>", "(Ljava/lang/String;)V"⟩ : MethodName) ∈ WS := WS_mem 438 (by decide +kernel) (by decide +kernel)
set_option maxRecDepth 20000 in
theorem mw_401 : Cond.instanceMethod (⟨"java/lang/RuntimeException", "<init>", "(Ljava/lang/String;)V"⟩ : MethodName) ∈ WS := WS_mem 439 (by decide +kernel) (by decide +kernel)
set_option maxRecDepth 20000 in
theorem mw_402 : Cond.code (⟨"java/lang/RuntimeException", "<init>", "(Ljava/lang/String;)V"⟩ : MethodName) prog_15_method_2_code 2 none ∈ WS := WS_mem 440 (by decide +kernel) (by decide +kernel)
set_option maxRecDepth 20000 in
theorem mw_403 : Cond.methodLink "java/lang/RuntimeException" 7 (⟨"java/lang/Exception", "<init>", "(Ljava/lang/String;)V"⟩ : MethodName) ∈ WS := WS_mem 441 (by decide +kernel) (by decide +kernel)
set_option maxRecDepth 20000 in
theorem mw_404 : Cond.instanceMethod (⟨"java/lang/Exception", "<init>", "(Ljava/lang/String;)V"⟩ : MethodName) ∈ WS := WS_mem 442 (by decide +kernel) (by decide +kernel)
set_option maxRecDepth 20000 in
theorem mw_405 : Cond.code (⟨"java/lang/Exception", "<init>", "(Ljava/lang/String;)V"⟩ : MethodName) prog_10_method_2_code 2 none ∈ WS := WS_mem 443 (by decide +kernel) (by decide +kernel)
set_option maxRecDepth 20000 in
theorem mw_406 : Cond.methodLink "java/lang/Exception" 7 (⟨"java/lang/Throwable", "<init>", "(Ljava/lang/String;)V"⟩ : MethodName) ∈ WS := WS_mem 444 (by decide +kernel) (by decide +kernel)
set_option maxRecDepth 20000 in
theorem mw_407 : Cond.instanceMethod (⟨"java/lang/Throwable", "<init>", "(Ljava/lang/String;)V"⟩ : MethodName) ∈ WS := WS_mem 445 (by decide +kernel) (by decide +kernel)
set_option maxRecDepth 20000 in
theorem mw_408 : Cond.code (⟨"java/lang/Throwable", "<init>", "(Ljava/lang/String;)V"⟩ : MethodName) prog_18_method_2_code 2 none ∈ WS := WS_mem 446 (by decide +kernel) (by decide +kernel)
set_option maxRecDepth 20000 in
theorem mw_410 : Cond.fieldLink "java/lang/Throwable" 31 "java/lang/Throwable" "detailMessage" "Ljava/lang/String;" ∈ WS := WS_mem 448 (by decide +kernel) (by decide +kernel)
set_option maxRecDepth 20000 in
theorem mw_411 : Cond.fieldLink "java/lang/Throwable" 7 "java/lang/Throwable" "cause" "Ljava/lang/Throwable;" ∈ WS := WS_mem 449 (by decide +kernel) (by decide +kernel)
set_option maxRecDepth 20000 in
theorem mw_412 : Cond.fieldLink "java/lang/Throwable" 17 "java/lang/Throwable" "stackTrace" "[Ljava/lang/StackTraceElement;" ∈ WS := WS_mem 450 (by decide +kernel) (by decide +kernel)
set_option maxRecDepth 20000 in
theorem mw_413 : Cond.fieldLink "java/lang/Throwable" 24 "java/lang/Throwable" "suppressedExceptions" "Ljava/util/List;" ∈ WS := WS_mem 451 (by decide +kernel) (by decide +kernel)
set_option maxRecDepth 20000 in
theorem mw_418 : Cond.lays "java/lang/IndexOutOfBoundsException" "java/lang/Throwable" "depth" "I" ∈ WS := WS_mem 456 (by decide +kernel) (by decide +kernel)
set_option maxRecDepth 20000 in
theorem mw_422 : Cond.arrayClass FieldType.byte ∈ WS := WS_mem 460 (by decide +kernel) (by decide +kernel)
set_option maxRecDepth 20000 in
theorem mw_423 : Cond.classLink "ReplayMachine" 47 "java/lang/IllegalStateException" ∈ WS := WS_mem 461 (by decide +kernel) (by decide +kernel)
set_option maxRecDepth 20000 in
theorem mw_424 : Cond.instantiable "java/lang/IllegalStateException" 6 ∈ WS := WS_mem 462 (by decide +kernel) (by decide +kernel)
set_option maxRecDepth 20000 in
theorem mw_426 : Cond.selects "java/lang/IllegalStateException" (⟨"java/lang/Throwable", "fillInStackTrace", "(I)Ljava/lang/Throwable;"⟩ : MethodName) (⟨"java/lang/Throwable", "fillInStackTrace", "(I)Ljava/lang/Throwable;"⟩ : MethodName) ∈ WS := WS_mem 464 (by decide +kernel) (by decide +kernel)
set_option maxRecDepth 20000 in
theorem mw_427 : Cond.lays "java/lang/IllegalStateException" "java/lang/Throwable" "cause" "Ljava/lang/Throwable;" ∈ WS := WS_mem 465 (by decide +kernel) (by decide +kernel)
set_option maxRecDepth 20000 in
theorem mw_428 : Cond.lays "java/lang/IllegalStateException" "java/lang/Throwable" "stackTrace" "[Ljava/lang/StackTraceElement;" ∈ WS := WS_mem 466 (by decide +kernel) (by decide +kernel)
set_option maxRecDepth 20000 in
theorem mw_429 : Cond.lays "java/lang/IllegalStateException" "java/lang/Throwable" "suppressedExceptions" "Ljava/util/List;" ∈ WS := WS_mem 467 (by decide +kernel) (by decide +kernel)
set_option maxRecDepth 20000 in
theorem mw_430 : Cond.lays "java/lang/IllegalStateException" "java/lang/Throwable" "detailMessage" "Ljava/lang/String;" ∈ WS := WS_mem 468 (by decide +kernel) (by decide +kernel)
set_option maxRecDepth 20000 in
theorem mw_431 : Cond.lays "java/lang/IllegalStateException" "java/lang/Throwable" "backtrace" "Ljava/lang/Object;" ∈ WS := WS_mem 469 (by decide +kernel) (by decide +kernel)
set_option maxRecDepth 20000 in
theorem mw_433 : Cond.methodLink "ReplayMachine" 51 (⟨"java/lang/IllegalStateException", "<init>", "(Ljava/lang/String;)V"⟩ : MethodName) ∈ WS := WS_mem 471 (by decide +kernel) (by decide +kernel)
set_option maxRecDepth 20000 in
theorem mw_434 : Cond.instanceMethod (⟨"java/lang/IllegalStateException", "<init>", "(Ljava/lang/String;)V"⟩ : MethodName) ∈ WS := WS_mem 472 (by decide +kernel) (by decide +kernel)
set_option maxRecDepth 20000 in
theorem mw_435 : Cond.code (⟨"java/lang/IllegalStateException", "<init>", "(Ljava/lang/String;)V"⟩ : MethodName) prog_12_method_2_code 2 none ∈ WS := WS_mem 473 (by decide +kernel) (by decide +kernel)
set_option maxRecDepth 20000 in
theorem mw_436 : Cond.methodLink "java/lang/IllegalStateException" 7 (⟨"java/lang/RuntimeException", "<init>", "(Ljava/lang/String;)V"⟩ : MethodName) ∈ WS := WS_mem 474 (by decide +kernel) (by decide +kernel)
set_option maxRecDepth 20000 in
theorem mw_437 : Cond.lays "java/lang/IllegalStateException" "java/lang/Throwable" "depth" "I" ∈ WS := WS_mem 475 (by decide +kernel) (by decide +kernel)
set_option maxRecDepth 20000 in
theorem mw_439 : Cond.methodLink "ReplayMachineLaw" 79 y_La_forth ∈ WS := WS_mem 477 (by decide +kernel) (by decide +kernel)
set_option maxRecDepth 20000 in
theorem mw_440 : Cond.static y_La_forth ∈ WS := WS_mem 478 (by decide +kernel) (by decide +kernel)
set_option maxRecDepth 20000 in
theorem mw_441 : Cond.codeWith y_La_forth method_4_code 4 (some FieldType.int) [(0, 9, 12, 21)] ∈ WS := WS_mem 479 (by decide +kernel) (by decide +kernel)
set_option maxRecDepth 20000 in
theorem mw_442 : Cond.classLink "ReplayMachineLaw" 21 "java/lang/IllegalArgumentException" ∈ WS := WS_mem 480 (by decide +kernel) (by decide +kernel)
set_option maxRecDepth 20000 in
theorem mw_443 : Cond.methodLink "ReplayMachineLaw" 17 y_RM_forth ∈ WS := WS_mem 481 (by decide +kernel) (by decide +kernel)
set_option maxRecDepth 20000 in
theorem mw_444 : Cond.instanceMethod y_RM_forth ∈ WS := WS_mem 482 (by decide +kernel) (by decide +kernel)
set_option maxRecDepth 20000 in
theorem mw_445 : Cond.selects "ReplayMachine" y_RM_forth y_RM_forth ∈ WS := WS_mem 483 (by decide +kernel) (by decide +kernel)
set_option maxRecDepth 20000 in
theorem mw_446 : Cond.code y_RM_forth prog_1_method_5_code 4 (some FieldType.int) ∈ WS := WS_mem 484 (by decide +kernel) (by decide +kernel)
set_option maxRecDepth 20000 in
theorem mw_447 : Cond.methodLink "ReplayMachine" 67 y_RM_isFuel ∈ WS := WS_mem 485 (by decide +kernel) (by decide +kernel)
set_option maxRecDepth 20000 in
theorem mw_448 : Cond.static y_RM_isFuel ∈ WS := WS_mem 486 (by decide +kernel) (by decide +kernel)
set_option maxRecDepth 20000 in
theorem mw_449 : Cond.code y_RM_isFuel prog_1_method_17_code 1 (some FieldType.boolean) ∈ WS := WS_mem 487 (by decide +kernel) (by decide +kernel)
set_option maxRecDepth 20000 in
theorem mw_450 : Cond.classLink "ReplayMachine" 71 "java/lang/IllegalArgumentException" ∈ WS := WS_mem 488 (by decide +kernel) (by decide +kernel)
set_option maxRecDepth 20000 in
theorem mw_451 : Cond.instantiable "java/lang/IllegalArgumentException" 6 ∈ WS := WS_mem 489 (by decide +kernel) (by decide +kernel)
set_option maxRecDepth 20000 in
theorem mw_453 : Cond.selects "java/lang/IllegalArgumentException" (⟨"java/lang/Throwable", "fillInStackTrace", "(I)Ljava/lang/Throwable;"⟩ : MethodName) (⟨"java/lang/Throwable", "fillInStackTrace", "(I)Ljava/lang/Throwable;"⟩ : MethodName) ∈ WS := WS_mem 491 (by decide +kernel) (by decide +kernel)
set_option maxRecDepth 20000 in
theorem mw_454 : Cond.lays "java/lang/IllegalArgumentException" "java/lang/Throwable" "cause" "Ljava/lang/Throwable;" ∈ WS := WS_mem 492 (by decide +kernel) (by decide +kernel)
set_option maxRecDepth 20000 in
theorem mw_455 : Cond.lays "java/lang/IllegalArgumentException" "java/lang/Throwable" "stackTrace" "[Ljava/lang/StackTraceElement;" ∈ WS := WS_mem 493 (by decide +kernel) (by decide +kernel)
set_option maxRecDepth 20000 in
theorem mw_456 : Cond.lays "java/lang/IllegalArgumentException" "java/lang/Throwable" "suppressedExceptions" "Ljava/util/List;" ∈ WS := WS_mem 494 (by decide +kernel) (by decide +kernel)
set_option maxRecDepth 20000 in
theorem mw_457 : Cond.lays "java/lang/IllegalArgumentException" "java/lang/Throwable" "detailMessage" "Ljava/lang/String;" ∈ WS := WS_mem 495 (by decide +kernel) (by decide +kernel)
set_option maxRecDepth 20000 in
theorem mw_458 : Cond.lays "java/lang/IllegalArgumentException" "java/lang/Throwable" "backtrace" "Ljava/lang/Object;" ∈ WS := WS_mem 496 (by decide +kernel) (by decide +kernel)
set_option maxRecDepth 20000 in
theorem mw_460 : Cond.methodLink "ReplayMachine" 75 (⟨"java/lang/IllegalArgumentException", "<init>", "(Ljava/lang/String;)V"⟩ : MethodName) ∈ WS := WS_mem 498 (by decide +kernel) (by decide +kernel)
set_option maxRecDepth 20000 in
theorem mw_461 : Cond.instanceMethod (⟨"java/lang/IllegalArgumentException", "<init>", "(Ljava/lang/String;)V"⟩ : MethodName) ∈ WS := WS_mem 499 (by decide +kernel) (by decide +kernel)
set_option maxRecDepth 20000 in
theorem mw_462 : Cond.code (⟨"java/lang/IllegalArgumentException", "<init>", "(Ljava/lang/String;)V"⟩ : MethodName) prog_11_method_2_code 2 none ∈ WS := WS_mem 500 (by decide +kernel) (by decide +kernel)
set_option maxRecDepth 20000 in
theorem mw_463 : Cond.methodLink "java/lang/IllegalArgumentException" 7 (⟨"java/lang/RuntimeException", "<init>", "(Ljava/lang/String;)V"⟩ : MethodName) ∈ WS := WS_mem 501 (by decide +kernel) (by decide +kernel)
set_option maxRecDepth 20000 in
theorem mw_464 : Cond.lays "java/lang/IllegalArgumentException" "java/lang/Throwable" "depth" "I" ∈ WS := WS_mem 502 (by decide +kernel) (by decide +kernel)
set_option maxRecDepth 20000 in
theorem mw_466 : Cond.methodLink "ReplayMachine" 76 y_RM_stopHere ∈ WS := WS_mem 504 (by decide +kernel) (by decide +kernel)
set_option maxRecDepth 20000 in
theorem mw_468 : Cond.instanceMethod y_RM_stopHere ∈ WS := WS_mem 506 (by decide +kernel) (by decide +kernel)
set_option maxRecDepth 20000 in
theorem mw_469 : Cond.code y_RM_stopHere prog_1_method_20_code 2 (some FieldType.int) ∈ WS := WS_mem 507 (by decide +kernel) (by decide +kernel)
set_option maxRecDepth 20000 in
theorem mw_470 : Cond.methodLink "ReplayMachineLaw" 83 y_La_back ∈ WS := WS_mem 508 (by decide +kernel) (by decide +kernel)
set_option maxRecDepth 20000 in
theorem mw_471 : Cond.static y_La_back ∈ WS := WS_mem 509 (by decide +kernel) (by decide +kernel)
set_option maxRecDepth 20000 in
theorem mw_472 : Cond.codeWith y_La_back method_5_code 4 (some FieldType.int) [(0, 9, 12, 21)] ∈ WS := WS_mem 510 (by decide +kernel) (by decide +kernel)
set_option maxRecDepth 20000 in
theorem mw_473 : Cond.methodLink "ReplayMachineLaw" 23 y_RM_back ∈ WS := WS_mem 511 (by decide +kernel) (by decide +kernel)
set_option maxRecDepth 20000 in
theorem mw_474 : Cond.instanceMethod y_RM_back ∈ WS := WS_mem 512 (by decide +kernel) (by decide +kernel)
set_option maxRecDepth 20000 in
theorem mw_475 : Cond.selects "ReplayMachine" y_RM_back y_RM_back ∈ WS := WS_mem 513 (by decide +kernel) (by decide +kernel)
set_option maxRecDepth 20000 in
theorem mw_476 : Cond.code y_RM_back prog_1_method_6_code 4 (some FieldType.int) ∈ WS := WS_mem 514 (by decide +kernel) (by decide +kernel)
set_option maxRecDepth 20000 in
theorem mw_477 : Cond.methodLink "ReplayMachine" 88 y_RM_travel ∈ WS := WS_mem 515 (by decide +kernel) (by decide +kernel)
set_option maxRecDepth 20000 in
theorem mw_479 : Cond.instanceMethod y_RM_travel ∈ WS := WS_mem 517 (by decide +kernel) (by decide +kernel)
set_option maxRecDepth 20000 in
theorem mw_480 : Cond.code y_RM_travel prog_1_method_21_code 6 none ∈ WS := WS_mem 518 (by decide +kernel) (by decide +kernel)
set_option maxRecDepth 20000 in
theorem mw_481 : Cond.methodLink "ReplayMachine" 156 y_Un_takeBack ∈ WS := WS_mem 519 (by decide +kernel) (by decide +kernel)
set_option maxRecDepth 20000 in
theorem mw_482 : Cond.instanceMethod y_Un_takeBack ∈ WS := WS_mem 520 (by decide +kernel) (by decide +kernel)
set_option maxRecDepth 20000 in
theorem mw_483 : Cond.selects "ReplayMachine$Undo" y_Un_takeBack y_Un_takeBack ∈ WS := WS_mem 521 (by decide +kernel) (by decide +kernel)
set_option maxRecDepth 20000 in
theorem mw_484 : Cond.code y_Un_takeBack prog_7_method_3_code 4 none ∈ WS := WS_mem 522 (by decide +kernel) (by decide +kernel)
set_option maxRecDepth 20000 in
theorem mw_485 : Cond.methodLink "ReplayMachine$Undo" 35 y_Nt_restore ∈ WS := WS_mem 523 (by decide +kernel) (by decide +kernel)
set_option maxRecDepth 20000 in
theorem mw_486 : Cond.instanceMethod y_Nt_restore ∈ WS := WS_mem 524 (by decide +kernel) (by decide +kernel)
set_option maxRecDepth 20000 in
theorem mw_487 : Cond.selects "ReplayMachine$Note" y_Nt_restore y_Nt_restore ∈ WS := WS_mem 525 (by decide +kernel) (by decide +kernel)
set_option maxRecDepth 20000 in
theorem mw_488 : Cond.code y_Nt_restore prog_4_method_4_code 3 none ∈ WS := WS_mem 526 (by decide +kernel) (by decide +kernel)
set_option maxRecDepth 20000 in
theorem mw_489 : Cond.methodLink "ReplayMachine$Note" 29 (⟨"ReplayMachine$State", "copyRegisters", "(LReplayMachine$Registers;)V"⟩ : MethodName) ∈ WS := WS_mem 527 (by decide +kernel) (by decide +kernel)
set_option maxRecDepth 20000 in
theorem mw_490 : Cond.methodLink "ReplayMachine" 160 y_Cp_latestUpTo ∈ WS := WS_mem 528 (by decide +kernel) (by decide +kernel)
set_option maxRecDepth 20000 in
theorem mw_491 : Cond.instanceMethod y_Cp_latestUpTo ∈ WS := WS_mem 529 (by decide +kernel) (by decide +kernel)
set_option maxRecDepth 20000 in
theorem mw_492 : Cond.selects "ReplayMachine$Checkpoints" y_Cp_latestUpTo y_Cp_latestUpTo ∈ WS := WS_mem 530 (by decide +kernel) (by decide +kernel)
set_option maxRecDepth 20000 in
theorem mw_493 : Cond.code y_Cp_latestUpTo prog_2_method_5_code 4 (some (FieldType.object "ReplayMachine$State")) ∈ WS := WS_mem 531 (by decide +kernel) (by decide +kernel)
set_option maxRecDepth 20000 in
theorem mw_494 : Cond.methodLink "ReplayMachine" 164 y_St_copyState ∈ WS := WS_mem 532 (by decide +kernel) (by decide +kernel)
set_option maxRecDepth 20000 in
theorem mw_495 : Cond.methodLink "ReplayMachineLaw" 86 y_La_go ∈ WS := WS_mem 533 (by decide +kernel) (by decide +kernel)
set_option maxRecDepth 20000 in
theorem mw_496 : Cond.static y_La_go ∈ WS := WS_mem 534 (by decide +kernel) (by decide +kernel)
set_option maxRecDepth 20000 in
theorem mw_497 : Cond.codeWith y_La_go method_6_code 3 (some FieldType.int) [(0, 5, 8, 21)] ∈ WS := WS_mem 535 (by decide +kernel) (by decide +kernel)
set_option maxRecDepth 20000 in
theorem mw_498 : Cond.methodLink "ReplayMachineLaw" 26 y_RM_go ∈ WS := WS_mem 536 (by decide +kernel) (by decide +kernel)
set_option maxRecDepth 20000 in
theorem mw_499 : Cond.instanceMethod y_RM_go ∈ WS := WS_mem 537 (by decide +kernel) (by decide +kernel)
set_option maxRecDepth 20000 in
theorem mw_500 : Cond.selects "ReplayMachine" y_RM_go y_RM_go ∈ WS := WS_mem 538 (by decide +kernel) (by decide +kernel)
set_option maxRecDepth 20000 in
theorem mw_501 : Cond.code y_RM_go prog_1_method_7_code 2 none ∈ WS := WS_mem 539 (by decide +kernel) (by decide +kernel)
set_option maxRecDepth 20000 in
theorem mw_503 : Cond.methodLink "ReplayMachineLaw" 90 y_La_setBreak ∈ WS := WS_mem 541 (by decide +kernel) (by decide +kernel)
set_option maxRecDepth 20000 in
theorem mw_504 : Cond.static y_La_setBreak ∈ WS := WS_mem 542 (by decide +kernel) (by decide +kernel)
set_option maxRecDepth 20000 in
theorem mw_505 : Cond.codeWith y_La_setBreak method_7_code 4 (some FieldType.int) [(0, 16, 19, 13)] ∈ WS := WS_mem 543 (by decide +kernel) (by decide +kernel)
set_option maxRecDepth 20000 in
theorem mw_506 : Cond.methodLink "ReplayMachineLaw" 30 y_RM_setBreak ∈ WS := WS_mem 544 (by decide +kernel) (by decide +kernel)
set_option maxRecDepth 20000 in
theorem mw_507 : Cond.instanceMethod y_RM_setBreak ∈ WS := WS_mem 545 (by decide +kernel) (by decide +kernel)
set_option maxRecDepth 20000 in
theorem mw_508 : Cond.selects "ReplayMachine" y_RM_setBreak y_RM_setBreak ∈ WS := WS_mem 546 (by decide +kernel) (by decide +kernel)
set_option maxRecDepth 20000 in
theorem mw_509 : Cond.code y_RM_setBreak prog_1_method_8_code 2 (some FieldType.boolean) ∈ WS := WS_mem 547 (by decide +kernel) (by decide +kernel)
set_option maxRecDepth 20000 in
theorem mw_510 : Cond.methodLink "ReplayMachine" 93 y_RM_mark ∈ WS := WS_mem 548 (by decide +kernel) (by decide +kernel)
set_option maxRecDepth 20000 in
theorem mw_511 : Cond.static y_RM_mark ∈ WS := WS_mem 549 (by decide +kernel) (by decide +kernel)
set_option maxRecDepth 20000 in
theorem mw_512 : Cond.code y_RM_mark prog_1_method_18_code 4 (some FieldType.boolean) ∈ WS := WS_mem 550 (by decide +kernel) (by decide +kernel)
set_option maxRecDepth 20000 in
theorem mw_513 : Cond.methodLink "ReplayMachineLaw" 93 y_La_clearBreak ∈ WS := WS_mem 551 (by decide +kernel) (by decide +kernel)
set_option maxRecDepth 20000 in
theorem mw_514 : Cond.static y_La_clearBreak ∈ WS := WS_mem 552 (by decide +kernel) (by decide +kernel)
set_option maxRecDepth 20000 in
theorem mw_515 : Cond.codeWith y_La_clearBreak method_8_code 4 (some FieldType.int) [(0, 16, 19, 13)] ∈ WS := WS_mem 553 (by decide +kernel) (by decide +kernel)
set_option maxRecDepth 20000 in
theorem mw_516 : Cond.methodLink "ReplayMachineLaw" 34 y_RM_clearBreak ∈ WS := WS_mem 554 (by decide +kernel) (by decide +kernel)
set_option maxRecDepth 20000 in
theorem mw_517 : Cond.instanceMethod y_RM_clearBreak ∈ WS := WS_mem 555 (by decide +kernel) (by decide +kernel)
set_option maxRecDepth 20000 in
theorem mw_518 : Cond.selects "ReplayMachine" y_RM_clearBreak y_RM_clearBreak ∈ WS := WS_mem 556 (by decide +kernel) (by decide +kernel)
set_option maxRecDepth 20000 in
theorem mw_519 : Cond.code y_RM_clearBreak prog_1_method_9_code 2 (some FieldType.boolean) ∈ WS := WS_mem 557 (by decide +kernel) (by decide +kernel)
set_option maxRecDepth 20000 in
theorem mw_520 : Cond.methodLink "ReplayMachineLaw" 96 y_La_setWatch ∈ WS := WS_mem 558 (by decide +kernel) (by decide +kernel)
set_option maxRecDepth 20000 in
theorem mw_521 : Cond.static y_La_setWatch ∈ WS := WS_mem 559 (by decide +kernel) (by decide +kernel)
set_option maxRecDepth 20000 in
theorem mw_522 : Cond.codeWith y_La_setWatch method_9_code 4 (some FieldType.int) [(0, 16, 19, 13)] ∈ WS := WS_mem 560 (by decide +kernel) (by decide +kernel)
set_option maxRecDepth 20000 in
theorem mw_523 : Cond.methodLink "ReplayMachineLaw" 37 y_RM_setWatch ∈ WS := WS_mem 561 (by decide +kernel) (by decide +kernel)
set_option maxRecDepth 20000 in
theorem mw_524 : Cond.instanceMethod y_RM_setWatch ∈ WS := WS_mem 562 (by decide +kernel) (by decide +kernel)
set_option maxRecDepth 20000 in
theorem mw_525 : Cond.selects "ReplayMachine" y_RM_setWatch y_RM_setWatch ∈ WS := WS_mem 563 (by decide +kernel) (by decide +kernel)
set_option maxRecDepth 20000 in
theorem mw_526 : Cond.code y_RM_setWatch prog_1_method_10_code 2 (some FieldType.boolean) ∈ WS := WS_mem 564 (by decide +kernel) (by decide +kernel)
set_option maxRecDepth 20000 in
theorem mw_528 : Cond.methodLink "ReplayMachineLaw" 99 y_La_clearWatch ∈ WS := WS_mem 566 (by decide +kernel) (by decide +kernel)
set_option maxRecDepth 20000 in
theorem mw_529 : Cond.static y_La_clearWatch ∈ WS := WS_mem 567 (by decide +kernel) (by decide +kernel)
set_option maxRecDepth 20000 in
theorem mw_530 : Cond.codeWith y_La_clearWatch method_10_code 4 (some FieldType.int) [(0, 16, 19, 13)] ∈ WS := WS_mem 568 (by decide +kernel) (by decide +kernel)
set_option maxRecDepth 20000 in
theorem mw_531 : Cond.methodLink "ReplayMachineLaw" 40 y_RM_clearWatch ∈ WS := WS_mem 569 (by decide +kernel) (by decide +kernel)
set_option maxRecDepth 20000 in
theorem mw_532 : Cond.instanceMethod y_RM_clearWatch ∈ WS := WS_mem 570 (by decide +kernel) (by decide +kernel)
set_option maxRecDepth 20000 in
theorem mw_533 : Cond.selects "ReplayMachine" y_RM_clearWatch y_RM_clearWatch ∈ WS := WS_mem 571 (by decide +kernel) (by decide +kernel)
set_option maxRecDepth 20000 in
theorem mw_534 : Cond.code y_RM_clearWatch prog_1_method_11_code 2 (some FieldType.boolean) ∈ WS := WS_mem 572 (by decide +kernel) (by decide +kernel)
set_option maxRecDepth 20000 in
theorem mw_535 : Cond.methodLink "ReplayMachineLaw" 102 y_La_state ∈ WS := WS_mem 573 (by decide +kernel) (by decide +kernel)
set_option maxRecDepth 20000 in
theorem mw_536 : Cond.static y_La_state ∈ WS := WS_mem 574 (by decide +kernel) (by decide +kernel)
set_option maxRecDepth 20000 in
theorem mw_537 : Cond.codeWith y_La_state method_11_code 4 (some FieldType.int) [(0, 9, 12, 13)] ∈ WS := WS_mem 575 (by decide +kernel) (by decide +kernel)
set_option maxRecDepth 20000 in
theorem mw_538 : Cond.methodLink "ReplayMachineLaw" 43 y_RM_state ∈ WS := WS_mem 576 (by decide +kernel) (by decide +kernel)
set_option maxRecDepth 20000 in
theorem mw_539 : Cond.instanceMethod y_RM_state ∈ WS := WS_mem 577 (by decide +kernel) (by decide +kernel)
set_option maxRecDepth 20000 in
theorem mw_540 : Cond.selects "ReplayMachine" y_RM_state y_RM_state ∈ WS := WS_mem 578 (by decide +kernel) (by decide +kernel)
set_option maxRecDepth 20000 in
theorem mw_541 : Cond.code y_RM_state prog_1_method_12_code 3 (some FieldType.int) ∈ WS := WS_mem 579 (by decide +kernel) (by decide +kernel)
set_option maxRecDepth 20000 in
theorem mw_543 : Cond.methodLink "ReplayMachineLaw" 108 y_La_stack ∈ WS := WS_mem 581 (by decide +kernel) (by decide +kernel)
set_option maxRecDepth 20000 in
theorem mw_544 : Cond.static y_La_stack ∈ WS := WS_mem 582 (by decide +kernel) (by decide +kernel)
set_option maxRecDepth 20000 in
theorem mw_545 : Cond.codeWith y_La_stack method_12_code 4 (some FieldType.int) [(0, 9, 12, 13)] ∈ WS := WS_mem 583 (by decide +kernel) (by decide +kernel)
set_option maxRecDepth 20000 in
theorem mw_546 : Cond.methodLink "ReplayMachineLaw" 46 y_RM_stack ∈ WS := WS_mem 584 (by decide +kernel) (by decide +kernel)
set_option maxRecDepth 20000 in
theorem mw_547 : Cond.instanceMethod y_RM_stack ∈ WS := WS_mem 585 (by decide +kernel) (by decide +kernel)
set_option maxRecDepth 20000 in
theorem mw_548 : Cond.selects "ReplayMachine" y_RM_stack y_RM_stack ∈ WS := WS_mem 586 (by decide +kernel) (by decide +kernel)
set_option maxRecDepth 20000 in
theorem mw_549 : Cond.code y_RM_stack prog_1_method_14_code 2 (some FieldType.int) ∈ WS := WS_mem 587 (by decide +kernel) (by decide +kernel)
set_option maxRecDepth 20000 in
theorem mw_551 : Cond.methodLink "ReplayMachine" 134 y_St_number ∈ WS := WS_mem 589 (by decide +kernel) (by decide +kernel)
set_option maxRecDepth 20000 in
theorem mw_552 : Cond.methodLink "ReplayMachineLaw" 111 y_La_checkpoint ∈ WS := WS_mem 590 (by decide +kernel) (by decide +kernel)
set_option maxRecDepth 20000 in
theorem mw_553 : Cond.static y_La_checkpoint ∈ WS := WS_mem 591 (by decide +kernel) (by decide +kernel)
set_option maxRecDepth 20000 in
theorem mw_554 : Cond.codeWith y_La_checkpoint method_13_code 4 (some FieldType.int) [(0, 9, 12, 13)] ∈ WS := WS_mem 592 (by decide +kernel) (by decide +kernel)
set_option maxRecDepth 20000 in
theorem mw_555 : Cond.methodLink "ReplayMachineLaw" 49 y_RM_checkpoint ∈ WS := WS_mem 593 (by decide +kernel) (by decide +kernel)
set_option maxRecDepth 20000 in
theorem mw_556 : Cond.instanceMethod y_RM_checkpoint ∈ WS := WS_mem 594 (by decide +kernel) (by decide +kernel)
set_option maxRecDepth 20000 in
theorem mw_557 : Cond.selects "ReplayMachine" y_RM_checkpoint y_RM_checkpoint ∈ WS := WS_mem 595 (by decide +kernel) (by decide +kernel)
set_option maxRecDepth 20000 in
theorem mw_558 : Cond.code y_RM_checkpoint prog_1_method_15_code 2 (some FieldType.int) ∈ WS := WS_mem 596 (by decide +kernel) (by decide +kernel)
set_option maxRecDepth 20000 in
theorem mw_560 : Cond.classLink "ReplayMachineLaw" 60 "ReplayMachineModel" ∈ WS := WS_mem 598 (by decide +kernel) (by decide +kernel)
set_option maxRecDepth 20000 in
theorem mw_561 : Cond.instantiable "ReplayMachineModel" 23 ∈ WS := WS_mem 599 (by decide +kernel) (by decide +kernel)
set_option maxRecDepth 20000 in
theorem mw_562 : Cond.methodLink "ReplayMachineLaw" 62 y_Mo_init ∈ WS := WS_mem 600 (by decide +kernel) (by decide +kernel)
set_option maxRecDepth 20000 in
theorem mw_563 : Cond.instanceMethod y_Mo_init ∈ WS := WS_mem 601 (by decide +kernel) (by decide +kernel)
set_option maxRecDepth 20000 in
theorem mw_564 : Cond.code y_Mo_init prog_9_method_1_code 2 none ∈ WS := WS_mem 602 (by decide +kernel) (by decide +kernel)
set_option maxRecDepth 20000 in
theorem mw_565 : Cond.methodLink "ReplayMachineModel" 1 (⟨"java/lang/Object", "<init>", "()V"⟩ : MethodName) ∈ WS := WS_mem 603 (by decide +kernel) (by decide +kernel)
set_option maxRecDepth 20000 in
theorem mw_566 : Cond.methodLink "ReplayMachineModel" 48 y_Mo_mark ∈ WS := WS_mem 604 (by decide +kernel) (by decide +kernel)
set_option maxRecDepth 20000 in
theorem mw_568 : Cond.instanceMethod y_Mo_mark ∈ WS := WS_mem 606 (by decide +kernel) (by decide +kernel)
set_option maxRecDepth 20000 in
theorem mw_569 : Cond.code y_Mo_mark prog_9_method_6_code 3 none ∈ WS := WS_mem 607 (by decide +kernel) (by decide +kernel)
set_option maxRecDepth 20000 in
theorem mw_570 : Cond.fieldLink "ReplayMachineModel" 54 "ReplayMachineModel" "code" "I" ∈ WS := WS_mem 608 (by decide +kernel) (by decide +kernel)
set_option maxRecDepth 20000 in
theorem mw_571 : Cond.fieldLink "ReplayMachineModel" 7 "ReplayMachineModel" "program" "[I" ∈ WS := WS_mem 609 (by decide +kernel) (by decide +kernel)
set_option maxRecDepth 20000 in
theorem mw_572 : Cond.fieldLink "ReplayMachineModel" 13 "ReplayMachineModel" "inputs" "[I" ∈ WS := WS_mem 610 (by decide +kernel) (by decide +kernel)
set_option maxRecDepth 20000 in
theorem mw_573 : Cond.fieldLink "ReplayMachineModel" 60 "ReplayMachineModel" "given" "I" ∈ WS := WS_mem 611 (by decide +kernel) (by decide +kernel)
set_option maxRecDepth 20000 in
theorem mw_574 : Cond.fieldLink "ReplayMachineModel" 16 "ReplayMachineModel" "breaks" "[Z" ∈ WS := WS_mem 612 (by decide +kernel) (by decide +kernel)
set_option maxRecDepth 20000 in
theorem mw_575 : Cond.fieldLink "ReplayMachineModel" 20 "ReplayMachineModel" "watches" "[Z" ∈ WS := WS_mem 613 (by decide +kernel) (by decide +kernel)
set_option maxRecDepth 20000 in
theorem mw_576 : Cond.fieldLink "ReplayMachineModel" 63 "ReplayMachineModel" "time" "I" ∈ WS := WS_mem 614 (by decide +kernel) (by decide +kernel)
set_option maxRecDepth 20000 in
theorem mw_577 : Cond.fieldLink "ReplayMachineModel" 66 "ReplayMachineModel" "pc" "I" ∈ WS := WS_mem 615 (by decide +kernel) (by decide +kernel)
set_option maxRecDepth 20000 in
theorem mw_578 : Cond.fieldLink "ReplayMachineModel" 69 "ReplayMachineModel" "frame" "I" ∈ WS := WS_mem 616 (by decide +kernel) (by decide +kernel)
set_option maxRecDepth 20000 in
theorem mw_579 : Cond.fieldLink "ReplayMachineModel" 45 "ReplayMachineModel" "x" "I" ∈ WS := WS_mem 617 (by decide +kernel) (by decide +kernel)
set_option maxRecDepth 20000 in
theorem mw_580 : Cond.fieldLink "ReplayMachineModel" 72 "ReplayMachineModel" "taken" "I" ∈ WS := WS_mem 618 (by decide +kernel) (by decide +kernel)
set_option maxRecDepth 20000 in
theorem mw_581 : Cond.fieldLink "ReplayMachineModel" 75 "ReplayMachineModel" "height" "I" ∈ WS := WS_mem 619 (by decide +kernel) (by decide +kernel)
set_option maxRecDepth 20000 in
theorem mw_582 : Cond.fieldLink "ReplayMachineModel" 23 "ReplayMachineModel" "cells" "[I" ∈ WS := WS_mem 620 (by decide +kernel) (by decide +kernel)
set_option maxRecDepth 20000 in
theorem mw_583 : Cond.fieldLink "ReplayMachineModel" 26 "ReplayMachineModel" "stack" "[I" ∈ WS := WS_mem 621 (by decide +kernel) (by decide +kernel)
set_option maxRecDepth 20000 in
theorem mw_584 : Cond.fieldLink "ReplayMachineModel" 29 "ReplayMachineModel" "were" "[I" ∈ WS := WS_mem 622 (by decide +kernel) (by decide +kernel)
set_option maxRecDepth 20000 in
theorem mw_585 : Cond.fieldLink "ReplayMachineModel" 32 "ReplayMachineModel" "markWords" "[I" ∈ WS := WS_mem 623 (by decide +kernel) (by decide +kernel)
set_option maxRecDepth 20000 in
theorem mw_586 : Cond.fieldLink "ReplayMachineModel" 35 "ReplayMachineModel" "markOthers" "[I" ∈ WS := WS_mem 624 (by decide +kernel) (by decide +kernel)
set_option maxRecDepth 20000 in
theorem mw_587 : Cond.fieldLink "ReplayMachineModel" 57 "ReplayMachineModel" "reached" "I" ∈ WS := WS_mem 625 (by decide +kernel) (by decide +kernel)
set_option maxRecDepth 20000 in
theorem mw_588 : Cond.fieldLink "ReplayMachineModel" 122 "ReplayMachineModel" "undo" "I" ∈ WS := WS_mem 626 (by decide +kernel) (by decide +kernel)
set_option maxRecDepth 20000 in
theorem mw_589 : Cond.fieldLink "ReplayMachineModel" 128 "ReplayMachineModel" "cost" "I" ∈ WS := WS_mem 627 (by decide +kernel) (by decide +kernel)
set_option maxRecDepth 20000 in
theorem mw_590 : Cond.fieldLink "ReplayMachineModel" 38 "ReplayMachineModel" "every" "I" ∈ WS := WS_mem 628 (by decide +kernel) (by decide +kernel)
set_option maxRecDepth 20000 in
theorem mw_591 : Cond.fieldLink "ReplayMachineModel" 51 "ReplayMachineModel" "kept" "I" ∈ WS := WS_mem 629 (by decide +kernel) (by decide +kernel)
set_option maxRecDepth 20000 in
theorem mw_592 : Cond.fieldLink "ReplayMachineModel" 42 "ReplayMachineModel" "keptAt" "[I" ∈ WS := WS_mem 630 (by decide +kernel) (by decide +kernel)
set_option maxRecDepth 20000 in
theorem mw_593 : Cond.lays "ReplayMachineModel" "ReplayMachineModel" "code" "I" ∈ WS := WS_mem 631 (by decide +kernel) (by decide +kernel)
set_option maxRecDepth 20000 in
theorem mw_595 : Cond.laysFinal "ReplayMachineModel" "ReplayMachineModel" "program" "[I" ∈ WS := WS_mem 633 (by decide +kernel) (by decide +kernel)
set_option maxRecDepth 20000 in
theorem mw_597 : Cond.laysFinal "ReplayMachineModel" "ReplayMachineModel" "inputs" "[I" ∈ WS := WS_mem 635 (by decide +kernel) (by decide +kernel)
set_option maxRecDepth 20000 in
theorem mw_599 : Cond.lays "ReplayMachineModel" "ReplayMachineModel" "given" "I" ∈ WS := WS_mem 637 (by decide +kernel) (by decide +kernel)
set_option maxRecDepth 20000 in
theorem mw_601 : Cond.laysFinal "ReplayMachineModel" "ReplayMachineModel" "breaks" "[Z" ∈ WS := WS_mem 639 (by decide +kernel) (by decide +kernel)
set_option maxRecDepth 20000 in
theorem mw_603 : Cond.laysFinal "ReplayMachineModel" "ReplayMachineModel" "watches" "[Z" ∈ WS := WS_mem 641 (by decide +kernel) (by decide +kernel)
set_option maxRecDepth 20000 in
theorem mw_605 : Cond.lays "ReplayMachineModel" "ReplayMachineModel" "time" "I" ∈ WS := WS_mem 643 (by decide +kernel) (by decide +kernel)
set_option maxRecDepth 20000 in
theorem mw_607 : Cond.lays "ReplayMachineModel" "ReplayMachineModel" "pc" "I" ∈ WS := WS_mem 645 (by decide +kernel) (by decide +kernel)
set_option maxRecDepth 20000 in
theorem mw_609 : Cond.lays "ReplayMachineModel" "ReplayMachineModel" "frame" "I" ∈ WS := WS_mem 647 (by decide +kernel) (by decide +kernel)
set_option maxRecDepth 20000 in
theorem mw_611 : Cond.lays "ReplayMachineModel" "ReplayMachineModel" "x" "I" ∈ WS := WS_mem 649 (by decide +kernel) (by decide +kernel)
set_option maxRecDepth 20000 in
theorem mw_613 : Cond.lays "ReplayMachineModel" "ReplayMachineModel" "taken" "I" ∈ WS := WS_mem 651 (by decide +kernel) (by decide +kernel)
set_option maxRecDepth 20000 in
theorem mw_615 : Cond.lays "ReplayMachineModel" "ReplayMachineModel" "height" "I" ∈ WS := WS_mem 653 (by decide +kernel) (by decide +kernel)
set_option maxRecDepth 20000 in
theorem mw_617 : Cond.laysFinal "ReplayMachineModel" "ReplayMachineModel" "cells" "[I" ∈ WS := WS_mem 655 (by decide +kernel) (by decide +kernel)
set_option maxRecDepth 20000 in
theorem mw_619 : Cond.laysFinal "ReplayMachineModel" "ReplayMachineModel" "stack" "[I" ∈ WS := WS_mem 657 (by decide +kernel) (by decide +kernel)
set_option maxRecDepth 20000 in
theorem mw_621 : Cond.laysFinal "ReplayMachineModel" "ReplayMachineModel" "were" "[I" ∈ WS := WS_mem 659 (by decide +kernel) (by decide +kernel)
set_option maxRecDepth 20000 in
theorem mw_623 : Cond.laysFinal "ReplayMachineModel" "ReplayMachineModel" "markWords" "[I" ∈ WS := WS_mem 661 (by decide +kernel) (by decide +kernel)
set_option maxRecDepth 20000 in
theorem mw_625 : Cond.laysFinal "ReplayMachineModel" "ReplayMachineModel" "markOthers" "[I" ∈ WS := WS_mem 663 (by decide +kernel) (by decide +kernel)
set_option maxRecDepth 20000 in
theorem mw_627 : Cond.lays "ReplayMachineModel" "ReplayMachineModel" "reached" "I" ∈ WS := WS_mem 665 (by decide +kernel) (by decide +kernel)
set_option maxRecDepth 20000 in
theorem mw_629 : Cond.lays "ReplayMachineModel" "ReplayMachineModel" "undo" "I" ∈ WS := WS_mem 667 (by decide +kernel) (by decide +kernel)
set_option maxRecDepth 20000 in
theorem mw_631 : Cond.lays "ReplayMachineModel" "ReplayMachineModel" "cost" "I" ∈ WS := WS_mem 669 (by decide +kernel) (by decide +kernel)
set_option maxRecDepth 20000 in
theorem mw_633 : Cond.lays "ReplayMachineModel" "ReplayMachineModel" "every" "I" ∈ WS := WS_mem 671 (by decide +kernel) (by decide +kernel)
set_option maxRecDepth 20000 in
theorem mw_635 : Cond.lays "ReplayMachineModel" "ReplayMachineModel" "kept" "I" ∈ WS := WS_mem 673 (by decide +kernel) (by decide +kernel)
set_option maxRecDepth 20000 in
theorem mw_637 : Cond.laysFinal "ReplayMachineModel" "ReplayMachineModel" "keptAt" "[I" ∈ WS := WS_mem 675 (by decide +kernel) (by decide +kernel)
set_option maxRecDepth 20000 in
theorem mw_640 : Cond.methodLink "ReplayMachineLaw" 67 y_Mo_thrown ∈ WS := WS_mem 678 (by decide +kernel) (by decide +kernel)
set_option maxRecDepth 20000 in
theorem mw_641 : Cond.instanceMethod y_Mo_thrown ∈ WS := WS_mem 679 (by decide +kernel) (by decide +kernel)
set_option maxRecDepth 20000 in
theorem mw_642 : Cond.selects "ReplayMachineModel" y_Mo_thrown y_Mo_thrown ∈ WS := WS_mem 680 (by decide +kernel) (by decide +kernel)
set_option maxRecDepth 20000 in
theorem mw_643 : Cond.code y_Mo_thrown prog_9_method_2_code 1 (some FieldType.int) ∈ WS := WS_mem 681 (by decide +kernel) (by decide +kernel)
set_option maxRecDepth 20000 in
theorem mw_644 : Cond.methodLink "ReplayMachineLaw" 66 y_Mo_poke ∈ WS := WS_mem 682 (by decide +kernel) (by decide +kernel)
set_option maxRecDepth 20000 in
theorem mw_645 : Cond.instanceMethod y_Mo_poke ∈ WS := WS_mem 683 (by decide +kernel) (by decide +kernel)
set_option maxRecDepth 20000 in
theorem mw_646 : Cond.selects "ReplayMachineModel" y_Mo_poke y_Mo_poke ∈ WS := WS_mem 684 (by decide +kernel) (by decide +kernel)
set_option maxRecDepth 20000 in
theorem mw_647 : Cond.code y_Mo_poke prog_9_method_4_code 3 none ∈ WS := WS_mem 685 (by decide +kernel) (by decide +kernel)
set_option maxRecDepth 20000 in
theorem mw_648 : Cond.methodLink "ReplayMachineLaw" 74 y_Mo_input ∈ WS := WS_mem 686 (by decide +kernel) (by decide +kernel)
set_option maxRecDepth 20000 in
theorem mw_649 : Cond.instanceMethod y_Mo_input ∈ WS := WS_mem 687 (by decide +kernel) (by decide +kernel)
set_option maxRecDepth 20000 in
theorem mw_650 : Cond.selects "ReplayMachineModel" y_Mo_input y_Mo_input ∈ WS := WS_mem 688 (by decide +kernel) (by decide +kernel)
set_option maxRecDepth 20000 in
theorem mw_651 : Cond.code y_Mo_input prog_9_method_5_code 2 (some FieldType.int) ∈ WS := WS_mem 689 (by decide +kernel) (by decide +kernel)
set_option maxRecDepth 20000 in
theorem mw_652 : Cond.methodLink "ReplayMachineLaw" 78 y_Mo_step ∈ WS := WS_mem 690 (by decide +kernel) (by decide +kernel)
set_option maxRecDepth 20000 in
theorem mw_653 : Cond.instanceMethod y_Mo_step ∈ WS := WS_mem 691 (by decide +kernel) (by decide +kernel)
set_option maxRecDepth 20000 in
theorem mw_654 : Cond.selects "ReplayMachineModel" y_Mo_step y_Mo_step ∈ WS := WS_mem 692 (by decide +kernel) (by decide +kernel)
set_option maxRecDepth 20000 in
theorem mw_655 : Cond.code y_Mo_step prog_9_method_22_code 1 (some FieldType.int) ∈ WS := WS_mem 693 (by decide +kernel) (by decide +kernel)
set_option maxRecDepth 20000 in
theorem mw_656 : Cond.methodLink "ReplayMachineModel" 131 y_Mo_advance ∈ WS := WS_mem 694 (by decide +kernel) (by decide +kernel)
set_option maxRecDepth 20000 in
theorem mw_658 : Cond.instanceMethod y_Mo_advance ∈ WS := WS_mem 696 (by decide +kernel) (by decide +kernel)
set_option maxRecDepth 20000 in
theorem mw_659 : Cond.code y_Mo_advance prog_9_method_20_code 2 (some FieldType.int) ∈ WS := WS_mem 697 (by decide +kernel) (by decide +kernel)
set_option maxRecDepth 20000 in
theorem mw_660 : Cond.methodLink "ReplayMachineModel" 119 y_Mo_check ∈ WS := WS_mem 698 (by decide +kernel) (by decide +kernel)
set_option maxRecDepth 20000 in
theorem mw_662 : Cond.instanceMethod y_Mo_check ∈ WS := WS_mem 700 (by decide +kernel) (by decide +kernel)
set_option maxRecDepth 20000 in
theorem mw_663 : Cond.code y_Mo_check prog_9_method_11_code 4 (some FieldType.int) ∈ WS := WS_mem 701 (by decide +kernel) (by decide +kernel)
set_option maxRecDepth 20000 in
theorem mw_664 : Cond.methodLink "ReplayMachineModel" 81 y_Mo_needs ∈ WS := WS_mem 702 (by decide +kernel) (by decide +kernel)
set_option maxRecDepth 20000 in
theorem mw_665 : Cond.static y_Mo_needs ∈ WS := WS_mem 703 (by decide +kernel) (by decide +kernel)
set_option maxRecDepth 20000 in
theorem mw_666 : Cond.code y_Mo_needs prog_9_method_8_code 1 (some FieldType.int) ∈ WS := WS_mem 704 (by decide +kernel) (by decide +kernel)
set_option maxRecDepth 20000 in
theorem mw_667 : Cond.methodLink "ReplayMachineModel" 85 y_Mo_isArgument ∈ WS := WS_mem 705 (by decide +kernel) (by decide +kernel)
set_option maxRecDepth 20000 in
theorem mw_669 : Cond.instanceMethod y_Mo_isArgument ∈ WS := WS_mem 707 (by decide +kernel) (by decide +kernel)
set_option maxRecDepth 20000 in
theorem mw_670 : Cond.code y_Mo_isArgument prog_9_method_10_code 3 (some FieldType.boolean) ∈ WS := WS_mem 708 (by decide +kernel) (by decide +kernel)
set_option maxRecDepth 20000 in
theorem mw_671 : Cond.methodLink "ReplayMachineModel" 89 y_Mo_grows ∈ WS := WS_mem 709 (by decide +kernel) (by decide +kernel)
set_option maxRecDepth 20000 in
theorem mw_672 : Cond.static y_Mo_grows ∈ WS := WS_mem 710 (by decide +kernel) (by decide +kernel)
set_option maxRecDepth 20000 in
theorem mw_673 : Cond.code y_Mo_grows prog_9_method_9_code 1 (some FieldType.int) ∈ WS := WS_mem 711 (by decide +kernel) (by decide +kernel)
set_option maxRecDepth 20000 in
theorem mw_674 : Cond.methodLink "ReplayMachineModel" 78 y_Mo_perform ∈ WS := WS_mem 712 (by decide +kernel) (by decide +kernel)
set_option maxRecDepth 20000 in
theorem mw_676 : Cond.instanceMethod y_Mo_perform ∈ WS := WS_mem 714 (by decide +kernel) (by decide +kernel)
set_option maxRecDepth 20000 in
theorem mw_677 : Cond.code y_Mo_perform prog_9_method_19_code 4 none ∈ WS := WS_mem 715 (by decide +kernel) (by decide +kernel)
set_option maxRecDepth 20000 in
theorem mw_678 : Cond.methodLink "ReplayMachineModel" 96 y_Mo_push ∈ WS := WS_mem 716 (by decide +kernel) (by decide +kernel)
set_option maxRecDepth 20000 in
theorem mw_680 : Cond.instanceMethod y_Mo_push ∈ WS := WS_mem 718 (by decide +kernel) (by decide +kernel)
set_option maxRecDepth 20000 in
theorem mw_681 : Cond.code y_Mo_push prog_9_method_12_code 2 none ∈ WS := WS_mem 719 (by decide +kernel) (by decide +kernel)
set_option maxRecDepth 20000 in
theorem mw_682 : Cond.methodLink "ReplayMachineModel" 92 y_Mo_pop ∈ WS := WS_mem 720 (by decide +kernel) (by decide +kernel)
set_option maxRecDepth 20000 in
theorem mw_684 : Cond.instanceMethod y_Mo_pop ∈ WS := WS_mem 722 (by decide +kernel) (by decide +kernel)
set_option maxRecDepth 20000 in
theorem mw_685 : Cond.code y_Mo_pop prog_9_method_13_code 1 (some FieldType.int) ∈ WS := WS_mem 723 (by decide +kernel) (by decide +kernel)
set_option maxRecDepth 20000 in
theorem mw_686 : Cond.methodLink "ReplayMachineModel" 102 y_Mo_branch ∈ WS := WS_mem 724 (by decide +kernel) (by decide +kernel)
set_option maxRecDepth 20000 in
theorem mw_688 : Cond.instanceMethod y_Mo_branch ∈ WS := WS_mem 726 (by decide +kernel) (by decide +kernel)
set_option maxRecDepth 20000 in
theorem mw_689 : Cond.code y_Mo_branch prog_9_method_15_code 4 none ∈ WS := WS_mem 727 (by decide +kernel) (by decide +kernel)
set_option maxRecDepth 20000 in
theorem mw_690 : Cond.methodLink "ReplayMachineModel" 106 y_Mo_call ∈ WS := WS_mem 728 (by decide +kernel) (by decide +kernel)
set_option maxRecDepth 20000 in
theorem mw_692 : Cond.instanceMethod y_Mo_call ∈ WS := WS_mem 730 (by decide +kernel) (by decide +kernel)
set_option maxRecDepth 20000 in
theorem mw_693 : Cond.code y_Mo_call prog_9_method_17_code 2 none ∈ WS := WS_mem 731 (by decide +kernel) (by decide +kernel)
set_option maxRecDepth 20000 in
theorem mw_694 : Cond.methodLink "ReplayMachineModel" 109 y_Mo_giveBack ∈ WS := WS_mem 732 (by decide +kernel) (by decide +kernel)
set_option maxRecDepth 20000 in
theorem mw_696 : Cond.instanceMethod y_Mo_giveBack ∈ WS := WS_mem 734 (by decide +kernel) (by decide +kernel)
set_option maxRecDepth 20000 in
theorem mw_697 : Cond.code y_Mo_giveBack prog_9_method_16_code 2 none ∈ WS := WS_mem 735 (by decide +kernel) (by decide +kernel)
set_option maxRecDepth 20000 in
theorem mw_698 : Cond.methodLink "ReplayMachineModel" 112 y_Mo_draw ∈ WS := WS_mem 736 (by decide +kernel) (by decide +kernel)
set_option maxRecDepth 20000 in
theorem mw_700 : Cond.instanceMethod y_Mo_draw ∈ WS := WS_mem 738 (by decide +kernel) (by decide +kernel)
set_option maxRecDepth 20000 in
theorem mw_701 : Cond.code y_Mo_draw prog_9_method_18_code 2 (some FieldType.int) ∈ WS := WS_mem 739 (by decide +kernel) (by decide +kernel)
set_option maxRecDepth 20000 in
theorem mw_702 : Cond.constant "ReplayMachineModel" 100 (1103515245) ∈ WS := WS_mem 740 (by decide +kernel) (by decide +kernel)
set_option maxRecDepth 20000 in
theorem mw_703 : Cond.constant "ReplayMachineModel" 101 (65535) ∈ WS := WS_mem 741 (by decide +kernel) (by decide +kernel)
set_option maxRecDepth 20000 in
theorem mw_704 : Cond.methodLink "ReplayMachineModel" 115 y_Mo_reckon ∈ WS := WS_mem 742 (by decide +kernel) (by decide +kernel)
set_option maxRecDepth 20000 in
theorem mw_705 : Cond.static y_Mo_reckon ∈ WS := WS_mem 743 (by decide +kernel) (by decide +kernel)
set_option maxRecDepth 20000 in
theorem mw_706 : Cond.code y_Mo_reckon prog_9_method_14_code 3 (some FieldType.int) ∈ WS := WS_mem 744 (by decide +kernel) (by decide +kernel)
set_option maxRecDepth 20000 in
theorem mw_707 : Cond.methodLink "ReplayMachineModel" 125 y_Mo_grow ∈ WS := WS_mem 745 (by decide +kernel) (by decide +kernel)
set_option maxRecDepth 20000 in
theorem mw_709 : Cond.instanceMethod y_Mo_grow ∈ WS := WS_mem 747 (by decide +kernel) (by decide +kernel)
set_option maxRecDepth 20000 in
theorem mw_710 : Cond.code y_Mo_grow prog_9_method_21_code 2 none ∈ WS := WS_mem 748 (by decide +kernel) (by decide +kernel)
set_option maxRecDepth 20000 in
theorem mw_711 : Cond.methodLink "ReplayMachineLaw" 82 y_Mo_forth ∈ WS := WS_mem 749 (by decide +kernel) (by decide +kernel)
set_option maxRecDepth 20000 in
theorem mw_712 : Cond.instanceMethod y_Mo_forth ∈ WS := WS_mem 750 (by decide +kernel) (by decide +kernel)
set_option maxRecDepth 20000 in
theorem mw_713 : Cond.selects "ReplayMachineModel" y_Mo_forth y_Mo_forth ∈ WS := WS_mem 751 (by decide +kernel) (by decide +kernel)
set_option maxRecDepth 20000 in
theorem mw_714 : Cond.code y_Mo_forth prog_9_method_25_code 4 (some FieldType.int) ∈ WS := WS_mem 752 (by decide +kernel) (by decide +kernel)
set_option maxRecDepth 20000 in
theorem mw_715 : Cond.methodLink "ReplayMachineModel" 134 y_Mo_remember ∈ WS := WS_mem 753 (by decide +kernel) (by decide +kernel)
set_option maxRecDepth 20000 in
theorem mw_717 : Cond.instanceMethod y_Mo_remember ∈ WS := WS_mem 755 (by decide +kernel) (by decide +kernel)
set_option maxRecDepth 20000 in
theorem mw_718 : Cond.code y_Mo_remember prog_9_method_23_code 2 none ∈ WS := WS_mem 756 (by decide +kernel) (by decide +kernel)
set_option maxRecDepth 20000 in
theorem mw_719 : Cond.methodLink "ReplayMachineModel" 137 y_Mo_stop ∈ WS := WS_mem 757 (by decide +kernel) (by decide +kernel)
set_option maxRecDepth 20000 in
theorem mw_721 : Cond.instanceMethod y_Mo_stop ∈ WS := WS_mem 759 (by decide +kernel) (by decide +kernel)
set_option maxRecDepth 20000 in
theorem mw_722 : Cond.code y_Mo_stop prog_9_method_24_code 3 (some FieldType.int) ∈ WS := WS_mem 760 (by decide +kernel) (by decide +kernel)
set_option maxRecDepth 20000 in
theorem mw_723 : Cond.methodLink "ReplayMachineLaw" 89 y_Mo_go ∈ WS := WS_mem 761 (by decide +kernel) (by decide +kernel)
set_option maxRecDepth 20000 in
theorem mw_724 : Cond.instanceMethod y_Mo_go ∈ WS := WS_mem 762 (by decide +kernel) (by decide +kernel)
set_option maxRecDepth 20000 in
theorem mw_725 : Cond.selects "ReplayMachineModel" y_Mo_go y_Mo_go ∈ WS := WS_mem 763 (by decide +kernel) (by decide +kernel)
set_option maxRecDepth 20000 in
theorem mw_726 : Cond.code y_Mo_go prog_9_method_27_code 2 none ∈ WS := WS_mem 764 (by decide +kernel) (by decide +kernel)
set_option maxRecDepth 20000 in
theorem mw_727 : Cond.methodLink "ReplayMachineModel" 140 y_Mo_account ∈ WS := WS_mem 765 (by decide +kernel) (by decide +kernel)
set_option maxRecDepth 20000 in
theorem mw_729 : Cond.instanceMethod y_Mo_account ∈ WS := WS_mem 767 (by decide +kernel) (by decide +kernel)
set_option maxRecDepth 20000 in
theorem mw_730 : Cond.code y_Mo_account prog_9_method_26_code 5 none ∈ WS := WS_mem 768 (by decide +kernel) (by decide +kernel)
set_option maxRecDepth 20000 in
theorem mw_731 : Cond.methodLink "ReplayMachineModel" 143 y_Mo_seek ∈ WS := WS_mem 769 (by decide +kernel) (by decide +kernel)
set_option maxRecDepth 20000 in
theorem mw_733 : Cond.instanceMethod y_Mo_seek ∈ WS := WS_mem 771 (by decide +kernel) (by decide +kernel)
set_option maxRecDepth 20000 in
theorem mw_734 : Cond.code y_Mo_seek prog_9_method_7_code 4 none ∈ WS := WS_mem 772 (by decide +kernel) (by decide +kernel)
set_option maxRecDepth 20000 in
theorem mw_735 : Cond.methodLink "ReplayMachineLaw" 85 y_Mo_back ∈ WS := WS_mem 773 (by decide +kernel) (by decide +kernel)
set_option maxRecDepth 20000 in
theorem mw_736 : Cond.instanceMethod y_Mo_back ∈ WS := WS_mem 774 (by decide +kernel) (by decide +kernel)
set_option maxRecDepth 20000 in
theorem mw_737 : Cond.selects "ReplayMachineModel" y_Mo_back y_Mo_back ∈ WS := WS_mem 775 (by decide +kernel) (by decide +kernel)
set_option maxRecDepth 20000 in
theorem mw_738 : Cond.code y_Mo_back prog_9_method_29_code 4 (some FieldType.int) ∈ WS := WS_mem 776 (by decide +kernel) (by decide +kernel)
set_option maxRecDepth 20000 in
theorem mw_739 : Cond.methodLink "ReplayMachineModel" 146 y_Mo_backOne ∈ WS := WS_mem 777 (by decide +kernel) (by decide +kernel)
set_option maxRecDepth 20000 in
theorem mw_741 : Cond.instanceMethod y_Mo_backOne ∈ WS := WS_mem 779 (by decide +kernel) (by decide +kernel)
set_option maxRecDepth 20000 in
theorem mw_742 : Cond.code y_Mo_backOne prog_9_method_28_code 2 (some FieldType.int) ∈ WS := WS_mem 780 (by decide +kernel) (by decide +kernel)
set_option maxRecDepth 20000 in
theorem mw_743 : Cond.methodLink "ReplayMachineLaw" 92 y_Mo_setBreak ∈ WS := WS_mem 781 (by decide +kernel) (by decide +kernel)
set_option maxRecDepth 20000 in
theorem mw_744 : Cond.instanceMethod y_Mo_setBreak ∈ WS := WS_mem 782 (by decide +kernel) (by decide +kernel)
set_option maxRecDepth 20000 in
theorem mw_745 : Cond.selects "ReplayMachineModel" y_Mo_setBreak y_Mo_setBreak ∈ WS := WS_mem 783 (by decide +kernel) (by decide +kernel)
set_option maxRecDepth 20000 in
theorem mw_746 : Cond.code y_Mo_setBreak prog_9_method_31_code 2 (some FieldType.boolean) ∈ WS := WS_mem 784 (by decide +kernel) (by decide +kernel)
set_option maxRecDepth 20000 in
theorem mw_747 : Cond.methodLink "ReplayMachineModel" 149 y_Mo_outside ∈ WS := WS_mem 785 (by decide +kernel) (by decide +kernel)
set_option maxRecDepth 20000 in
theorem mw_748 : Cond.static y_Mo_outside ∈ WS := WS_mem 786 (by decide +kernel) (by decide +kernel)
set_option maxRecDepth 20000 in
theorem mw_749 : Cond.code y_Mo_outside prog_9_method_30_code 2 (some FieldType.boolean) ∈ WS := WS_mem 787 (by decide +kernel) (by decide +kernel)
set_option maxRecDepth 20000 in
theorem mw_750 : Cond.methodLink "ReplayMachineLaw" 95 y_Mo_clearBreak ∈ WS := WS_mem 788 (by decide +kernel) (by decide +kernel)
set_option maxRecDepth 20000 in
theorem mw_751 : Cond.instanceMethod y_Mo_clearBreak ∈ WS := WS_mem 789 (by decide +kernel) (by decide +kernel)
set_option maxRecDepth 20000 in
theorem mw_752 : Cond.selects "ReplayMachineModel" y_Mo_clearBreak y_Mo_clearBreak ∈ WS := WS_mem 790 (by decide +kernel) (by decide +kernel)
set_option maxRecDepth 20000 in
theorem mw_753 : Cond.code y_Mo_clearBreak prog_9_method_32_code 2 (some FieldType.boolean) ∈ WS := WS_mem 791 (by decide +kernel) (by decide +kernel)
set_option maxRecDepth 20000 in
theorem mw_754 : Cond.methodLink "ReplayMachineLaw" 98 y_Mo_setWatch ∈ WS := WS_mem 792 (by decide +kernel) (by decide +kernel)
set_option maxRecDepth 20000 in
theorem mw_755 : Cond.instanceMethod y_Mo_setWatch ∈ WS := WS_mem 793 (by decide +kernel) (by decide +kernel)
set_option maxRecDepth 20000 in
theorem mw_756 : Cond.selects "ReplayMachineModel" y_Mo_setWatch y_Mo_setWatch ∈ WS := WS_mem 794 (by decide +kernel) (by decide +kernel)
set_option maxRecDepth 20000 in
theorem mw_757 : Cond.code y_Mo_setWatch prog_9_method_33_code 2 (some FieldType.boolean) ∈ WS := WS_mem 795 (by decide +kernel) (by decide +kernel)
set_option maxRecDepth 20000 in
theorem mw_758 : Cond.methodLink "ReplayMachineLaw" 101 y_Mo_clearWatch ∈ WS := WS_mem 796 (by decide +kernel) (by decide +kernel)
set_option maxRecDepth 20000 in
theorem mw_759 : Cond.instanceMethod y_Mo_clearWatch ∈ WS := WS_mem 797 (by decide +kernel) (by decide +kernel)
set_option maxRecDepth 20000 in
theorem mw_760 : Cond.selects "ReplayMachineModel" y_Mo_clearWatch y_Mo_clearWatch ∈ WS := WS_mem 798 (by decide +kernel) (by decide +kernel)
set_option maxRecDepth 20000 in
theorem mw_761 : Cond.code y_Mo_clearWatch prog_9_method_34_code 2 (some FieldType.boolean) ∈ WS := WS_mem 799 (by decide +kernel) (by decide +kernel)
set_option maxRecDepth 20000 in
theorem mw_762 : Cond.methodLink "ReplayMachineLaw" 104 y_Mo_state ∈ WS := WS_mem 800 (by decide +kernel) (by decide +kernel)
set_option maxRecDepth 20000 in
theorem mw_763 : Cond.instanceMethod y_Mo_state ∈ WS := WS_mem 801 (by decide +kernel) (by decide +kernel)
set_option maxRecDepth 20000 in
theorem mw_764 : Cond.selects "ReplayMachineModel" y_Mo_state y_Mo_state ∈ WS := WS_mem 802 (by decide +kernel) (by decide +kernel)
set_option maxRecDepth 20000 in
theorem mw_765 : Cond.code y_Mo_state prog_9_method_35_code 2 (some FieldType.int) ∈ WS := WS_mem 803 (by decide +kernel) (by decide +kernel)
set_option maxRecDepth 20000 in
theorem mw_766 : Cond.methodLink "ReplayMachineModel" 153 y_Mo_fail ∈ WS := WS_mem 804 (by decide +kernel) (by decide +kernel)
set_option maxRecDepth 20000 in
theorem mw_768 : Cond.instanceMethod y_Mo_fail ∈ WS := WS_mem 806 (by decide +kernel) (by decide +kernel)
set_option maxRecDepth 20000 in
theorem mw_769 : Cond.code y_Mo_fail prog_9_method_3_code 2 (some FieldType.int) ∈ WS := WS_mem 807 (by decide +kernel) (by decide +kernel)
set_option maxRecDepth 20000 in
theorem mw_770 : Cond.methodLink "ReplayMachineLaw" 107 y_Mo_cell ∈ WS := WS_mem 808 (by decide +kernel) (by decide +kernel)
set_option maxRecDepth 20000 in
theorem mw_771 : Cond.instanceMethod y_Mo_cell ∈ WS := WS_mem 809 (by decide +kernel) (by decide +kernel)
set_option maxRecDepth 20000 in
theorem mw_772 : Cond.selects "ReplayMachineModel" y_Mo_cell y_Mo_cell ∈ WS := WS_mem 810 (by decide +kernel) (by decide +kernel)
set_option maxRecDepth 20000 in
theorem mw_773 : Cond.code y_Mo_cell prog_9_method_36_code 2 (some FieldType.int) ∈ WS := WS_mem 811 (by decide +kernel) (by decide +kernel)
set_option maxRecDepth 20000 in
theorem mw_774 : Cond.methodLink "ReplayMachineLaw" 110 y_Mo_stack ∈ WS := WS_mem 812 (by decide +kernel) (by decide +kernel)
set_option maxRecDepth 20000 in
theorem mw_775 : Cond.instanceMethod y_Mo_stack ∈ WS := WS_mem 813 (by decide +kernel) (by decide +kernel)
set_option maxRecDepth 20000 in
theorem mw_776 : Cond.selects "ReplayMachineModel" y_Mo_stack y_Mo_stack ∈ WS := WS_mem 814 (by decide +kernel) (by decide +kernel)
set_option maxRecDepth 20000 in
theorem mw_777 : Cond.code y_Mo_stack prog_9_method_37_code 2 (some FieldType.int) ∈ WS := WS_mem 815 (by decide +kernel) (by decide +kernel)
set_option maxRecDepth 20000 in
theorem mw_778 : Cond.methodLink "ReplayMachineLaw" 113 y_Mo_checkpoint ∈ WS := WS_mem 816 (by decide +kernel) (by decide +kernel)
set_option maxRecDepth 20000 in
theorem mw_779 : Cond.instanceMethod y_Mo_checkpoint ∈ WS := WS_mem 817 (by decide +kernel) (by decide +kernel)
set_option maxRecDepth 20000 in
theorem mw_780 : Cond.selects "ReplayMachineModel" y_Mo_checkpoint y_Mo_checkpoint ∈ WS := WS_mem 818 (by decide +kernel) (by decide +kernel)
set_option maxRecDepth 20000 in
theorem mw_781 : Cond.code y_Mo_checkpoint prog_9_method_38_code 2 (some FieldType.int) ∈ WS := WS_mem 819 (by decide +kernel) (by decide +kernel)
set_option maxRecDepth 20000 in
theorem mw_782 : Cond.arrayClass FieldType.long ∈ WS := WS_mem 820 (by decide +kernel) (by decide +kernel)
set_option maxRecDepth 20000 in
theorem mw_783 : Cond.sameMethod "java/lang/Throwable" "java/lang/Throwable" "fillInStackTrace" "(I)Ljava/lang/Throwable;" ∈ WS := WS_mem 821 (by decide +kernel) (by decide +kernel)
set_option maxRecDepth 20000 in
theorem in_Cp : ∀ w ∈ u_ws "ReplayMachine$Checkpoints" T_Cp 3, w ∈ WS := by
  intro w h
  have h2 : w ∈ ([.laysFinal "ReplayMachine$Checkpoints" "ReplayMachine$Checkpoints" "kept" "[LReplayMachine$State;", .lays "ReplayMachine$Checkpoints" "ReplayMachine$Checkpoints" "size" "I", .lays "ReplayMachine$Checkpoints" "ReplayMachine$Checkpoints" "every" "I"] : List Cond) := h
  simp only [List.mem_cons, List.not_mem_nil, or_false] at h2
  rcases h2 with rfl | rfl | rfl
  · exact mw_172
  · exact mw_174
  · exact mw_176
set_option maxRecDepth 20000 in
theorem in_Ma : ∀ w ∈ u_ws "ReplayMachine$Machine" T_Ma 6, w ∈ WS := by
  intro w h
  have h2 : w ∈ ([.laysFinal "ReplayMachine$Machine" "ReplayMachine$Machine" "code" "[I", .laysFinal "ReplayMachine$Machine" "ReplayMachine$Machine" "inputs" "[I", .laysFinal "ReplayMachine$Machine" "ReplayMachine$Machine" "now" "LReplayMachine$State;", .laysFinal "ReplayMachine$Machine" "ReplayMachine$Machine" "undo" "LReplayMachine$Undo;", .lays "ReplayMachine$Machine" "ReplayMachine$Machine" "inputCount" "I", .lays "ReplayMachine$Machine" "ReplayMachine$Machine" "note" "LReplayMachine$Note;"] : List Cond) := h
  simp only [List.mem_cons, List.not_mem_nil, or_false] at h2
  rcases h2 with rfl | rfl | rfl | rfl | rfl | rfl
  · exact mw_144
  · exact mw_146
  · exact mw_148
  · exact mw_150
  · exact mw_152
  · exact mw_154
set_option maxRecDepth 20000 in
theorem in_Nt : ∀ w ∈ u_ws "ReplayMachine$Note" T_Nt 10, w ∈ WS := by
  intro w h
  have h2 : w ∈ ([.lays "ReplayMachine$Note" "ReplayMachine$Registers" "time" "I", .lays "ReplayMachine$Note" "ReplayMachine$Registers" "pc" "I", .lays "ReplayMachine$Note" "ReplayMachine$Registers" "frame" "I", .lays "ReplayMachine$Note" "ReplayMachine$Registers" "x" "I", .lays "ReplayMachine$Note" "ReplayMachine$Registers" "taken" "I", .lays "ReplayMachine$Note" "ReplayMachine$Registers" "height" "I", .lays "ReplayMachine$Note" "ReplayMachine$Registers" "changed" "I", .laysFinal "ReplayMachine$Note" "ReplayMachine$Note" "places" "[I", .laysFinal "ReplayMachine$Note" "ReplayMachine$Note" "words" "[I", .lays "ReplayMachine$Note" "ReplayMachine$Note" "size" "I"] : List Cond) := h
  simp only [List.mem_cons, List.not_mem_nil, or_false] at h2
  rcases h2 with rfl | rfl | rfl | rfl | rfl | rfl | rfl | rfl | rfl | rfl
  · exact mw_115
  · exact mw_116
  · exact mw_117
  · exact mw_118
  · exact mw_119
  · exact mw_120
  · exact mw_121
  · exact mw_109
  · exact mw_111
  · exact mw_113
set_option maxRecDepth 20000 in
theorem in_St : ∀ w ∈ u_ws "ReplayMachine$State" T_St 8, w ∈ WS := by
  intro w h
  have h2 : w ∈ ([.lays "ReplayMachine$State" "ReplayMachine$Registers" "time" "I", .lays "ReplayMachine$State" "ReplayMachine$Registers" "pc" "I", .lays "ReplayMachine$State" "ReplayMachine$Registers" "frame" "I", .lays "ReplayMachine$State" "ReplayMachine$Registers" "x" "I", .lays "ReplayMachine$State" "ReplayMachine$Registers" "taken" "I", .lays "ReplayMachine$State" "ReplayMachine$Registers" "height" "I", .lays "ReplayMachine$State" "ReplayMachine$Registers" "changed" "I", .laysFinal "ReplayMachine$State" "ReplayMachine$State" "memory" "[I"] : List Cond) := h
  simp only [List.mem_cons, List.not_mem_nil, or_false] at h2
  rcases h2 with rfl | rfl | rfl | rfl | rfl | rfl | rfl | rfl
  · exact mw_77
  · exact mw_79
  · exact mw_81
  · exact mw_83
  · exact mw_85
  · exact mw_87
  · exact mw_89
  · exact mw_75
set_option maxRecDepth 20000 in
theorem in_Un : ∀ w ∈ u_ws "ReplayMachine$Undo" T_Un 3, w ∈ WS := by
  intro w h
  have h2 : w ∈ ([.laysFinal "ReplayMachine$Undo" "ReplayMachine$Undo" "notes" "[LReplayMachine$Note;", .lays "ReplayMachine$Undo" "ReplayMachine$Undo" "newest" "I", .lays "ReplayMachine$Undo" "ReplayMachine$Undo" "size" "I"] : List Cond) := h
  simp only [List.mem_cons, List.not_mem_nil, or_false] at h2
  rcases h2 with rfl | rfl | rfl
  · exact mw_128
  · exact mw_130
  · exact mw_132
set_option maxRecDepth 20000 in
theorem in_RM : ∀ w ∈ u_ws "ReplayMachine" T_RM 6, w ∈ WS := by
  intro w h
  have h2 : w ∈ ([.laysFinal "ReplayMachine" "ReplayMachine" "machine" "LReplayMachine$Machine;", .laysFinal "ReplayMachine" "ReplayMachine" "checkpoints" "LReplayMachine$Checkpoints;", .laysFinal "ReplayMachine" "ReplayMachine" "breaks" "[Z", .laysFinal "ReplayMachine" "ReplayMachine" "watches" "[Z", .lays "ReplayMachine" "ReplayMachine" "greatest" "I", .lays "ReplayMachine" "ReplayMachine" "cost" "I"] : List Cond) := h
  simp only [List.mem_cons, List.not_mem_nil, or_false] at h2
  rcases h2 with rfl | rfl | rfl | rfl | rfl | rfl
  · exact mw_185
  · exact mw_187
  · exact mw_189
  · exact mw_191
  · exact mw_193
  · exact mw_195
set_option maxRecDepth 20000 in
theorem in_Mo : ∀ w ∈ u_ws "ReplayMachineModel" T_Mo 23, w ∈ WS := by
  intro w h
  have h2 : w ∈ ([.laysFinal "ReplayMachineModel" "ReplayMachineModel" "program" "[I", .laysFinal "ReplayMachineModel" "ReplayMachineModel" "inputs" "[I", .laysFinal "ReplayMachineModel" "ReplayMachineModel" "breaks" "[Z", .laysFinal "ReplayMachineModel" "ReplayMachineModel" "watches" "[Z", .laysFinal "ReplayMachineModel" "ReplayMachineModel" "cells" "[I", .laysFinal "ReplayMachineModel" "ReplayMachineModel" "stack" "[I", .laysFinal "ReplayMachineModel" "ReplayMachineModel" "were" "[I", .laysFinal "ReplayMachineModel" "ReplayMachineModel" "markWords" "[I", .laysFinal "ReplayMachineModel" "ReplayMachineModel" "markOthers" "[I", .laysFinal "ReplayMachineModel" "ReplayMachineModel" "keptAt" "[I", .lays "ReplayMachineModel" "ReplayMachineModel" "code" "I", .lays "ReplayMachineModel" "ReplayMachineModel" "given" "I", .lays "ReplayMachineModel" "ReplayMachineModel" "time" "I", .lays "ReplayMachineModel" "ReplayMachineModel" "pc" "I", .lays "ReplayMachineModel" "ReplayMachineModel" "frame" "I", .lays "ReplayMachineModel" "ReplayMachineModel" "x" "I", .lays "ReplayMachineModel" "ReplayMachineModel" "taken" "I", .lays "ReplayMachineModel" "ReplayMachineModel" "height" "I", .lays "ReplayMachineModel" "ReplayMachineModel" "reached" "I", .lays "ReplayMachineModel" "ReplayMachineModel" "undo" "I", .lays "ReplayMachineModel" "ReplayMachineModel" "cost" "I", .lays "ReplayMachineModel" "ReplayMachineModel" "every" "I", .lays "ReplayMachineModel" "ReplayMachineModel" "kept" "I"] : List Cond) := h
  simp only [List.mem_cons, List.not_mem_nil, or_false] at h2
  rcases h2 with rfl | rfl | rfl | rfl | rfl | rfl | rfl | rfl | rfl | rfl | rfl | rfl | rfl | rfl | rfl | rfl | rfl | rfl | rfl | rfl | rfl | rfl | rfl
  · exact mw_595
  · exact mw_597
  · exact mw_601
  · exact mw_603
  · exact mw_617
  · exact mw_619
  · exact mw_621
  · exact mw_623
  · exact mw_625
  · exact mw_637
  · exact mw_593
  · exact mw_599
  · exact mw_605
  · exact mw_607
  · exact mw_609
  · exact mw_611
  · exact mw_613
  · exact mw_615
  · exact mw_627
  · exact mw_629
  · exact mw_631
  · exact mw_633
  · exact mw_635
end
section
/-! the class's own cells by index: 0 ReplayMachine, 1 Machine, 2 code, 3 inputs, 4 State now, 5 its memory, 6 Undo, 7 notes, 8+3k Note k with places and words, 104 Checkpoints, 105 kept, 106+2k State k with its memory, 122 breaks, 123 watches -/
abbrev xS : Type := (Nat → Nat → Int32) × (Nat → Nat → Int32) × (Nat → Nat) × Nat
def gI (S : xS) (i k : Nat) : Int32 := S.1 i k
def gR (S : xS) (i : Nat) : Nat → Int32 := S.2.1 i
def gK (S : xS) (j : Nat) : Nat := S.2.2.1 j % 8
def gN (S : xS) : Nat := S.2.2.2 % 32
def sI (S : xS) (i k : Nat) (x : Int32) : xS := (va_up S.1 i (upd (S.1 i) k x), S.2)
def sR (S : xS) (i : Nat) (f : Nat → Int32) : xS := (S.1, va_up S.2.1 i f, S.2.2)
def sA (S : xS) (i : Nat) (j x : Int32) : xS := sR S i (upd (gR S i) j.toNatClampNeg x)
def sK (S : xS) (j x : Nat) : xS := (S.1, S.2.1, va_up S.2.2.1 j x, S.2.2.2)
def sN (S : xS) (x : Nat) : xS := (S.1, S.2.1, S.2.2.1, x)
def kSt (i : Nat) : Prop := i = 4 ∨ (106 ≤ i ∧ i < 122 ∧ i % 2 = 0)
def kNt (i : Nat) : Prop := 8 ≤ i ∧ i < 104 ∧ i % 3 = 2
abbrev iN (k : Nat) : Nat := 8 + 3 * (k % 32)
abbrev iS (k : Nat) : Nat := 106 + 2 * (k % 8)
theorem iN_mod (k : Nat) : iN (k % 32) = iN k := by unfold iN; omega
theorem k_4 : kSt 4 := Or.inl rfl
theorem k_N (k : Nat) : kNt (iN k) := by unfold kNt iN; omega
theorem k_S (k : Nat) : kSt (iS k) := by unfold kSt iS; omega
def xc (aC : Nat → ClassId) (ad : Nat → Nat) (j : Nat) (r a : Nat → Int32) (kp : Nat → Nat) (nt : Nat) (e0 : va_E) : va_E :=
  if j = 0 then .inr (5, [.ref (ad 1), .ref (ad 104), .ref (ad 122), .ref (ad 123), .int (r 4), .int (r 5)]) else
  if j = 1 then .inr (1, [.ref (ad 2), .ref (ad 3), .ref (ad 4), .ref (ad 6), .int (r 4), .ref (ad (iN nt))]) else
  if j = 2 then .inl (aC 0, 64, .inl a) else
  if j = 3 then .inl (aC 0, 40, .inl a) else
  if j = 4 then .inr (3, [.int (r 0), .int (r 1), .int (r 2), .int (r 3), .int (r 4), .int (r 5), .int (r 6), .ref (ad (j + 1))]) else
  if j = 5 then .inl (aC 0, 56, .inl a) else
  if j = 6 then .inr (4, [.ref (ad 7), .int (r 1), .int (r 2)]) else
  if j = 7 then .inl (aC 2, 32, .inr (.inr (.inr (.inr (fun q => if q < 32 then some (ad (iN q)) else none))))) else
  if j < 104 then (if j % 3 = 2 then .inr (2, [.int (r 0), .int (r 1), .int (r 2), .int (r 3), .int (r 4), .int (r 5), .int (r 6), .ref (ad (j + 1)), .ref (ad (j + 2)), .int (r 9)]) else .inl (aC 0, 2, .inl a)) else
  if j = 104 then .inr (0, [.ref (ad 105), .int (r 1), .int (r 2)]) else
  if j = 105 then .inl (aC 3, 8, .inr (.inr (.inr (.inr (fun q => if q < 8 then some (ad (iS (kp q))) else none))))) else
  if j < 122 then (if j % 2 = 0 then .inr (3, [.int (r 0), .int (r 1), .int (r 2), .int (r 3), .int (r 4), .int (r 5), .int (r 6), .ref (ad (j + 1))]) else .inl (aC 0, 56, .inl a)) else
  if j = 122 then .inl (aC 1, 64, .inl a) else
  if j = 123 then .inl (aC 1, 32, .inl a) else
  e0
def xe (aC : Nat → ClassId) (ad : Nat → Nat) (S : xS) (c0 : Nat → va_E) : Nat → va_E := fun j => xc aC ad j (gI S j) (gR S j) (gK S) (gN S) (c0 j)
section XW
variable {aC : Nat → ClassId} {ad : Nat → Nat} {S : xS} {c0 : Nat → va_E} {i : Nat}
theorem x_RM : xe aC ad S c0 0 = .inr (5, [.ref (ad 1), .ref (ad 104), .ref (ad 122), .ref (ad 123), .int (gI S 0 4), .int (gI S 0 5)]) := by first | rfl | simp [xe, xc]
theorem x_Ma : xe aC ad S c0 1 = .inr (1, [.ref (ad 2), .ref (ad 3), .ref (ad 4), .ref (ad 6), .int (gI S 1 4), .ref (ad (iN (gN S)))]) := by first | rfl | simp [xe, xc]
theorem x_code : xe aC ad S c0 2 = .inl (aC 0, 64, .inl (gR S 2)) := by first | rfl | simp [xe, xc]
theorem x_inp : xe aC ad S c0 3 = .inl (aC 0, 40, .inl (gR S 3)) := by first | rfl | simp [xe, xc]
theorem x_Un : xe aC ad S c0 6 = .inr (4, [.ref (ad 7), .int (gI S 6 1), .int (gI S 6 2)]) := by first | rfl | simp [xe, xc]
theorem x_notes : xe aC ad S c0 7 = .inl (aC 2, 32, .inr (.inr (.inr (.inr (fun q => if q < 32 then some (ad (iN q)) else none))))) := by first | rfl | simp [xe, xc]
theorem x_Cp : xe aC ad S c0 104 = .inr (0, [.ref (ad 105), .int (gI S 104 1), .int (gI S 104 2)]) := by first | rfl | simp [xe, xc]
theorem x_kept : xe aC ad S c0 105 = .inl (aC 3, 8, .inr (.inr (.inr (.inr (fun q => if q < 8 then some (ad (iS (gK S q))) else none))))) := by first | rfl | simp [xe, xc]
theorem x_brk : xe aC ad S c0 122 = .inl (aC 1, 64, .inl (gR S 122)) := by first | rfl | simp [xe, xc]
theorem x_wat : xe aC ad S c0 123 = .inl (aC 1, 32, .inl (gR S 123)) := by first | rfl | simp [xe, xc]
theorem x_St (h : kSt i) : xe aC ad S c0 (i) = .inr (3, [.int (gI S i 0), .int (gI S i 1), .int (gI S i 2), .int (gI S i 3), .int (gI S i 4), .int (gI S i 5), .int (gI S i 6), .ref (ad (i + 1))]) := by
  unfold kSt at h
  rcases h with rfl | ⟨g1, g2, g3⟩
  · first | rfl | simp [xe, xc]
  · simp only [xe, xc]
    rw [if_neg (show ¬ i = 0 by omega), if_neg (show ¬ i = 1 by omega), if_neg (show ¬ i = 2 by omega), if_neg (show ¬ i = 3 by omega), if_neg (show ¬ i = 4 by omega), if_neg (show ¬ i = 5 by omega), if_neg (show ¬ i = 6 by omega), if_neg (show ¬ i = 7 by omega), if_neg (show ¬ i < 104 by omega), if_neg (show ¬ i = 104 by omega), if_neg (show ¬ i = 105 by omega), if_pos (show i < 122 by omega), if_pos (show (i) % 2 = 0 by omega)]
theorem x_mem (h : kSt i) : xe aC ad S c0 (i + 1) = .inl (aC 0, 56, .inl (gR S (i + 1))) := by
  unfold kSt at h
  rcases h with rfl | ⟨g1, g2, g3⟩
  · first | rfl | simp [xe, xc]
  · simp only [xe, xc]
    rw [if_neg (show ¬ i + 1 = 0 by omega), if_neg (show ¬ i + 1 = 1 by omega), if_neg (show ¬ i + 1 = 2 by omega), if_neg (show ¬ i + 1 = 3 by omega), if_neg (show ¬ i + 1 = 4 by omega), if_neg (show ¬ i + 1 = 5 by omega), if_neg (show ¬ i + 1 = 6 by omega), if_neg (show ¬ i + 1 = 7 by omega), if_neg (show ¬ i + 1 < 104 by omega), if_neg (show ¬ i + 1 = 104 by omega), if_neg (show ¬ i + 1 = 105 by omega), if_pos (show i + 1 < 122 by omega), if_neg (show ¬ (i + 1) % 2 = 0 by omega)]
theorem x_Nt (h : kNt i) : xe aC ad S c0 (i) = .inr (2, [.int (gI S i 0), .int (gI S i 1), .int (gI S i 2), .int (gI S i 3), .int (gI S i 4), .int (gI S i 5), .int (gI S i 6), .ref (ad (i + 1)), .ref (ad (i + 2)), .int (gI S i 9)]) := by
  unfold kNt at h
  obtain ⟨g1, g2, g3⟩ := h
  simp only [xe, xc]
  rw [if_neg (show ¬ i = 0 by omega), if_neg (show ¬ i = 1 by omega), if_neg (show ¬ i = 2 by omega), if_neg (show ¬ i = 3 by omega), if_neg (show ¬ i = 4 by omega), if_neg (show ¬ i = 5 by omega), if_neg (show ¬ i = 6 by omega), if_neg (show ¬ i = 7 by omega), if_pos (show i < 104 by omega), if_pos (show (i) % 3 = 2 by omega)]
theorem x_pl (h : kNt i) : xe aC ad S c0 (i + 1) = .inl (aC 0, 2, .inl (gR S (i + 1))) := by
  unfold kNt at h
  obtain ⟨g1, g2, g3⟩ := h
  simp only [xe, xc]
  rw [if_neg (show ¬ i + 1 = 0 by omega), if_neg (show ¬ i + 1 = 1 by omega), if_neg (show ¬ i + 1 = 2 by omega), if_neg (show ¬ i + 1 = 3 by omega), if_neg (show ¬ i + 1 = 4 by omega), if_neg (show ¬ i + 1 = 5 by omega), if_neg (show ¬ i + 1 = 6 by omega), if_neg (show ¬ i + 1 = 7 by omega), if_pos (show i + 1 < 104 by omega), if_neg (show ¬ (i + 1) % 3 = 2 by omega)]
theorem x_wd (h : kNt i) : xe aC ad S c0 (i + 2) = .inl (aC 0, 2, .inl (gR S (i + 2))) := by
  unfold kNt at h
  obtain ⟨g1, g2, g3⟩ := h
  simp only [xe, xc]
  rw [if_neg (show ¬ i + 2 = 0 by omega), if_neg (show ¬ i + 2 = 1 by omega), if_neg (show ¬ i + 2 = 2 by omega), if_neg (show ¬ i + 2 = 3 by omega), if_neg (show ¬ i + 2 = 4 by omega), if_neg (show ¬ i + 2 = 5 by omega), if_neg (show ¬ i + 2 = 6 by omega), if_neg (show ¬ i + 2 = 7 by omega), if_pos (show i + 2 < 104 by omega), if_neg (show ¬ (i + 2) % 3 = 2 by omega)]
theorem x_upI {k : Nat} {x : Int32} {e : va_E} (he : xe aC ad (sI S i k x) c0 i = e) : va_up (xe aC ad S c0) i e = xe aC ad (sI S i k x) c0 := by
  funext j
  by_cases hj : j = i
  · subst hj; simp [va_up, he]
  · have h1 : gI (sI S i k x) j = gI S j := by funext q; simp [gI, sI, va_up, hj]
    show (if j = i then e else xe aC ad S c0 j) = xe aC ad (sI S i k x) c0 j
    rw [if_neg hj]
    unfold xe
    rw [h1]
    rfl
theorem x_upR {f : Nat → Int32} {e : va_E} (he : xe aC ad (sR S i f) c0 i = e) : va_up (xe aC ad S c0) i e = xe aC ad (sR S i f) c0 := by
  funext j
  by_cases hj : j = i
  · subst hj; simp [va_up, he]
  · have h1 : gR (sR S i f) j = gR S j := by funext q; simp [gR, sR, va_up, hj]
    show (if j = i then e else xe aC ad S c0 j) = xe aC ad (sR S i f) c0 j
    rw [if_neg hj]
    unfold xe
    rw [h1]
    rfl
theorem g_sI {S : xS} {i k i' k' : Nat} {x : Int32} : gI (sI S i k x) i' k' = if i' = i ∧ k' = k then x else gI S i' k' := by
  unfold gI sI va_up upd
  by_cases h1 : i' = i <;> by_cases h2 : k' = k <;> simp [h1, h2]
theorem g_sIR {S : xS} {i k j : Nat} {x : Int32} : gR (sI S i k x) j = gR S j := rfl
theorem g_sRI {S : xS} {i j k : Nat} {f : Nat → Int32} : gI (sR S i f) j k = gI S j k := rfl
theorem g_sR {S : xS} {i j : Nat} {f : Nat → Int32} : gR (sR S i f) j = if j = i then f else gR S j := by
  unfold gR sR va_up
  by_cases h1 : j = i <;> simp [h1]
theorem x_putSt_0 {x : Int32} (h : kSt i) : va_up (xe aC ad S c0) i (.inr (3, [.int (gI S i 0), .int (gI S i 1), .int (gI S i 2), .int (gI S i 3), .int (gI S i 4), .int (gI S i 5), .int (gI S i 6), .ref (ad (i + 1))].set 0 (.int x))) = xe aC ad (sI S i 0 x) c0 := by
  refine x_upI (by rw [x_St h]; simp [gI, sI, va_up, upd])
theorem x_putSt_1 {x : Int32} (h : kSt i) : va_up (xe aC ad S c0) i (.inr (3, [.int (gI S i 0), .int (gI S i 1), .int (gI S i 2), .int (gI S i 3), .int (gI S i 4), .int (gI S i 5), .int (gI S i 6), .ref (ad (i + 1))].set 1 (.int x))) = xe aC ad (sI S i 1 x) c0 := by
  refine x_upI (by rw [x_St h]; simp [gI, sI, va_up, upd])
theorem x_putSt_2 {x : Int32} (h : kSt i) : va_up (xe aC ad S c0) i (.inr (3, [.int (gI S i 0), .int (gI S i 1), .int (gI S i 2), .int (gI S i 3), .int (gI S i 4), .int (gI S i 5), .int (gI S i 6), .ref (ad (i + 1))].set 2 (.int x))) = xe aC ad (sI S i 2 x) c0 := by
  refine x_upI (by rw [x_St h]; simp [gI, sI, va_up, upd])
theorem x_putSt_3 {x : Int32} (h : kSt i) : va_up (xe aC ad S c0) i (.inr (3, [.int (gI S i 0), .int (gI S i 1), .int (gI S i 2), .int (gI S i 3), .int (gI S i 4), .int (gI S i 5), .int (gI S i 6), .ref (ad (i + 1))].set 3 (.int x))) = xe aC ad (sI S i 3 x) c0 := by
  refine x_upI (by rw [x_St h]; simp [gI, sI, va_up, upd])
theorem x_putSt_4 {x : Int32} (h : kSt i) : va_up (xe aC ad S c0) i (.inr (3, [.int (gI S i 0), .int (gI S i 1), .int (gI S i 2), .int (gI S i 3), .int (gI S i 4), .int (gI S i 5), .int (gI S i 6), .ref (ad (i + 1))].set 4 (.int x))) = xe aC ad (sI S i 4 x) c0 := by
  refine x_upI (by rw [x_St h]; simp [gI, sI, va_up, upd])
theorem x_putSt_5 {x : Int32} (h : kSt i) : va_up (xe aC ad S c0) i (.inr (3, [.int (gI S i 0), .int (gI S i 1), .int (gI S i 2), .int (gI S i 3), .int (gI S i 4), .int (gI S i 5), .int (gI S i 6), .ref (ad (i + 1))].set 5 (.int x))) = xe aC ad (sI S i 5 x) c0 := by
  refine x_upI (by rw [x_St h]; simp [gI, sI, va_up, upd])
theorem x_putSt_6 {x : Int32} (h : kSt i) : va_up (xe aC ad S c0) i (.inr (3, [.int (gI S i 0), .int (gI S i 1), .int (gI S i 2), .int (gI S i 3), .int (gI S i 4), .int (gI S i 5), .int (gI S i 6), .ref (ad (i + 1))].set 6 (.int x))) = xe aC ad (sI S i 6 x) c0 := by
  refine x_upI (by rw [x_St h]; simp [gI, sI, va_up, upd])
theorem x_putNt_0 {x : Int32} (h : kNt i) : va_up (xe aC ad S c0) i (.inr (2, [.int (gI S i 0), .int (gI S i 1), .int (gI S i 2), .int (gI S i 3), .int (gI S i 4), .int (gI S i 5), .int (gI S i 6), .ref (ad (i + 1)), .ref (ad (i + 2)), .int (gI S i 9)].set 0 (.int x))) = xe aC ad (sI S i 0 x) c0 := by
  refine x_upI (by rw [x_Nt h]; simp [gI, sI, va_up, upd])
theorem x_putNt_1 {x : Int32} (h : kNt i) : va_up (xe aC ad S c0) i (.inr (2, [.int (gI S i 0), .int (gI S i 1), .int (gI S i 2), .int (gI S i 3), .int (gI S i 4), .int (gI S i 5), .int (gI S i 6), .ref (ad (i + 1)), .ref (ad (i + 2)), .int (gI S i 9)].set 1 (.int x))) = xe aC ad (sI S i 1 x) c0 := by
  refine x_upI (by rw [x_Nt h]; simp [gI, sI, va_up, upd])
theorem x_putNt_2 {x : Int32} (h : kNt i) : va_up (xe aC ad S c0) i (.inr (2, [.int (gI S i 0), .int (gI S i 1), .int (gI S i 2), .int (gI S i 3), .int (gI S i 4), .int (gI S i 5), .int (gI S i 6), .ref (ad (i + 1)), .ref (ad (i + 2)), .int (gI S i 9)].set 2 (.int x))) = xe aC ad (sI S i 2 x) c0 := by
  refine x_upI (by rw [x_Nt h]; simp [gI, sI, va_up, upd])
theorem x_putNt_3 {x : Int32} (h : kNt i) : va_up (xe aC ad S c0) i (.inr (2, [.int (gI S i 0), .int (gI S i 1), .int (gI S i 2), .int (gI S i 3), .int (gI S i 4), .int (gI S i 5), .int (gI S i 6), .ref (ad (i + 1)), .ref (ad (i + 2)), .int (gI S i 9)].set 3 (.int x))) = xe aC ad (sI S i 3 x) c0 := by
  refine x_upI (by rw [x_Nt h]; simp [gI, sI, va_up, upd])
theorem x_putNt_4 {x : Int32} (h : kNt i) : va_up (xe aC ad S c0) i (.inr (2, [.int (gI S i 0), .int (gI S i 1), .int (gI S i 2), .int (gI S i 3), .int (gI S i 4), .int (gI S i 5), .int (gI S i 6), .ref (ad (i + 1)), .ref (ad (i + 2)), .int (gI S i 9)].set 4 (.int x))) = xe aC ad (sI S i 4 x) c0 := by
  refine x_upI (by rw [x_Nt h]; simp [gI, sI, va_up, upd])
theorem x_putNt_5 {x : Int32} (h : kNt i) : va_up (xe aC ad S c0) i (.inr (2, [.int (gI S i 0), .int (gI S i 1), .int (gI S i 2), .int (gI S i 3), .int (gI S i 4), .int (gI S i 5), .int (gI S i 6), .ref (ad (i + 1)), .ref (ad (i + 2)), .int (gI S i 9)].set 5 (.int x))) = xe aC ad (sI S i 5 x) c0 := by
  refine x_upI (by rw [x_Nt h]; simp [gI, sI, va_up, upd])
theorem x_putNt_6 {x : Int32} (h : kNt i) : va_up (xe aC ad S c0) i (.inr (2, [.int (gI S i 0), .int (gI S i 1), .int (gI S i 2), .int (gI S i 3), .int (gI S i 4), .int (gI S i 5), .int (gI S i 6), .ref (ad (i + 1)), .ref (ad (i + 2)), .int (gI S i 9)].set 6 (.int x))) = xe aC ad (sI S i 6 x) c0 := by
  refine x_upI (by rw [x_Nt h]; simp [gI, sI, va_up, upd])
theorem x_putNt_9 {x : Int32} (h : kNt i) : va_up (xe aC ad S c0) i (.inr (2, [.int (gI S i 0), .int (gI S i 1), .int (gI S i 2), .int (gI S i 3), .int (gI S i 4), .int (gI S i 5), .int (gI S i 6), .ref (ad (i + 1)), .ref (ad (i + 2)), .int (gI S i 9)].set 9 (.int x))) = xe aC ad (sI S i 9 x) c0 := by
  refine x_upI (by rw [x_Nt h]; simp [gI, sI, va_up, upd])
theorem x_putRM_4 {x : Int32} : va_up (xe aC ad S c0) 0 (.inr (5, [.ref (ad 1), .ref (ad 104), .ref (ad 122), .ref (ad 123), .int (gI S 0 4), .int (gI S 0 5)].set 4 (.int x))) = xe aC ad (sI S 0 4 x) c0 := by
  refine x_upI (by rw [x_RM]; simp [gI, sI, va_up, upd, gN])
theorem x_putRM_5 {x : Int32} : va_up (xe aC ad S c0) 0 (.inr (5, [.ref (ad 1), .ref (ad 104), .ref (ad 122), .ref (ad 123), .int (gI S 0 4), .int (gI S 0 5)].set 5 (.int x))) = xe aC ad (sI S 0 5 x) c0 := by
  refine x_upI (by rw [x_RM]; simp [gI, sI, va_up, upd, gN])
theorem x_putMa_4 {x : Int32} : va_up (xe aC ad S c0) 1 (.inr (1, [.ref (ad 2), .ref (ad 3), .ref (ad 4), .ref (ad 6), .int (gI S 1 4), .ref (ad (iN (gN S)))].set 4 (.int x))) = xe aC ad (sI S 1 4 x) c0 := by
  refine x_upI (by rw [x_Ma]; simp [gI, sI, va_up, upd, gN])
theorem x_putUn_1 {x : Int32} : va_up (xe aC ad S c0) 6 (.inr (4, [.ref (ad 7), .int (gI S 6 1), .int (gI S 6 2)].set 1 (.int x))) = xe aC ad (sI S 6 1 x) c0 := by
  refine x_upI (by rw [x_Un]; simp [gI, sI, va_up, upd, gN])
theorem x_putUn_2 {x : Int32} : va_up (xe aC ad S c0) 6 (.inr (4, [.ref (ad 7), .int (gI S 6 1), .int (gI S 6 2)].set 2 (.int x))) = xe aC ad (sI S 6 2 x) c0 := by
  refine x_upI (by rw [x_Un]; simp [gI, sI, va_up, upd, gN])
theorem x_putCp_1 {x : Int32} : va_up (xe aC ad S c0) 104 (.inr (0, [.ref (ad 105), .int (gI S 104 1), .int (gI S 104 2)].set 1 (.int x))) = xe aC ad (sI S 104 1 x) c0 := by
  refine x_upI (by rw [x_Cp]; simp [gI, sI, va_up, upd, gN])
theorem x_putCp_2 {x : Int32} : va_up (xe aC ad S c0) 104 (.inr (0, [.ref (ad 105), .int (gI S 104 1), .int (gI S 104 2)].set 2 (.int x))) = xe aC ad (sI S 104 2 x) c0 := by
  refine x_upI (by rw [x_Cp]; simp [gI, sI, va_up, upd, gN])
theorem x_putMa_5 {k : Nat} : va_up (xe aC ad S c0) 1 (.inr (1, [.ref (ad 2), .ref (ad 3), .ref (ad 4), .ref (ad 6), .int (gI S 1 4), .ref (ad (iN (gN S)))].set 5 (.ref (ad (iN k))))) = xe aC ad (sN S k) c0 := by
  funext j
  by_cases hj : j = 1
  · subst hj; rw [x_Ma]; simp [va_up, gI, sN, gN, iN_mod]
  · show (if j = 1 then _ else xe aC ad S c0 j) = xe aC ad (sN S k) c0 j
    rw [if_neg hj]
    unfold xe
    show xc aC ad j (gI S j) (gR S j) (gK S) (gN S) (c0 j) = xc aC ad j (gI S j) (gR S j) (gK S) (gN (sN S k)) (c0 j)
    unfold xc
    rw [if_neg hj, if_neg hj]
theorem x_ast_code {f : Nat → Int32} : va_up (xe aC ad S c0) 2 (.inl (aC 0, 64, .inl f)) = xe aC ad (sR S 2 f) c0 := x_upR (by rw [x_code]; simp [gR, sR, va_up])
theorem x_ast_inp {f : Nat → Int32} : va_up (xe aC ad S c0) 3 (.inl (aC 0, 40, .inl f)) = xe aC ad (sR S 3 f) c0 := x_upR (by rw [x_inp]; simp [gR, sR, va_up])
theorem x_ast_brk {f : Nat → Int32} : va_up (xe aC ad S c0) 122 (.inl (aC 1, 64, .inl f)) = xe aC ad (sR S 122 f) c0 := x_upR (by rw [x_brk]; simp [gR, sR, va_up])
theorem x_ast_wat {f : Nat → Int32} : va_up (xe aC ad S c0) 123 (.inl (aC 1, 32, .inl f)) = xe aC ad (sR S 123 f) c0 := x_upR (by rw [x_wat]; simp [gR, sR, va_up])
theorem x_ast_mem {f : Nat → Int32} (h : kSt i) : va_up (xe aC ad S c0) (i + 1) (.inl (aC 0, 56, .inl f)) = xe aC ad (sR S (i + 1) f) c0 := x_upR (by rw [x_mem h]; simp [gR, sR, va_up])
theorem x_ast_pl {f : Nat → Int32} (h : kNt i) : va_up (xe aC ad S c0) (i + 1) (.inl (aC 0, 2, .inl f)) = xe aC ad (sR S (i + 1) f) c0 := x_upR (by rw [x_pl h]; simp [gR, sR, va_up])
theorem x_ast_wd {f : Nat → Int32} (h : kNt i) : va_up (xe aC ad S c0) (i + 2) (.inl (aC 0, 2, .inl f)) = xe aC ad (sR S (i + 2) f) c0 := x_upR (by rw [x_wd h]; simp [gR, sR, va_up])
end XW
end
section
theorem k_lt {i n : Nat} (h : kSt i) (hn : 124 ≤ n) : i < n := by unfold kSt at h; omega
theorem k_lt1 {i n : Nat} (h : kSt i) (hn : 124 ≤ n) : i + 1 < n := by unfold kSt at h; omega
theorem k_ltN {i n : Nat} (h : kNt i) (hn : 124 ≤ n) : i < n := by unfold kNt at h; omega
theorem k_ltN1 {i n : Nat} (h : kNt i) (hn : 124 ≤ n) : i + 1 < n := by unfold kNt at h; omega
theorem k_ltN2 {i n : Nat} (h : kNt i) (hn : 124 ≤ n) : i + 2 < n := by unfold kNt at h; omega
theorem iS_mod (k : Nat) : iS (k % 8) = iS k := by unfold iS; omega
section XR
variable {p : Program} {l : Launch} {e : Env} {R : Room} {s : State} {m : MethodId} {args : Array Value} {below : List Frame} {meth : Method} {cd : Code} {Q : State → Prop} {cells slots : Nat}
variable {cc : ByteArray} {Ts : List Cond} {own : String} {G : (Nat → Prop) → State → Prop} {D : va_G} {A : Nat → Prop} {ad : Nat → Nat} {n nL : Nat} {c : Nat → va_E} {pc : Nat} {L : List (Nat × Value)} {st : List Value} {cl : List vw_C} {tys : List (ClassId × FieldType)}
variable {aC : Nat → ClassId} {S : xS} {c0 : Nat → va_E}
theorem j_st {st' : List Value} (h : st = st') (kk : px_J p l e R s m args below meth cd D cl A ad n nL cells slots Q c pc L st') : px_J p l e R s m args below meth cd D cl A ad n nL cells slots Q c pc L st := h ▸ kk
theorem x_gen {T : xS} (kk : ∀ S' : xS, S' = T → px_J p l e R s m args below meth cd D cl A ad n nL cells slots Q (xe aC ad S' c0) pc L st) : px_J p l e R s m args below meth cd D cl A ad n nL cells slots Q (xe aC ad T c0) pc L st := kk T rfl
theorem vp_lt {x : Int32} {k : Nat} (h : vp_in x k) : x.toNatClampNeg < k := by
  unfold vp_in at h
  omega
theorem x_aald_notes (X : px_X p s m args cd cc nL Ts own G D cl tys A ad n) (hn : 124 ≤ n) {C : String} {x : Int32} (hin : vp_in x 32) (hd : decode cc pc = .ok (.aaload, 1)) (ht : tys[2]? = some (aC 2, .object C))
    (kk : px_J p l e R s m args below meth cd D cl A ad n nL cells slots Q (xe aC ad S c0) (pc + 1) L (.ref (ad (iN x.toNatClampNeg)) :: st)) : px_J p l e R s m args below meth cd D cl A ad n nL cells slots Q (xe aC ad S c0) pc L (.int x :: .ref (ad 7) :: st) := by
  refine j_aald (C := C) X 7 2 (by omega) x_notes ht hin hd ?_
  have e : va_rf ((fun q => if q < 32 then some (ad (iN q)) else none) x.toNatClampNeg) = .ref (ad (iN x.toNatClampNeg)) := by
    show va_rf (if x.toNatClampNeg < 32 then some (ad (iN x.toNatClampNeg)) else none) = _
    rw [if_pos (vp_lt hin)]
    rfl
  rw [e]
  exact kk
theorem x_aald_kept (X : px_X p s m args cd cc nL Ts own G D cl tys A ad n) (hn : 124 ≤ n) {C : String} {x : Int32} (hin : vp_in x 8) (hd : decode cc pc = .ok (.aaload, 1)) (ht : tys[3]? = some (aC 3, .object C))
    (kk : px_J p l e R s m args below meth cd D cl A ad n nL cells slots Q (xe aC ad S c0) (pc + 1) L (.ref (ad (iS (gK S x.toNatClampNeg))) :: st)) : px_J p l e R s m args below meth cd D cl A ad n nL cells slots Q (xe aC ad S c0) pc L (.int x :: .ref (ad 105) :: st) := by
  refine j_aald (C := C) X 105 3 (by omega) x_kept ht hin hd ?_
  have e : va_rf ((fun q => if q < 8 then some (ad (iS (gK S q))) else none) x.toNatClampNeg) = .ref (ad (iS (gK S x.toNatClampNeg))) := by
    show va_rf (if x.toNatClampNeg < 8 then some (ad (iS (gK S x.toNatClampNeg))) else none) = _
    rw [if_pos (vp_lt hin)]
    rfl
  rw [e]
  exact kk
theorem x_upK {j k : Nat} (hj : j < 8) : va_up (xe aC ad S c0) 105 (.inl (aC 3, 8, .inr (.inr (.inr (.inr (va_up (fun q => if q < 8 then some (ad (iS (gK S q))) else none) j (some (ad (iS k)))))))) ) = xe aC ad (sK S j k) c0 := by
  funext i
  by_cases hi : i = 105
  · subst hi
    rw [x_kept]
    have e : va_up (fun q => if q < 8 then some (ad (iS (gK S q))) else none) j (some (ad (iS k))) = fun q => if q < 8 then some (ad (iS (gK (sK S j k) q))) else none := by
      funext q
      by_cases hq : q = j
      · subst hq
        simp [va_up, hj, gK, sK, iS_mod]
      · simp [va_up, hq, gK, sK]
    simp [va_up, ← e]
  · show (if i = 105 then _ else xe aC ad S c0 i) = xe aC ad (sK S j k) c0 i
    rw [if_neg hi]
    show xc aC ad i (gI S i) (gR S i) (gK S) (gN S) (c0 i) = xc aC ad i (gI S i) (gR S i) (gK (sK S j k)) (gN S) (c0 i)
    unfold xc
    simp [hi]
theorem x_aast_kept (X : px_X p s m args cd cc nL Ts own G D cl tys A ad n) (hn : 124 ≤ n) {r : vw_C} {k ci : Nat} {vs : List Value} {x : Int32} (hin : vp_in x 8) (hd : decode cc pc = .ok (.aastore, 1)) (ht : tys[3]? = some (aC 3, .object r.1)) (hv : xe aC ad S c0 (iS k) = .inr (ci, vs)) (hc : cl[ci]? = some r)
    (kk : px_J p l e R s m args below meth cd D cl A ad n nL cells slots Q (xe aC ad (sK S x.toNatClampNeg k) c0) (pc + 1) L st) : px_J p l e R s m args below meth cd D cl A ad n nL cells slots Q (xe aC ad S c0) pc L (.ref (ad (iS k)) :: .int x :: .ref (ad 105) :: st) := by
  refine j_aast X 105 3 (iS k) ci (by omega) (k_lt (k_S k) hn) x_kept ht hv hc hin hd ?_
  rw [x_upK (vp_lt hin)]
  exact kk
theorem x_mmin (X : px_X p s m args cd cc nL Ts own G D cl tys A ad n) {index : Nat} (hm : Cond.methodLink own index Lib.Math.min.name ∈ Ts ∧ Cond.static Lib.Math.min.name ∈ Ts ∧ Cond.initialized "java/lang/Math" ∈ Ts ∧ Cond.code Lib.Math.min.name Lib.Math.min.code 2 (some .int) ∈ Ts) {x y : Int32} (hd : decode cc pc = .ok (.invokestatic index, 3))
    (hfr : 1 ≤ R.frames) (hlo : (st.map fun v => v.category).sum + 13 ≤ R.locals) (hc : cells ≤ R.cells) (hs : slots ≤ R.slots)
    (kk : px_J p l e R s m args below meth cd D cl A ad n nL cells slots Q c (pc + 3) L (.int (if y < x then y else x) :: st)) : px_J p l e R s m args below meth cd D cl A ad n nL cells slots Q c pc L (.int y :: .int x :: st) :=
  fun ls H locs h1 h2 h3 => va_mmin X.1.1 X.1.2.1 (X.1.2.2.1.trans h1.1.symm) X.1.2.2.2.1 (X.1.2.2.2.2 _ hm.1) (X.1.2.2.2.2 _ hm.2.1) (X.1.2.2.2.2 _ hm.2.2.1) (X.1.2.2.2.2 _ hm.2.2.2) hfr hlo hc hs hd (kk ls H locs h1 h2 h3)
theorem x_copy (X : px_X p s m args cd cc nL Ts own G D cl tys A ad n) {index : Nat} (hm : Cond.methodLink own index arraycopyName ∈ Ts ∧ Cond.native arraycopyName ∈ Ts ∧ Cond.static arraycopyName ∈ Ts ∧ Cond.initialized "java/lang/System" ∈ Ts) (i j : Nat) (hi : i < n) (hj : j < n) {cA : ClassId} {f g : Nat → Int32} (he : c i = .inl (cA, 56, .inl f)) (hg : c j = .inl (cA, 56, .inl g)) (ht : tys[0]? = some (cA, .int)) (hd : decode cc pc = .ok (.invokestatic index, 3))
    (hfr : 1 ≤ R.frames) (hlo : (st.map fun v => v.category).sum + (nativeFrameWords "java/lang/System" "arraycopy" 5 + 11) ≤ R.locals)
    (kk : px_J p l e R s m args below meth cd D cl A ad n nL cells slots Q (va_up c j (.inl (cA, 56, .inl (va_cpy f g 0 0 56)))) (pc + 3) L st) : px_J p l e R s m args below meth cd D cl A ad n nL cells slots Q c pc L (.int 56 :: .int 0 :: .ref (ad j) :: .int 0 :: .ref (ad i) :: st) := by
  intro ls H locs h1 h2 h3
  refine va_copyi (ty := .int) X.1.1 X.1.2.1 (X.1.2.2.1.trans h1.1.symm) X.1.2.2.2.1 (X.1.2.2.2.2 _ hm.1) (X.1.2.2.2.2 _ hm.2.1) (X.1.2.2.2.2 _ hm.2.2.1) (X.1.2.2.2.2 _ hm.2.2.2) X.2.1 h2 (px_D X.2.2.1 X.2.2.2.1) h3 i j 0 0 (by rw [px_at hi, he]) (by rw [px_at hj, hg]) ht ht rfl (by decide) (by decide) (by decide) (by decide) (by decide) (fun _ _ => rfl) hfr hlo hd (fun H1 locs1 g1 _ g3 => ?_)
  rw [px_set hj] at g1
  exact kk ls H1 locs1 h1 g1 g3
end XR
end
section
/-! what stays everywhere: links within the nest, the two static tables -/
def tNeeds (j : Nat) : Int32 := ([0, 0, 1, 1, 2, 2, 2, 2, 2, 2, 1, 2, 0, 1, 1, 0, 1, 0, 0, 0, 0] : List Int32).getD j 0
def tGrows (j : Nat) : Int32 := ([0, 1, -1, 1, 0, -1, -1, -1, -1, -1, 0, -2, 0, -1, -1, 2, 0, 1, 1, 1, 1] : List Int32).getD j 0
def gl_stat (nm : String) (f : Nat → Int32) (A : Nat → Prop) (U : State) (H : Heap) : Prop := ∃ t : Nat, va_Z "ReplayMachine$Machine" nm "[I" (.ref t) A U H ∧ va_T .int t 21 (fun j => .int (f j)) A U H
/-- a static of the JDK's that holds a reference or null, in a cell that nobody changes -/
def gl_ls (O f d : String) (A : Nat → Prop) (U : State) : Prop := (Cond.laysStatic O f d).before #[] U = true ∧ (Cond.isRef (.static O f d)).before #[] U = true ∧ ∀ c k i fd a, U.fieldFound? O f d = some (c, k, i, fd) → k.statics = some a → a < U.heap.size ∧ ¬ A a
theorem gl_ls_at {O f d : String} {A A' : Nat → Prop} {V U : State} (hv : U.vm = V.vm) (hh : ∀ a, a < V.heap.size → ¬ A a → U.heap[a]? = V.heap[a]?) (hA : ∀ q, A' q → A q) (hz : V.heap.size ≤ U.heap.size) (h : gl_ls O f d A V) : gl_ls O f d A' U := by
  obtain ⟨h1, h2, h3⟩ := h
  obtain ⟨c, k, i, fd, a, cell, hc, hf, hst, hsta, hcell, hiss, hcls, hlt, hty⟩ := Cond.laysStatic_spec h1
  obtain ⟨ha, hna⟩ := h3 c k i fd a hf hsta
  have hf' : U.fieldFound? O f d = some (c, k, i, fd) := by
    rw [← hf]
    unfold State.fieldFound?
    rw [hv]
  have hc' : U.vm.findClass O = some c := by rw [hv]; exact hc
  have hcell' : U.heap[a]? = some cell := by rw [hh a ha hna]; exact hcell
  obtain ⟨u, hu⟩ := Cond.staticRefV hf hst hsta hcell hiss h2
  refine ⟨by simp [Cond.before, Cond.holds, Cond.value, hc', hf', hst, hsta, hcell', hiss, hcls, hlt, hty], ?_, fun c2 k2 i2 fd2 a2 g1 g2 => ?_⟩
  · have he : (Term.static O f d).eval #[] U none [] U = some u.v := by
      rw [← hu]
      simp [Term.eval, State.fieldNamed?, hf', hst, hsta, hcell', hiss]
    obtain ⟨v, hv2⟩ := u
    simp only [Cond.before, Cond.holds, Cond.value, he]
    cases v <;> first | rfl | (exact absurd hv2 (by simp [Value.isRef]))
  · cases hf'.symm.trans g1
    cases hsta.symm.trans g2
    exact ⟨Nat.lt_of_lt_of_le ha hz, fun z => hna (hA a z)⟩
theorem gl_ls_vm {O f d : String} {A : Nat → Prop} {s U : State} (hW : s.WarmedH U.vm) (h : gl_ls O f d A s) : gl_ls O f d A (s.setVm U.vm) := by
  obtain ⟨h1, h2, h3⟩ := h
  refine ⟨Cond.before_shiftedFace (State.Shifted.of_warmed hW) _ rfl h1, Cond.before_shiftedFace (State.Shifted.of_warmed hW) _ rfl h2, fun c k i fd a g1 g2 => ?_⟩
  obtain ⟨c0, k0, i0, f0, a0, cell, hc, hf, hst, hsta, hcell, hiss, hcls, hlt, hty⟩ := Cond.laysStatic_spec h1
  obtain ⟨k', hi', he⟩ := State.fieldFound?_setVm hW.alike hf
  cases hi'.symm.trans g1
  have g3 : k0.statics = some a := by rw [he] at g2; exact g2
  exact h3 _ _ _ _ a hf g3
def DW : List Cond := [.declares ⟨"java/lang/RuntimeException", "<init>", "(Ljava/lang/String;)V"⟩, .declares ⟨"java/lang/Exception", "<init>", "(Ljava/lang/String;)V"⟩, .declares ⟨"java/lang/Throwable", "<init>", "(Ljava/lang/String;)V"⟩,
  .castable "java/lang/IndexOutOfBoundsException" "java/lang/IndexOutOfBoundsException", .castable "java/lang/IllegalStateException" "java/lang/IllegalStateException", .castable "java/lang/IllegalArgumentException" "java/lang/IllegalArgumentException"]
def STRS : List (Nat × String) := [(38, "no such place of the code"), (49, "the machine has run already"), (73, "fuel is 0 .. 1000"), (91, "the machine has not been at this time"), (97, "no such cell"), (127, "no such part of the state"), (132, "no such number on the stack"), (137, "no such checkpoint")]
/-- what a throw needs beside WS -/
def gl_thr (A : Nat → Prop) (U : State) : Prop := (∀ w ∈ DW, w.before #[] U = true) ∧ gl_ls "java/lang/Throwable" "UNASSIGNED_STACK" "[Ljava/lang/StackTraceElement;" A U ∧ gl_ls "java/lang/Throwable" "SUPPRESSED_SENTINEL" "Ljava/util/List;" A U ∧ (∀ q ∈ STRS, ∃ a, vk_R "ReplayMachine" q.1 q.2 a U) ∧
  ∃ c t, U.vm.findClass "java/lang/IllegalStateException" = some c ∧ U.vm.findClass "java/lang/IndexOutOfBoundsException" = some t ∧ U.vm.assignable c t = false
theorem gl_thr_mv {A A' : Nat → Prop} {s U : State} {H : Heap} {locs : List Loc} (h : gl_thr A s) (hS : va_S A s.heap H locs) (hA : ∀ q, A' q → A q) (hW : s.WarmedH U.vm) (hU : U.heap = H) : gl_thr A' U := by
  obtain ⟨h1, h2, h3, h4, c, t, h5, h6, h7⟩ := h
  have hh : ∀ a, a < (s.setVm U.vm).heap.size → ¬ A a → U.heap[a]? = (s.setVm U.vm).heap[a]? := fun a g1 g2 => by rw [hU]; exact hS.2.1 a g1 g2
  have hz : (s.setVm U.vm).heap.size ≤ U.heap.size := by rw [hU]; exact hS.1
  refine ⟨fun w hw => ?_, gl_ls_at (V := s.setVm U.vm) rfl hh hA hz (gl_ls_vm hW h2), gl_ls_at (V := s.setVm U.vm) rfl hh hA hz (gl_ls_vm hW h3), fun q hq => ?_, c, t, by rw [hW.alike.findClass]; exact h5, by rw [hW.alike.findClass]; exact h6, by rw [hW.alike.assignable]; exact h7⟩
  · have hk : w.keepsFace = true ∧ w.onTables = true := by
      revert hw w
      unfold DW
      decide +kernel
    exact va_tabs hk.2 (rfl : (s.setVm U.vm).vm = U.vm) (Cond.before_shiftedFace (State.Shifted.of_warmed hW) _ hk.1 (h1 w hw))
  · obtain ⟨a, ha⟩ := h4 q hq
    exact ⟨a, vk_R.warm hW ha⟩
theorem gl_thr_same {A : Nat → Prop} {U V : State} (hv : V.vm = U.vm) (hh : V.heap = U.heap) (h : gl_thr A U) : gl_thr A V := by
  obtain ⟨h1, h2, h3, h4, c, t, h5, h6, h7⟩ := h
  refine ⟨fun w hw => ?_, gl_ls_at hv (fun a _ _ => by rw [hh]) (fun _ z => z) (by rw [hh]; exact Nat.le_refl _) h2, gl_ls_at hv (fun a _ _ => by rw [hh]) (fun _ z => z) (by rw [hh]; exact Nat.le_refl _) h3, fun q hq => ?_, c, t, by rw [hv]; exact h5, by rw [hv]; exact h6, by rw [hv]; exact h7⟩
  · have hk : w.onTables = true := by
      revert hw w
      unfold DW
      decide +kernel
    exact va_tabs hk hv.symm (h1 w hw)
  · obtain ⟨a, ha⟩ := h4 q hq
    exact ⟨a, vk_R.same hv ha⟩
def GG (A : Nat → Prop) (U : State) : Prop :=
  va_Nw (.methodLinkNest "ReplayMachine$Machine" 49 y_RM_within "ReplayMachine") U ∧ va_Nw (.methodLinkNest "ReplayMachine$State" 32 y_RM_within "ReplayMachine") U ∧ gl_stat "NEEDS" tNeeds A U U.heap ∧ gl_stat "GROWS" tGrows A U U.heap ∧ gl_thr A U
theorem gl_Zn {C n d : String} {v : Value} {A B : Nat → Prop} {U : State} {H : Heap} (h : va_Z C n d v A U H) (hAB : ∀ q, B q → A q) : va_Z C n d v B U H := by
  obtain ⟨cf, kf, fi, f, a, cell, h1, h2, h3, h4, h5, h6, h7, h8⟩ := h
  exact ⟨cf, kf, fi, f, a, cell, h1, h2, h3, h4, h5, h6, h7, fun z => h8 (hAB a z)⟩
theorem gl_Zk {C n d : String} {v : Value} {A : Nat → Prop} {U : State} {H H1 : Heap} (h : va_Z C n d v A U H) (hq : ∀ a : Nat, a < H.size → ¬ A a → H1[a]? = H[a]?) : va_Z C n d v A U H1 := by
  obtain ⟨cf, kf, fi, f, a, cell, h1, h2, h3, h4, h5, h6, h7, h8⟩ := h
  exact ⟨cf, kf, fi, f, a, cell, h1, h2, h3, h4, by rw [hq a (Array.getElem?_eq_some_iff.mp h5).1 h8]; exact h5, h6, h7, h8⟩
theorem gl_stat_mv {nm : String} {f : Nat → Int32} {A A' : Nat → Prop} {s U : State} {H : Heap} {locs : List Loc} (h : gl_stat nm f A s s.heap) (hS : va_S A s.heap H locs) (hA : ∀ q, A' q → A q) (hv : s.vm.Alike U.vm) : gl_stat nm f A' U H := by
  obtain ⟨t, h1, h2⟩ := h
  exact ⟨t, gl_Zn (gl_Zk (va_Z.moved hv h1) hS.2.1) hA, va_T.narrow (va_T.kept (va_T.moved hv h2) hS.2.1) hA⟩
theorem GG_k : px_Gk GG := by
  refine ⟨fun A U g mk a h => ?_, fun A A' s U H locs h hS hA hW hU => ?_⟩
  · obtain ⟨h1, h2, ⟨t3, a3, b3⟩, ⟨t4, a4, b4⟩, h5⟩ := h
    exact ⟨va_Nw.same rfl rfl h1, va_Nw.same rfl rfl h2, ⟨t3, va_Z.moved (u := U) (U := U.calling g mk a) (Vm.Alike.refl U.vm) a3, va_T.moved (u := U) (U := U.calling g mk a) (Vm.Alike.refl U.vm) b3⟩, ⟨t4, va_Z.moved (u := U) (U := U.calling g mk a) (Vm.Alike.refl U.vm) a4, va_T.moved (u := U) (U := U.calling g mk a) (Vm.Alike.refl U.vm) b4⟩, gl_thr_same (U := U) (V := U.calling g mk a) rfl rfl h5⟩
  · obtain ⟨h1, h2, h3, h4, h5⟩ := h
    subst hU
    exact ⟨va_Nw.warmM hW h1, va_Nw.warmM hW h2, gl_stat_mv h3 hS hA hW.alike, gl_stat_mv h4 hS hA hW.alike, gl_thr_mv h5 hS hA hW rfl⟩
abbrev TYS (aC : Nat → ClassId) : List (ClassId × FieldType) := [(aC 0, .int), (aC 1, .boolean), (aC 2, .object "ReplayMachine$Note"), (aC 3, .object "ReplayMachine$State"), (aC 4, .long)]
section GR
variable {p : Program} {l : Launch} {e : Env} {R : Room} {s : State} {m : MethodId} {args : Array Value} {below : List Frame} {meth : Method} {cd : Code} {Q : State → Prop} {cells slots : Nat}
variable {cc : ByteArray} {Ts : List Cond} {own : String} {G : (Nat → Prop) → State → Prop} {D : va_G} {A : Nat → Prop} {ad : Nat → Nat} {n nL : Nat} {c : Nat → va_E} {pc : Nat} {L : List (Nat × Value)} {st : List Value} {cl : List vw_C} {tys : List (ClassId × FieldType)}
theorem j_L {L' : List (Nat × Value)} (h : L = L') (kk : px_J p l e R s m args below meth cd D cl A ad n nL cells slots Q c pc L' st) : px_J p l e R s m args below meth cd D cl A ad n nL cells slots Q c pc L st := h ▸ kk
theorem z_L {L' : List (Nat × Value)} (h : L = L') (kk : px_Z p l e R s m args below meth cd nL Q pc L' st) : px_Z p l e R s m args below meth cd nL Q pc L st := h ▸ kk
theorem z_st {st' : List Value} (h : st = st') (kk : px_Z p l e R s m args below meth cd nL Q pc L st') : px_Z p l e R s m args below meth cd nL Q pc L st := h ▸ kk
theorem j_gets (X : px_X p s m args cd cc nL Ts own G D cl tys A ad n) {nm d : String} {v : Value} {index : Nat} (hZ : va_Z own nm d v A s s.heap) (hl : Cond.fieldLink own index own nm d ∈ Ts) (hd : decode cc pc = .ok (.getstatic index, 3))
    (kk : px_J p l e R s m args below meth cd D cl A ad n nL cells slots Q c (pc + 3) L (v :: st)) : px_J p l e R s m args below meth cd D cl A ad n nL cells slots Q c pc L st :=
  fun ls H locs h1 h2 h3 => va_gets X.1.1 X.1.2.1 hZ h3 X.1.2.2.2.1 (X.1.2.2.2.2 _ hl) (fun _ h => h) hd (kk ls H locs h1 h2 h3)
theorem j_ti (X : px_X p s m args cd cc nL Ts own G D cl tys A ad n) {t N : Nat} {f : Nat → Int32} (hT : va_T .int t N (fun j => .int (f j)) A s s.heap) {x : Int32} (hin : vp_in x N) (hd : decode cc pc = .ok (.iaload, 1))
    (kk : px_J p l e R s m args below meth cd D cl A ad n nL cells slots Q c (pc + 1) L (.int (f x.toNatClampNeg) :: st)) : px_J p l e R s m args below meth cd D cl A ad n nL cells slots Q c pc L (.int x :: .ref t :: st) :=
  fun ls H locs h1 h2 h3 => va_ti X.1.1 X.1.2.1 hT h3 hin rfl hd (kk ls H locs h1 h2 h3)
end GR
def sZ (S : xS) (i : Nat) (j x : Int32) : xS := sR S i (upd (gR S i) j.toNatClampNeg (vp_nar .boolean x))
end
section
theorem d_RM_init_0 : decode b_RM_init 0 = .ok (.aload_n 0, 1) := by decide +kernel
theorem d_RM_init_1 : decode b_RM_init 1 = .ok (.invokespecial 3, 3) := by decide +kernel
theorem d_RM_init_4 : decode b_RM_init 4 = .ok (.aload_n 0, 1) := by decide +kernel
theorem d_RM_init_5 : decode b_RM_init 5 = .ok (.new 9, 3) := by decide +kernel
theorem d_RM_init_8 : decode b_RM_init 8 = .ok (.dup, 1) := by decide +kernel
theorem d_RM_init_9 : decode b_RM_init 9 = .ok (.iload_n 1, 1) := by decide +kernel
theorem d_RM_init_10 : decode b_RM_init 10 = .ok (.invokespecial 11, 3) := by decide +kernel
theorem d_RM_init_13 : decode b_RM_init 13 = .ok (.putfield 14, 3) := by decide +kernel
theorem d_RM_init_16 : decode b_RM_init 16 = .ok (.aload_n 0, 1) := by decide +kernel
theorem d_RM_init_17 : decode b_RM_init 17 = .ok (.new 18, 3) := by decide +kernel
theorem d_RM_init_20 : decode b_RM_init 20 = .ok (.dup, 1) := by decide +kernel
theorem d_RM_init_21 : decode b_RM_init 21 = .ok (.iload_n 1, 1) := by decide +kernel
theorem d_RM_init_22 : decode b_RM_init 22 = .ok (.invokespecial 20, 3) := by decide +kernel
theorem d_RM_init_25 : decode b_RM_init 25 = .ok (.putfield 21, 3) := by decide +kernel
theorem d_RM_init_28 : decode b_RM_init 28 = .ok (.aload_n 0, 1) := by decide +kernel
theorem d_RM_init_29 : decode b_RM_init 29 = .ok (.bipush 64, 2) := by decide +kernel
theorem d_RM_init_31 : decode b_RM_init 31 = .ok (.newarray .boolean, 2) := by decide +kernel
theorem d_RM_init_33 : decode b_RM_init 33 = .ok (.putfield 25, 3) := by decide +kernel
theorem d_RM_init_36 : decode b_RM_init 36 = .ok (.aload_n 0, 1) := by decide +kernel
theorem d_RM_init_37 : decode b_RM_init 37 = .ok (.bipush 32, 2) := by decide +kernel
theorem d_RM_init_39 : decode b_RM_init 39 = .ok (.newarray .boolean, 2) := by decide +kernel
theorem d_RM_init_41 : decode b_RM_init 41 = .ok (.putfield 29, 3) := by decide +kernel
theorem d_RM_init_44 : decode b_RM_init 44 = .ok (.return_, 1) := by decide +kernel
theorem d_RM_poke_0 : decode b_RM_poke 0 = .ok (.iload_n 1, 1) := by decide +kernel
theorem d_RM_poke_1 : decode b_RM_poke 1 = .ok (.bipush 64, 2) := by decide +kernel
theorem d_RM_poke_3 : decode b_RM_poke 3 = .ok (.invokestatic 32, 3) := by decide +kernel
theorem d_RM_poke_6 : decode b_RM_poke 6 = .ok (.ifCond .ne 13, 3) := by decide +kernel
theorem d_RM_poke_9 : decode b_RM_poke 9 = .ok (.new 36, 3) := by decide +kernel
theorem d_RM_poke_12 : decode b_RM_poke 12 = .ok (.dup, 1) := by decide +kernel
theorem d_RM_poke_13 : decode b_RM_poke 13 = .ok (.ldc 38, 2) := by decide +kernel
theorem d_RM_poke_15 : decode b_RM_poke 15 = .ok (.invokespecial 40, 3) := by decide +kernel
theorem d_RM_poke_18 : decode b_RM_poke 18 = .ok (.athrow, 1) := by decide +kernel
theorem d_RM_poke_19 : decode b_RM_poke 19 = .ok (.aload_n 0, 1) := by decide +kernel
theorem d_RM_poke_20 : decode b_RM_poke 20 = .ok (.getfield 43, 3) := by decide +kernel
theorem d_RM_poke_23 : decode b_RM_poke 23 = .ok (.ifCond .le 13, 3) := by decide +kernel
theorem d_RM_poke_26 : decode b_RM_poke 26 = .ok (.new 47, 3) := by decide +kernel
theorem d_RM_poke_29 : decode b_RM_poke 29 = .ok (.dup, 1) := by decide +kernel
theorem d_RM_poke_30 : decode b_RM_poke 30 = .ok (.ldc 49, 2) := by decide +kernel
theorem d_RM_poke_32 : decode b_RM_poke 32 = .ok (.invokespecial 51, 3) := by decide +kernel
theorem d_RM_poke_35 : decode b_RM_poke 35 = .ok (.athrow, 1) := by decide +kernel
theorem d_RM_poke_36 : decode b_RM_poke 36 = .ok (.aload_n 0, 1) := by decide +kernel
theorem d_RM_poke_37 : decode b_RM_poke 37 = .ok (.getfield 14, 3) := by decide +kernel
theorem d_RM_poke_40 : decode b_RM_poke 40 = .ok (.getfield 52, 3) := by decide +kernel
theorem d_RM_poke_43 : decode b_RM_poke 43 = .ok (.iload_n 1, 1) := by decide +kernel
theorem d_RM_poke_44 : decode b_RM_poke 44 = .ok (.iload_n 2, 1) := by decide +kernel
theorem d_RM_poke_45 : decode b_RM_poke 45 = .ok (.iastore, 1) := by decide +kernel
theorem d_RM_poke_46 : decode b_RM_poke 46 = .ok (.return_, 1) := by decide +kernel
theorem d_RM_input_0 : decode b_RM_input 0 = .ok (.aload_n 0, 1) := by decide +kernel
theorem d_RM_input_1 : decode b_RM_input 1 = .ok (.getfield 14, 3) := by decide +kernel
theorem d_RM_input_4 : decode b_RM_input 4 = .ok (.iload_n 1, 1) := by decide +kernel
theorem d_RM_input_5 : decode b_RM_input 5 = .ok (.invokevirtual 56, 3) := by decide +kernel
theorem d_RM_input_8 : decode b_RM_input 8 = .ok (.ireturn, 1) := by decide +kernel
theorem d_RM_step_0 : decode b_RM_step 0 = .ok (.aload_n 0, 1) := by decide +kernel
theorem d_RM_step_1 : decode b_RM_step 1 = .ok (.iconst 0, 1) := by decide +kernel
theorem d_RM_step_2 : decode b_RM_step 2 = .ok (.putfield 60, 3) := by decide +kernel
theorem d_RM_step_5 : decode b_RM_step 5 = .ok (.aload_n 0, 1) := by decide +kernel
theorem d_RM_step_6 : decode b_RM_step 6 = .ok (.invokevirtual 63, 3) := by decide +kernel
theorem d_RM_step_9 : decode b_RM_step 9 = .ok (.ireturn, 1) := by decide +kernel
theorem d_RM_forth_0 : decode b_RM_forth 0 = .ok (.iload_n 1, 1) := by decide +kernel
theorem d_RM_forth_1 : decode b_RM_forth 1 = .ok (.invokestatic 67, 3) := by decide +kernel
theorem d_RM_forth_4 : decode b_RM_forth 4 = .ok (.ifCond .ne 13, 3) := by decide +kernel
theorem d_RM_forth_7 : decode b_RM_forth 7 = .ok (.new 71, 3) := by decide +kernel
theorem d_RM_forth_10 : decode b_RM_forth 10 = .ok (.dup, 1) := by decide +kernel
theorem d_RM_forth_11 : decode b_RM_forth 11 = .ok (.ldc 73, 2) := by decide +kernel
theorem d_RM_forth_13 : decode b_RM_forth 13 = .ok (.invokespecial 75, 3) := by decide +kernel
theorem d_RM_forth_16 : decode b_RM_forth 16 = .ok (.athrow, 1) := by decide +kernel
theorem d_RM_forth_17 : decode b_RM_forth 17 = .ok (.aload_n 0, 1) := by decide +kernel
theorem d_RM_forth_18 : decode b_RM_forth 18 = .ok (.iconst 0, 1) := by decide +kernel
theorem d_RM_forth_19 : decode b_RM_forth 19 = .ok (.putfield 60, 3) := by decide +kernel
theorem d_RM_forth_22 : decode b_RM_forth 22 = .ok (.iconst 0, 1) := by decide +kernel
theorem d_RM_forth_23 : decode b_RM_forth 23 = .ok (.istore_n 2, 1) := by decide +kernel
theorem d_RM_forth_24 : decode b_RM_forth 24 = .ok (.iload_n 2, 1) := by decide +kernel
theorem d_RM_forth_25 : decode b_RM_forth 25 = .ok (.iload_n 1, 1) := by decide +kernel
theorem d_RM_forth_26 : decode b_RM_forth 26 = .ok (.if_icmp .ge 29, 3) := by decide +kernel
theorem d_RM_forth_29 : decode b_RM_forth 29 = .ok (.aload_n 0, 1) := by decide +kernel
theorem d_RM_forth_30 : decode b_RM_forth 30 = .ok (.invokevirtual 63, 3) := by decide +kernel
theorem d_RM_forth_33 : decode b_RM_forth 33 = .ok (.istore_n 3, 1) := by decide +kernel
theorem d_RM_forth_34 : decode b_RM_forth 34 = .ok (.iload_n 3, 1) := by decide +kernel
theorem d_RM_forth_35 : decode b_RM_forth 35 = .ok (.ifCond .ne 8, 3) := by decide +kernel
theorem d_RM_forth_38 : decode b_RM_forth 38 = .ok (.aload_n 0, 1) := by decide +kernel
theorem d_RM_forth_39 : decode b_RM_forth 39 = .ok (.invokevirtual 76, 3) := by decide +kernel
theorem d_RM_forth_42 : decode b_RM_forth 42 = .ok (.istore_n 3, 1) := by decide +kernel
theorem d_RM_forth_43 : decode b_RM_forth 43 = .ok (.iload_n 3, 1) := by decide +kernel
theorem d_RM_forth_44 : decode b_RM_forth 44 = .ok (.ifCond .eq 5, 3) := by decide +kernel
theorem d_RM_forth_47 : decode b_RM_forth 47 = .ok (.iload_n 3, 1) := by decide +kernel
theorem d_RM_forth_48 : decode b_RM_forth 48 = .ok (.ireturn, 1) := by decide +kernel
theorem d_RM_forth_49 : decode b_RM_forth 49 = .ok (.iinc 2 1, 3) := by decide +kernel
theorem d_RM_forth_52 : decode b_RM_forth 52 = .ok (.goto (-28), 3) := by decide +kernel
theorem d_RM_forth_55 : decode b_RM_forth 55 = .ok (.bipush 11, 2) := by decide +kernel
theorem d_RM_forth_57 : decode b_RM_forth 57 = .ok (.ireturn, 1) := by decide +kernel
theorem d_RM_back_0 : decode b_RM_back 0 = .ok (.iload_n 1, 1) := by decide +kernel
theorem d_RM_back_1 : decode b_RM_back 1 = .ok (.invokestatic 67, 3) := by decide +kernel
theorem d_RM_back_4 : decode b_RM_back 4 = .ok (.ifCond .ne 13, 3) := by decide +kernel
theorem d_RM_back_7 : decode b_RM_back 7 = .ok (.new 71, 3) := by decide +kernel
theorem d_RM_back_10 : decode b_RM_back 10 = .ok (.dup, 1) := by decide +kernel
theorem d_RM_back_11 : decode b_RM_back 11 = .ok (.ldc 73, 2) := by decide +kernel
theorem d_RM_back_13 : decode b_RM_back 13 = .ok (.invokespecial 75, 3) := by decide +kernel
theorem d_RM_back_16 : decode b_RM_back 16 = .ok (.athrow, 1) := by decide +kernel
theorem d_RM_back_17 : decode b_RM_back 17 = .ok (.aload_n 0, 1) := by decide +kernel
theorem d_RM_back_18 : decode b_RM_back 18 = .ok (.iconst 0, 1) := by decide +kernel
theorem d_RM_back_19 : decode b_RM_back 19 = .ok (.putfield 60, 3) := by decide +kernel
theorem d_RM_back_22 : decode b_RM_back 22 = .ok (.iconst 0, 1) := by decide +kernel
theorem d_RM_back_23 : decode b_RM_back 23 = .ok (.istore_n 2, 1) := by decide +kernel
theorem d_RM_back_24 : decode b_RM_back 24 = .ok (.iload_n 2, 1) := by decide +kernel
theorem d_RM_back_25 : decode b_RM_back 25 = .ok (.iload_n 1, 1) := by decide +kernel
theorem d_RM_back_26 : decode b_RM_back 26 = .ok (.if_icmp .ge 49, 3) := by decide +kernel
theorem d_RM_back_29 : decode b_RM_back 29 = .ok (.aload_n 0, 1) := by decide +kernel
theorem d_RM_back_30 : decode b_RM_back 30 = .ok (.getfield 14, 3) := by decide +kernel
theorem d_RM_back_33 : decode b_RM_back 33 = .ok (.getfield 79, 3) := by decide +kernel
theorem d_RM_back_36 : decode b_RM_back 36 = .ok (.getfield 83, 3) := by decide +kernel
theorem d_RM_back_39 : decode b_RM_back 39 = .ok (.ifCond .le 36, 3) := by decide +kernel
theorem d_RM_back_42 : decode b_RM_back 42 = .ok (.aload_n 0, 1) := by decide +kernel
theorem d_RM_back_43 : decode b_RM_back 43 = .ok (.aload_n 0, 1) := by decide +kernel
theorem d_RM_back_44 : decode b_RM_back 44 = .ok (.getfield 14, 3) := by decide +kernel
theorem d_RM_back_47 : decode b_RM_back 47 = .ok (.getfield 79, 3) := by decide +kernel
theorem d_RM_back_50 : decode b_RM_back 50 = .ok (.getfield 83, 3) := by decide +kernel
theorem d_RM_back_53 : decode b_RM_back 53 = .ok (.iconst 1, 1) := by decide +kernel
theorem d_RM_back_54 : decode b_RM_back 54 = .ok (.isub, 1) := by decide +kernel
theorem d_RM_back_55 : decode b_RM_back 55 = .ok (.invokevirtual 88, 3) := by decide +kernel
theorem d_RM_back_58 : decode b_RM_back 58 = .ok (.aload_n 0, 1) := by decide +kernel
theorem d_RM_back_59 : decode b_RM_back 59 = .ok (.invokevirtual 76, 3) := by decide +kernel
theorem d_RM_back_62 : decode b_RM_back 62 = .ok (.istore_n 3, 1) := by decide +kernel
theorem d_RM_back_63 : decode b_RM_back 63 = .ok (.iload_n 3, 1) := by decide +kernel
theorem d_RM_back_64 : decode b_RM_back 64 = .ok (.ifCond .eq 5, 3) := by decide +kernel
theorem d_RM_back_67 : decode b_RM_back 67 = .ok (.iload_n 3, 1) := by decide +kernel
theorem d_RM_back_68 : decode b_RM_back 68 = .ok (.ireturn, 1) := by decide +kernel
theorem d_RM_back_69 : decode b_RM_back 69 = .ok (.iinc 2 1, 3) := by decide +kernel
theorem d_RM_back_72 : decode b_RM_back 72 = .ok (.goto (-48), 3) := by decide +kernel
theorem d_RM_back_75 : decode b_RM_back 75 = .ok (.aload_n 0, 1) := by decide +kernel
theorem d_RM_back_76 : decode b_RM_back 76 = .ok (.getfield 14, 3) := by decide +kernel
theorem d_RM_back_79 : decode b_RM_back 79 = .ok (.getfield 79, 3) := by decide +kernel
theorem d_RM_back_82 : decode b_RM_back 82 = .ok (.getfield 83, 3) := by decide +kernel
theorem d_RM_back_85 : decode b_RM_back 85 = .ok (.ifCond .ne 8, 3) := by decide +kernel
theorem d_RM_back_88 : decode b_RM_back 88 = .ok (.bipush 12, 2) := by decide +kernel
theorem d_RM_back_90 : decode b_RM_back 90 = .ok (.goto 5, 3) := by decide +kernel
theorem d_RM_back_93 : decode b_RM_back 93 = .ok (.bipush 11, 2) := by decide +kernel
theorem d_RM_back_95 : decode b_RM_back 95 = .ok (.ireturn, 1) := by decide +kernel
theorem d_RM_go_0 : decode b_RM_go 0 = .ok (.iload_n 1, 1) := by decide +kernel
theorem d_RM_go_1 : decode b_RM_go 1 = .ok (.ifCond .lt 11, 3) := by decide +kernel
theorem d_RM_go_4 : decode b_RM_go 4 = .ok (.iload_n 1, 1) := by decide +kernel
theorem d_RM_go_5 : decode b_RM_go 5 = .ok (.aload_n 0, 1) := by decide +kernel
theorem d_RM_go_6 : decode b_RM_go 6 = .ok (.getfield 43, 3) := by decide +kernel
theorem d_RM_go_9 : decode b_RM_go 9 = .ok (.if_icmp .le 13, 3) := by decide +kernel
theorem d_RM_go_12 : decode b_RM_go 12 = .ok (.new 71, 3) := by decide +kernel
theorem d_RM_go_15 : decode b_RM_go 15 = .ok (.dup, 1) := by decide +kernel
theorem d_RM_go_16 : decode b_RM_go 16 = .ok (.ldc 91, 2) := by decide +kernel
theorem d_RM_go_18 : decode b_RM_go 18 = .ok (.invokespecial 75, 3) := by decide +kernel
theorem d_RM_go_21 : decode b_RM_go 21 = .ok (.athrow, 1) := by decide +kernel
theorem d_RM_go_22 : decode b_RM_go 22 = .ok (.aload_n 0, 1) := by decide +kernel
theorem d_RM_go_23 : decode b_RM_go 23 = .ok (.iconst 0, 1) := by decide +kernel
theorem d_RM_go_24 : decode b_RM_go 24 = .ok (.putfield 60, 3) := by decide +kernel
theorem d_RM_go_27 : decode b_RM_go 27 = .ok (.aload_n 0, 1) := by decide +kernel
theorem d_RM_go_28 : decode b_RM_go 28 = .ok (.iload_n 1, 1) := by decide +kernel
theorem d_RM_go_29 : decode b_RM_go 29 = .ok (.invokevirtual 88, 3) := by decide +kernel
theorem d_RM_go_32 : decode b_RM_go 32 = .ok (.return_, 1) := by decide +kernel
theorem d_RM_setBreak_0 : decode b_RM_setBreak 0 = .ok (.iload_n 1, 1) := by decide +kernel
theorem d_RM_setBreak_1 : decode b_RM_setBreak 1 = .ok (.bipush 64, 2) := by decide +kernel
theorem d_RM_setBreak_3 : decode b_RM_setBreak 3 = .ok (.invokestatic 32, 3) := by decide +kernel
theorem d_RM_setBreak_6 : decode b_RM_setBreak 6 = .ok (.ifCond .ne 13, 3) := by decide +kernel
theorem d_RM_setBreak_9 : decode b_RM_setBreak 9 = .ok (.new 36, 3) := by decide +kernel
theorem d_RM_setBreak_12 : decode b_RM_setBreak 12 = .ok (.dup, 1) := by decide +kernel
theorem d_RM_setBreak_13 : decode b_RM_setBreak 13 = .ok (.ldc 38, 2) := by decide +kernel
theorem d_RM_setBreak_15 : decode b_RM_setBreak 15 = .ok (.invokespecial 40, 3) := by decide +kernel
theorem d_RM_setBreak_18 : decode b_RM_setBreak 18 = .ok (.athrow, 1) := by decide +kernel
theorem d_RM_setBreak_19 : decode b_RM_setBreak 19 = .ok (.aload_n 0, 1) := by decide +kernel
theorem d_RM_setBreak_20 : decode b_RM_setBreak 20 = .ok (.getfield 25, 3) := by decide +kernel
theorem d_RM_setBreak_23 : decode b_RM_setBreak 23 = .ok (.iload_n 1, 1) := by decide +kernel
theorem d_RM_setBreak_24 : decode b_RM_setBreak 24 = .ok (.iconst 1, 1) := by decide +kernel
theorem d_RM_setBreak_25 : decode b_RM_setBreak 25 = .ok (.invokestatic 93, 3) := by decide +kernel
theorem d_RM_setBreak_28 : decode b_RM_setBreak 28 = .ok (.ireturn, 1) := by decide +kernel
theorem d_RM_clearBreak_0 : decode b_RM_clearBreak 0 = .ok (.iload_n 1, 1) := by decide +kernel
theorem d_RM_clearBreak_1 : decode b_RM_clearBreak 1 = .ok (.bipush 64, 2) := by decide +kernel
theorem d_RM_clearBreak_3 : decode b_RM_clearBreak 3 = .ok (.invokestatic 32, 3) := by decide +kernel
theorem d_RM_clearBreak_6 : decode b_RM_clearBreak 6 = .ok (.ifCond .ne 13, 3) := by decide +kernel
theorem d_RM_clearBreak_9 : decode b_RM_clearBreak 9 = .ok (.new 36, 3) := by decide +kernel
theorem d_RM_clearBreak_12 : decode b_RM_clearBreak 12 = .ok (.dup, 1) := by decide +kernel
theorem d_RM_clearBreak_13 : decode b_RM_clearBreak 13 = .ok (.ldc 38, 2) := by decide +kernel
theorem d_RM_clearBreak_15 : decode b_RM_clearBreak 15 = .ok (.invokespecial 40, 3) := by decide +kernel
theorem d_RM_clearBreak_18 : decode b_RM_clearBreak 18 = .ok (.athrow, 1) := by decide +kernel
theorem d_RM_clearBreak_19 : decode b_RM_clearBreak 19 = .ok (.aload_n 0, 1) := by decide +kernel
theorem d_RM_clearBreak_20 : decode b_RM_clearBreak 20 = .ok (.getfield 25, 3) := by decide +kernel
theorem d_RM_clearBreak_23 : decode b_RM_clearBreak 23 = .ok (.iload_n 1, 1) := by decide +kernel
theorem d_RM_clearBreak_24 : decode b_RM_clearBreak 24 = .ok (.iconst 0, 1) := by decide +kernel
theorem d_RM_clearBreak_25 : decode b_RM_clearBreak 25 = .ok (.invokestatic 93, 3) := by decide +kernel
theorem d_RM_clearBreak_28 : decode b_RM_clearBreak 28 = .ok (.ireturn, 1) := by decide +kernel
theorem d_RM_setWatch_0 : decode b_RM_setWatch 0 = .ok (.iload_n 1, 1) := by decide +kernel
theorem d_RM_setWatch_1 : decode b_RM_setWatch 1 = .ok (.bipush 32, 2) := by decide +kernel
theorem d_RM_setWatch_3 : decode b_RM_setWatch 3 = .ok (.invokestatic 32, 3) := by decide +kernel
theorem d_RM_setWatch_6 : decode b_RM_setWatch 6 = .ok (.ifCond .ne 13, 3) := by decide +kernel
theorem d_RM_setWatch_9 : decode b_RM_setWatch 9 = .ok (.new 36, 3) := by decide +kernel
theorem d_RM_setWatch_12 : decode b_RM_setWatch 12 = .ok (.dup, 1) := by decide +kernel
theorem d_RM_setWatch_13 : decode b_RM_setWatch 13 = .ok (.ldc 97, 2) := by decide +kernel
theorem d_RM_setWatch_15 : decode b_RM_setWatch 15 = .ok (.invokespecial 40, 3) := by decide +kernel
theorem d_RM_setWatch_18 : decode b_RM_setWatch 18 = .ok (.athrow, 1) := by decide +kernel
theorem d_RM_setWatch_19 : decode b_RM_setWatch 19 = .ok (.aload_n 0, 1) := by decide +kernel
theorem d_RM_setWatch_20 : decode b_RM_setWatch 20 = .ok (.getfield 29, 3) := by decide +kernel
theorem d_RM_setWatch_23 : decode b_RM_setWatch 23 = .ok (.iload_n 1, 1) := by decide +kernel
theorem d_RM_setWatch_24 : decode b_RM_setWatch 24 = .ok (.iconst 1, 1) := by decide +kernel
theorem d_RM_setWatch_25 : decode b_RM_setWatch 25 = .ok (.invokestatic 93, 3) := by decide +kernel
theorem d_RM_setWatch_28 : decode b_RM_setWatch 28 = .ok (.ireturn, 1) := by decide +kernel
theorem d_RM_clearWatch_0 : decode b_RM_clearWatch 0 = .ok (.iload_n 1, 1) := by decide +kernel
theorem d_RM_clearWatch_1 : decode b_RM_clearWatch 1 = .ok (.bipush 32, 2) := by decide +kernel
theorem d_RM_clearWatch_3 : decode b_RM_clearWatch 3 = .ok (.invokestatic 32, 3) := by decide +kernel
theorem d_RM_clearWatch_6 : decode b_RM_clearWatch 6 = .ok (.ifCond .ne 13, 3) := by decide +kernel
theorem d_RM_clearWatch_9 : decode b_RM_clearWatch 9 = .ok (.new 36, 3) := by decide +kernel
theorem d_RM_clearWatch_12 : decode b_RM_clearWatch 12 = .ok (.dup, 1) := by decide +kernel
theorem d_RM_clearWatch_13 : decode b_RM_clearWatch 13 = .ok (.ldc 97, 2) := by decide +kernel
theorem d_RM_clearWatch_15 : decode b_RM_clearWatch 15 = .ok (.invokespecial 40, 3) := by decide +kernel
theorem d_RM_clearWatch_18 : decode b_RM_clearWatch 18 = .ok (.athrow, 1) := by decide +kernel
theorem d_RM_clearWatch_19 : decode b_RM_clearWatch 19 = .ok (.aload_n 0, 1) := by decide +kernel
theorem d_RM_clearWatch_20 : decode b_RM_clearWatch 20 = .ok (.getfield 29, 3) := by decide +kernel
theorem d_RM_clearWatch_23 : decode b_RM_clearWatch 23 = .ok (.iload_n 1, 1) := by decide +kernel
theorem d_RM_clearWatch_24 : decode b_RM_clearWatch 24 = .ok (.iconst 0, 1) := by decide +kernel
theorem d_RM_clearWatch_25 : decode b_RM_clearWatch 25 = .ok (.invokestatic 93, 3) := by decide +kernel
theorem d_RM_clearWatch_28 : decode b_RM_clearWatch 28 = .ok (.ireturn, 1) := by decide +kernel
theorem d_RM_state_0 : decode b_RM_state 0 = .ok (.aload_n 0, 1) := by decide +kernel
theorem d_RM_state_1 : decode b_RM_state 1 = .ok (.getfield 14, 3) := by decide +kernel
theorem d_RM_state_4 : decode b_RM_state 4 = .ok (.getfield 79, 3) := by decide +kernel
theorem d_RM_state_7 : decode b_RM_state 7 = .ok (.astore_n 2, 1) := by decide +kernel
theorem d_RM_state_8 : decode b_RM_state 8 = .ok (.iload_n 1, 1) := by decide +kernel
theorem d_RM_state_9 : decode b_RM_state 9 = .ok (.tableswitch 126 0 10 #[59, 64, 69, 74, 79, 84, 89, 94, 99, 110, 118], 59) := by decide +kernel
theorem d_RM_state_68 : decode b_RM_state 68 = .ok (.aload_n 2, 1) := by decide +kernel
theorem d_RM_state_69 : decode b_RM_state 69 = .ok (.getfield 83, 3) := by decide +kernel
theorem d_RM_state_72 : decode b_RM_state 72 = .ok (.ireturn, 1) := by decide +kernel
theorem d_RM_state_73 : decode b_RM_state 73 = .ok (.aload_n 0, 1) := by decide +kernel
theorem d_RM_state_74 : decode b_RM_state 74 = .ok (.getfield 43, 3) := by decide +kernel
theorem d_RM_state_77 : decode b_RM_state 77 = .ok (.ireturn, 1) := by decide +kernel
theorem d_RM_state_78 : decode b_RM_state 78 = .ok (.aload_n 2, 1) := by decide +kernel
theorem d_RM_state_79 : decode b_RM_state 79 = .ok (.getfield 99, 3) := by decide +kernel
theorem d_RM_state_82 : decode b_RM_state 82 = .ok (.ireturn, 1) := by decide +kernel
theorem d_RM_state_83 : decode b_RM_state 83 = .ok (.aload_n 2, 1) := by decide +kernel
theorem d_RM_state_84 : decode b_RM_state 84 = .ok (.getfield 102, 3) := by decide +kernel
theorem d_RM_state_87 : decode b_RM_state 87 = .ok (.ireturn, 1) := by decide +kernel
theorem d_RM_state_88 : decode b_RM_state 88 = .ok (.aload_n 2, 1) := by decide +kernel
theorem d_RM_state_89 : decode b_RM_state 89 = .ok (.getfield 105, 3) := by decide +kernel
theorem d_RM_state_92 : decode b_RM_state 92 = .ok (.ireturn, 1) := by decide +kernel
theorem d_RM_state_93 : decode b_RM_state 93 = .ok (.aload_n 2, 1) := by decide +kernel
theorem d_RM_state_94 : decode b_RM_state 94 = .ok (.getfield 108, 3) := by decide +kernel
theorem d_RM_state_97 : decode b_RM_state 97 = .ok (.ireturn, 1) := by decide +kernel
theorem d_RM_state_98 : decode b_RM_state 98 = .ok (.aload_n 2, 1) := by decide +kernel
theorem d_RM_state_99 : decode b_RM_state 99 = .ok (.getfield 111, 3) := by decide +kernel
theorem d_RM_state_102 : decode b_RM_state 102 = .ok (.ireturn, 1) := by decide +kernel
theorem d_RM_state_103 : decode b_RM_state 103 = .ok (.aload_n 0, 1) := by decide +kernel
theorem d_RM_state_104 : decode b_RM_state 104 = .ok (.getfield 60, 3) := by decide +kernel
theorem d_RM_state_107 : decode b_RM_state 107 = .ok (.ireturn, 1) := by decide +kernel
theorem d_RM_state_108 : decode b_RM_state 108 = .ok (.aload_n 0, 1) := by decide +kernel
theorem d_RM_state_109 : decode b_RM_state 109 = .ok (.getfield 14, 3) := by decide +kernel
theorem d_RM_state_112 : decode b_RM_state 112 = .ok (.getfield 114, 3) := by decide +kernel
theorem d_RM_state_115 : decode b_RM_state 115 = .ok (.getfield 118, 3) := by decide +kernel
theorem d_RM_state_118 : decode b_RM_state 118 = .ok (.ireturn, 1) := by decide +kernel
theorem d_RM_state_119 : decode b_RM_state 119 = .ok (.aload_n 0, 1) := by decide +kernel
theorem d_RM_state_120 : decode b_RM_state 120 = .ok (.getfield 21, 3) := by decide +kernel
theorem d_RM_state_123 : decode b_RM_state 123 = .ok (.getfield 123, 3) := by decide +kernel
theorem d_RM_state_126 : decode b_RM_state 126 = .ok (.ireturn, 1) := by decide +kernel
theorem d_RM_state_127 : decode b_RM_state 127 = .ok (.aload_n 0, 1) := by decide +kernel
theorem d_RM_state_128 : decode b_RM_state 128 = .ok (.getfield 21, 3) := by decide +kernel
theorem d_RM_state_131 : decode b_RM_state 131 = .ok (.getfield 126, 3) := by decide +kernel
theorem d_RM_state_134 : decode b_RM_state 134 = .ok (.ireturn, 1) := by decide +kernel
theorem d_RM_state_135 : decode b_RM_state 135 = .ok (.new 36, 3) := by decide +kernel
theorem d_RM_state_138 : decode b_RM_state 138 = .ok (.dup, 1) := by decide +kernel
theorem d_RM_state_139 : decode b_RM_state 139 = .ok (.ldc 127, 2) := by decide +kernel
theorem d_RM_state_141 : decode b_RM_state 141 = .ok (.invokespecial 40, 3) := by decide +kernel
theorem d_RM_state_144 : decode b_RM_state 144 = .ok (.athrow, 1) := by decide +kernel
theorem d_RM_cell_0 : decode b_RM_cell 0 = .ok (.iload_n 1, 1) := by decide +kernel
theorem d_RM_cell_1 : decode b_RM_cell 1 = .ok (.bipush 32, 2) := by decide +kernel
theorem d_RM_cell_3 : decode b_RM_cell 3 = .ok (.invokestatic 32, 3) := by decide +kernel
theorem d_RM_cell_6 : decode b_RM_cell 6 = .ok (.ifCond .eq 18, 3) := by decide +kernel
theorem d_RM_cell_9 : decode b_RM_cell 9 = .ok (.aload_n 0, 1) := by decide +kernel
theorem d_RM_cell_10 : decode b_RM_cell 10 = .ok (.getfield 14, 3) := by decide +kernel
theorem d_RM_cell_13 : decode b_RM_cell 13 = .ok (.getfield 79, 3) := by decide +kernel
theorem d_RM_cell_16 : decode b_RM_cell 16 = .ok (.getfield 129, 3) := by decide +kernel
theorem d_RM_cell_19 : decode b_RM_cell 19 = .ok (.iload_n 1, 1) := by decide +kernel
theorem d_RM_cell_20 : decode b_RM_cell 20 = .ok (.iaload, 1) := by decide +kernel
theorem d_RM_cell_21 : decode b_RM_cell 21 = .ok (.goto 4, 3) := by decide +kernel
theorem d_RM_cell_24 : decode b_RM_cell 24 = .ok (.iconst 0, 1) := by decide +kernel
theorem d_RM_cell_25 : decode b_RM_cell 25 = .ok (.ireturn, 1) := by decide +kernel
theorem d_RM_stack_0 : decode b_RM_stack 0 = .ok (.iload_n 1, 1) := by decide +kernel
theorem d_RM_stack_1 : decode b_RM_stack 1 = .ok (.aload_n 0, 1) := by decide +kernel
theorem d_RM_stack_2 : decode b_RM_stack 2 = .ok (.getfield 14, 3) := by decide +kernel
theorem d_RM_stack_5 : decode b_RM_stack 5 = .ok (.getfield 79, 3) := by decide +kernel
theorem d_RM_stack_8 : decode b_RM_stack 8 = .ok (.getfield 111, 3) := by decide +kernel
theorem d_RM_stack_11 : decode b_RM_stack 11 = .ok (.invokestatic 32, 3) := by decide +kernel
theorem d_RM_stack_14 : decode b_RM_stack 14 = .ok (.ifCond .ne 13, 3) := by decide +kernel
theorem d_RM_stack_17 : decode b_RM_stack 17 = .ok (.new 36, 3) := by decide +kernel
theorem d_RM_stack_20 : decode b_RM_stack 20 = .ok (.dup, 1) := by decide +kernel
theorem d_RM_stack_21 : decode b_RM_stack 21 = .ok (.ldc 132, 2) := by decide +kernel
theorem d_RM_stack_23 : decode b_RM_stack 23 = .ok (.invokespecial 40, 3) := by decide +kernel
theorem d_RM_stack_26 : decode b_RM_stack 26 = .ok (.athrow, 1) := by decide +kernel
theorem d_RM_stack_27 : decode b_RM_stack 27 = .ok (.aload_n 0, 1) := by decide +kernel
theorem d_RM_stack_28 : decode b_RM_stack 28 = .ok (.getfield 14, 3) := by decide +kernel
theorem d_RM_stack_31 : decode b_RM_stack 31 = .ok (.getfield 79, 3) := by decide +kernel
theorem d_RM_stack_34 : decode b_RM_stack 34 = .ok (.iload_n 1, 1) := by decide +kernel
theorem d_RM_stack_35 : decode b_RM_stack 35 = .ok (.invokevirtual 134, 3) := by decide +kernel
theorem d_RM_stack_38 : decode b_RM_stack 38 = .ok (.ireturn, 1) := by decide +kernel
theorem d_RM_checkpoint_0 : decode b_RM_checkpoint 0 = .ok (.iload_n 1, 1) := by decide +kernel
theorem d_RM_checkpoint_1 : decode b_RM_checkpoint 1 = .ok (.aload_n 0, 1) := by decide +kernel
theorem d_RM_checkpoint_2 : decode b_RM_checkpoint 2 = .ok (.getfield 21, 3) := by decide +kernel
theorem d_RM_checkpoint_5 : decode b_RM_checkpoint 5 = .ok (.getfield 126, 3) := by decide +kernel
theorem d_RM_checkpoint_8 : decode b_RM_checkpoint 8 = .ok (.invokestatic 32, 3) := by decide +kernel
theorem d_RM_checkpoint_11 : decode b_RM_checkpoint 11 = .ok (.ifCond .ne 13, 3) := by decide +kernel
theorem d_RM_checkpoint_14 : decode b_RM_checkpoint 14 = .ok (.new 36, 3) := by decide +kernel
theorem d_RM_checkpoint_17 : decode b_RM_checkpoint 17 = .ok (.dup, 1) := by decide +kernel
theorem d_RM_checkpoint_18 : decode b_RM_checkpoint 18 = .ok (.ldc 137, 2) := by decide +kernel
theorem d_RM_checkpoint_20 : decode b_RM_checkpoint 20 = .ok (.invokespecial 40, 3) := by decide +kernel
theorem d_RM_checkpoint_23 : decode b_RM_checkpoint 23 = .ok (.athrow, 1) := by decide +kernel
theorem d_RM_checkpoint_24 : decode b_RM_checkpoint 24 = .ok (.aload_n 0, 1) := by decide +kernel
theorem d_RM_checkpoint_25 : decode b_RM_checkpoint 25 = .ok (.getfield 21, 3) := by decide +kernel
theorem d_RM_checkpoint_28 : decode b_RM_checkpoint 28 = .ok (.getfield 139, 3) := by decide +kernel
theorem d_RM_checkpoint_31 : decode b_RM_checkpoint 31 = .ok (.iload_n 1, 1) := by decide +kernel
theorem d_RM_checkpoint_32 : decode b_RM_checkpoint 32 = .ok (.aaload, 1) := by decide +kernel
theorem d_RM_checkpoint_33 : decode b_RM_checkpoint 33 = .ok (.getfield 83, 3) := by decide +kernel
theorem d_RM_checkpoint_36 : decode b_RM_checkpoint 36 = .ok (.ireturn, 1) := by decide +kernel
theorem d_RM_within_0 : decode b_RM_within 0 = .ok (.iload_n 0, 1) := by decide +kernel
theorem d_RM_within_1 : decode b_RM_within 1 = .ok (.ifCond .lt 12, 3) := by decide +kernel
theorem d_RM_within_4 : decode b_RM_within 4 = .ok (.iload_n 0, 1) := by decide +kernel
theorem d_RM_within_5 : decode b_RM_within 5 = .ok (.iload_n 1, 1) := by decide +kernel
theorem d_RM_within_6 : decode b_RM_within 6 = .ok (.if_icmp .ge 7, 3) := by decide +kernel
theorem d_RM_within_9 : decode b_RM_within 9 = .ok (.iconst 1, 1) := by decide +kernel
theorem d_RM_within_10 : decode b_RM_within 10 = .ok (.goto 4, 3) := by decide +kernel
theorem d_RM_within_13 : decode b_RM_within 13 = .ok (.iconst 0, 1) := by decide +kernel
theorem d_RM_within_14 : decode b_RM_within 14 = .ok (.ireturn, 1) := by decide +kernel
theorem d_RM_isFuel_0 : decode b_RM_isFuel 0 = .ok (.iload_n 0, 1) := by decide +kernel
theorem d_RM_isFuel_1 : decode b_RM_isFuel 1 = .ok (.ifCond .lt 14, 3) := by decide +kernel
theorem d_RM_isFuel_4 : decode b_RM_isFuel 4 = .ok (.iload_n 0, 1) := by decide +kernel
theorem d_RM_isFuel_5 : decode b_RM_isFuel 5 = .ok (.sipush 1000, 3) := by decide +kernel
theorem d_RM_isFuel_8 : decode b_RM_isFuel 8 = .ok (.if_icmp .gt 7, 3) := by decide +kernel
theorem d_RM_isFuel_11 : decode b_RM_isFuel 11 = .ok (.iconst 1, 1) := by decide +kernel
theorem d_RM_isFuel_12 : decode b_RM_isFuel 12 = .ok (.goto 4, 3) := by decide +kernel
theorem d_RM_isFuel_15 : decode b_RM_isFuel 15 = .ok (.iconst 0, 1) := by decide +kernel
theorem d_RM_isFuel_16 : decode b_RM_isFuel 16 = .ok (.ireturn, 1) := by decide +kernel
theorem d_RM_mark_0 : decode b_RM_mark 0 = .ok (.aload_n 0, 1) := by decide +kernel
theorem d_RM_mark_1 : decode b_RM_mark 1 = .ok (.iload_n 1, 1) := by decide +kernel
theorem d_RM_mark_2 : decode b_RM_mark 2 = .ok (.baload, 1) := by decide +kernel
theorem d_RM_mark_3 : decode b_RM_mark 3 = .ok (.iload_n 2, 1) := by decide +kernel
theorem d_RM_mark_4 : decode b_RM_mark 4 = .ok (.if_icmp .eq 7, 3) := by decide +kernel
theorem d_RM_mark_7 : decode b_RM_mark 7 = .ok (.iconst 1, 1) := by decide +kernel
theorem d_RM_mark_8 : decode b_RM_mark 8 = .ok (.goto 4, 3) := by decide +kernel
theorem d_RM_mark_11 : decode b_RM_mark 11 = .ok (.iconst 0, 1) := by decide +kernel
theorem d_RM_mark_12 : decode b_RM_mark 12 = .ok (.istore_n 3, 1) := by decide +kernel
theorem d_RM_mark_13 : decode b_RM_mark 13 = .ok (.aload_n 0, 1) := by decide +kernel
theorem d_RM_mark_14 : decode b_RM_mark 14 = .ok (.iload_n 1, 1) := by decide +kernel
theorem d_RM_mark_15 : decode b_RM_mark 15 = .ok (.iload_n 2, 1) := by decide +kernel
theorem d_RM_mark_16 : decode b_RM_mark 16 = .ok (.bastore, 1) := by decide +kernel
theorem d_RM_mark_17 : decode b_RM_mark 17 = .ok (.iload_n 3, 1) := by decide +kernel
theorem d_RM_mark_18 : decode b_RM_mark 18 = .ok (.ireturn, 1) := by decide +kernel
theorem d_RM_advance_0 : decode b_RM_advance 0 = .ok (.aload_n 0, 1) := by decide +kernel
theorem d_RM_advance_1 : decode b_RM_advance 1 = .ok (.getfield 14, 3) := by decide +kernel
theorem d_RM_advance_4 : decode b_RM_advance 4 = .ok (.invokevirtual 143, 3) := by decide +kernel
theorem d_RM_advance_7 : decode b_RM_advance 7 = .ok (.istore_n 1, 1) := by decide +kernel
theorem d_RM_advance_8 : decode b_RM_advance 8 = .ok (.iload_n 1, 1) := by decide +kernel
theorem d_RM_advance_9 : decode b_RM_advance 9 = .ok (.ifCond .eq 5, 3) := by decide +kernel
theorem d_RM_advance_12 : decode b_RM_advance 12 = .ok (.iload_n 1, 1) := by decide +kernel
theorem d_RM_advance_13 : decode b_RM_advance 13 = .ok (.ireturn, 1) := by decide +kernel
theorem d_RM_advance_14 : decode b_RM_advance 14 = .ok (.aload_n 0, 1) := by decide +kernel
theorem d_RM_advance_15 : decode b_RM_advance 15 = .ok (.getfield 14, 3) := by decide +kernel
theorem d_RM_advance_18 : decode b_RM_advance 18 = .ok (.getfield 79, 3) := by decide +kernel
theorem d_RM_advance_21 : decode b_RM_advance 21 = .ok (.getfield 83, 3) := by decide +kernel
theorem d_RM_advance_24 : decode b_RM_advance 24 = .ok (.sipush 3000, 3) := by decide +kernel
theorem d_RM_advance_27 : decode b_RM_advance 27 = .ok (.if_icmp .lt 6, 3) := by decide +kernel
theorem d_RM_advance_30 : decode b_RM_advance 30 = .ok (.bipush 8, 2) := by decide +kernel
theorem d_RM_advance_32 : decode b_RM_advance 32 = .ok (.ireturn, 1) := by decide +kernel
theorem d_RM_advance_33 : decode b_RM_advance 33 = .ok (.aload_n 0, 1) := by decide +kernel
theorem d_RM_advance_34 : decode b_RM_advance 34 = .ok (.getfield 14, 3) := by decide +kernel
theorem d_RM_advance_37 : decode b_RM_advance 37 = .ok (.invokevirtual 146, 3) := by decide +kernel
theorem d_RM_advance_40 : decode b_RM_advance 40 = .ok (.aload_n 0, 1) := by decide +kernel
theorem d_RM_advance_41 : decode b_RM_advance 41 = .ok (.getfield 14, 3) := by decide +kernel
theorem d_RM_advance_44 : decode b_RM_advance 44 = .ok (.getfield 79, 3) := by decide +kernel
theorem d_RM_advance_47 : decode b_RM_advance 47 = .ok (.getfield 83, 3) := by decide +kernel
theorem d_RM_advance_50 : decode b_RM_advance 50 = .ok (.aload_n 0, 1) := by decide +kernel
theorem d_RM_advance_51 : decode b_RM_advance 51 = .ok (.getfield 43, 3) := by decide +kernel
theorem d_RM_advance_54 : decode b_RM_advance 54 = .ok (.if_icmp .le 31, 3) := by decide +kernel
theorem d_RM_advance_57 : decode b_RM_advance 57 = .ok (.aload_n 0, 1) := by decide +kernel
theorem d_RM_advance_58 : decode b_RM_advance 58 = .ok (.aload_n 0, 1) := by decide +kernel
theorem d_RM_advance_59 : decode b_RM_advance 59 = .ok (.getfield 14, 3) := by decide +kernel
theorem d_RM_advance_62 : decode b_RM_advance 62 = .ok (.getfield 79, 3) := by decide +kernel
theorem d_RM_advance_65 : decode b_RM_advance 65 = .ok (.getfield 83, 3) := by decide +kernel
theorem d_RM_advance_68 : decode b_RM_advance 68 = .ok (.putfield 43, 3) := by decide +kernel
theorem d_RM_advance_71 : decode b_RM_advance 71 = .ok (.aload_n 0, 1) := by decide +kernel
theorem d_RM_advance_72 : decode b_RM_advance 72 = .ok (.getfield 21, 3) := by decide +kernel
theorem d_RM_advance_75 : decode b_RM_advance 75 = .ok (.aload_n 0, 1) := by decide +kernel
theorem d_RM_advance_76 : decode b_RM_advance 76 = .ok (.getfield 14, 3) := by decide +kernel
theorem d_RM_advance_79 : decode b_RM_advance 79 = .ok (.getfield 79, 3) := by decide +kernel
theorem d_RM_advance_82 : decode b_RM_advance 82 = .ok (.invokevirtual 149, 3) := by decide +kernel
theorem d_RM_advance_85 : decode b_RM_advance 85 = .ok (.iconst 0, 1) := by decide +kernel
theorem d_RM_advance_86 : decode b_RM_advance 86 = .ok (.ireturn, 1) := by decide +kernel
theorem d_RM_stopHere_0 : decode b_RM_stopHere 0 = .ok (.aload_n 0, 1) := by decide +kernel
theorem d_RM_stopHere_1 : decode b_RM_stopHere 1 = .ok (.getfield 14, 3) := by decide +kernel
theorem d_RM_stopHere_4 : decode b_RM_stopHere 4 = .ok (.getfield 79, 3) := by decide +kernel
theorem d_RM_stopHere_7 : decode b_RM_stopHere 7 = .ok (.astore_n 1, 1) := by decide +kernel
theorem d_RM_stopHere_8 : decode b_RM_stopHere 8 = .ok (.aload_n 1, 1) := by decide +kernel
theorem d_RM_stopHere_9 : decode b_RM_stopHere 9 = .ok (.getfield 83, 3) := by decide +kernel
theorem d_RM_stopHere_12 : decode b_RM_stopHere 12 = .ok (.ifCond .ne 5, 3) := by decide +kernel
theorem d_RM_stopHere_15 : decode b_RM_stopHere 15 = .ok (.iconst 0, 1) := by decide +kernel
theorem d_RM_stopHere_16 : decode b_RM_stopHere 16 = .ok (.ireturn, 1) := by decide +kernel
theorem d_RM_stopHere_17 : decode b_RM_stopHere 17 = .ok (.aload_n 1, 1) := by decide +kernel
theorem d_RM_stopHere_18 : decode b_RM_stopHere 18 = .ok (.getfield 99, 3) := by decide +kernel
theorem d_RM_stopHere_21 : decode b_RM_stopHere 21 = .ok (.bipush 64, 2) := by decide +kernel
theorem d_RM_stopHere_23 : decode b_RM_stopHere 23 = .ok (.invokestatic 32, 3) := by decide +kernel
theorem d_RM_stopHere_26 : decode b_RM_stopHere 26 = .ok (.ifCond .eq 18, 3) := by decide +kernel
theorem d_RM_stopHere_29 : decode b_RM_stopHere 29 = .ok (.aload_n 0, 1) := by decide +kernel
theorem d_RM_stopHere_30 : decode b_RM_stopHere 30 = .ok (.getfield 25, 3) := by decide +kernel
theorem d_RM_stopHere_33 : decode b_RM_stopHere 33 = .ok (.aload_n 1, 1) := by decide +kernel
theorem d_RM_stopHere_34 : decode b_RM_stopHere 34 = .ok (.getfield 99, 3) := by decide +kernel
theorem d_RM_stopHere_37 : decode b_RM_stopHere 37 = .ok (.baload, 1) := by decide +kernel
theorem d_RM_stopHere_38 : decode b_RM_stopHere 38 = .ok (.ifCond .eq 6, 3) := by decide +kernel
theorem d_RM_stopHere_41 : decode b_RM_stopHere 41 = .ok (.bipush 9, 2) := by decide +kernel
theorem d_RM_stopHere_43 : decode b_RM_stopHere 43 = .ok (.ireturn, 1) := by decide +kernel
theorem d_RM_stopHere_44 : decode b_RM_stopHere 44 = .ok (.aload_n 1, 1) := by decide +kernel
theorem d_RM_stopHere_45 : decode b_RM_stopHere 45 = .ok (.getfield 153, 3) := by decide +kernel
theorem d_RM_stopHere_48 : decode b_RM_stopHere 48 = .ok (.bipush 32, 2) := by decide +kernel
theorem d_RM_stopHere_50 : decode b_RM_stopHere 50 = .ok (.invokestatic 32, 3) := by decide +kernel
theorem d_RM_stopHere_53 : decode b_RM_stopHere 53 = .ok (.ifCond .eq 20, 3) := by decide +kernel
theorem d_RM_stopHere_56 : decode b_RM_stopHere 56 = .ok (.aload_n 0, 1) := by decide +kernel
theorem d_RM_stopHere_57 : decode b_RM_stopHere 57 = .ok (.getfield 29, 3) := by decide +kernel
theorem d_RM_stopHere_60 : decode b_RM_stopHere 60 = .ok (.aload_n 1, 1) := by decide +kernel
theorem d_RM_stopHere_61 : decode b_RM_stopHere 61 = .ok (.getfield 153, 3) := by decide +kernel
theorem d_RM_stopHere_64 : decode b_RM_stopHere 64 = .ok (.baload, 1) := by decide +kernel
theorem d_RM_stopHere_65 : decode b_RM_stopHere 65 = .ok (.ifCond .eq 8, 3) := by decide +kernel
theorem d_RM_stopHere_68 : decode b_RM_stopHere 68 = .ok (.bipush 10, 2) := by decide +kernel
theorem d_RM_stopHere_70 : decode b_RM_stopHere 70 = .ok (.goto 4, 3) := by decide +kernel
theorem d_RM_stopHere_73 : decode b_RM_stopHere 73 = .ok (.iconst 0, 1) := by decide +kernel
theorem d_RM_stopHere_74 : decode b_RM_stopHere 74 = .ok (.ireturn, 1) := by decide +kernel
theorem d_RM_travel_0 : decode b_RM_travel 0 = .ok (.aload_n 0, 1) := by decide +kernel
theorem d_RM_travel_1 : decode b_RM_travel 1 = .ok (.getfield 14, 3) := by decide +kernel
theorem d_RM_travel_4 : decode b_RM_travel 4 = .ok (.getfield 79, 3) := by decide +kernel
theorem d_RM_travel_7 : decode b_RM_travel 7 = .ok (.astore_n 2, 1) := by decide +kernel
theorem d_RM_travel_8 : decode b_RM_travel 8 = .ok (.iload_n 1, 1) := by decide +kernel
theorem d_RM_travel_9 : decode b_RM_travel 9 = .ok (.aload_n 2, 1) := by decide +kernel
theorem d_RM_travel_10 : decode b_RM_travel 10 = .ok (.getfield 83, 3) := by decide +kernel
theorem d_RM_travel_13 : decode b_RM_travel 13 = .ok (.if_icmp .ne 4, 3) := by decide +kernel
theorem d_RM_travel_16 : decode b_RM_travel 16 = .ok (.return_, 1) := by decide +kernel
theorem d_RM_travel_17 : decode b_RM_travel 17 = .ok (.iload_n 1, 1) := by decide +kernel
theorem d_RM_travel_18 : decode b_RM_travel 18 = .ok (.aload_n 2, 1) := by decide +kernel
theorem d_RM_travel_19 : decode b_RM_travel 19 = .ok (.getfield 83, 3) := by decide +kernel
theorem d_RM_travel_22 : decode b_RM_travel 22 = .ok (.if_icmp .ge 40, 3) := by decide +kernel
theorem d_RM_travel_25 : decode b_RM_travel 25 = .ok (.aload_n 2, 1) := by decide +kernel
theorem d_RM_travel_26 : decode b_RM_travel 26 = .ok (.getfield 83, 3) := by decide +kernel
theorem d_RM_travel_29 : decode b_RM_travel 29 = .ok (.iload_n 1, 1) := by decide +kernel
theorem d_RM_travel_30 : decode b_RM_travel 30 = .ok (.isub, 1) := by decide +kernel
theorem d_RM_travel_31 : decode b_RM_travel 31 = .ok (.aload_n 0, 1) := by decide +kernel
theorem d_RM_travel_32 : decode b_RM_travel 32 = .ok (.getfield 14, 3) := by decide +kernel
theorem d_RM_travel_35 : decode b_RM_travel 35 = .ok (.getfield 114, 3) := by decide +kernel
theorem d_RM_travel_38 : decode b_RM_travel 38 = .ok (.getfield 118, 3) := by decide +kernel
theorem d_RM_travel_41 : decode b_RM_travel 41 = .ok (.if_icmp .gt 21, 3) := by decide +kernel
theorem d_RM_travel_44 : decode b_RM_travel 44 = .ok (.aload_n 0, 1) := by decide +kernel
theorem d_RM_travel_45 : decode b_RM_travel 45 = .ok (.getfield 14, 3) := by decide +kernel
theorem d_RM_travel_48 : decode b_RM_travel 48 = .ok (.getfield 114, 3) := by decide +kernel
theorem d_RM_travel_51 : decode b_RM_travel 51 = .ok (.aload_n 2, 1) := by decide +kernel
theorem d_RM_travel_52 : decode b_RM_travel 52 = .ok (.getfield 83, 3) := by decide +kernel
theorem d_RM_travel_55 : decode b_RM_travel 55 = .ok (.iload_n 1, 1) := by decide +kernel
theorem d_RM_travel_56 : decode b_RM_travel 56 = .ok (.isub, 1) := by decide +kernel
theorem d_RM_travel_57 : decode b_RM_travel 57 = .ok (.aload_n 2, 1) := by decide +kernel
theorem d_RM_travel_58 : decode b_RM_travel 58 = .ok (.invokevirtual 156, 3) := by decide +kernel
theorem d_RM_travel_61 : decode b_RM_travel 61 = .ok (.return_, 1) := by decide +kernel
theorem d_RM_travel_62 : decode b_RM_travel 62 = .ok (.aload_n 0, 1) := by decide +kernel
theorem d_RM_travel_63 : decode b_RM_travel 63 = .ok (.getfield 21, 3) := by decide +kernel
theorem d_RM_travel_66 : decode b_RM_travel 66 = .ok (.iload_n 1, 1) := by decide +kernel
theorem d_RM_travel_67 : decode b_RM_travel 67 = .ok (.invokevirtual 160, 3) := by decide +kernel
theorem d_RM_travel_70 : decode b_RM_travel 70 = .ok (.astore_n 3, 1) := by decide +kernel
theorem d_RM_travel_71 : decode b_RM_travel 71 = .ok (.iload_n 1, 1) := by decide +kernel
theorem d_RM_travel_72 : decode b_RM_travel 72 = .ok (.aload_n 2, 1) := by decide +kernel
theorem d_RM_travel_73 : decode b_RM_travel 73 = .ok (.getfield 83, 3) := by decide +kernel
theorem d_RM_travel_76 : decode b_RM_travel 76 = .ok (.if_icmp .lt 14, 3) := by decide +kernel
theorem d_RM_travel_79 : decode b_RM_travel 79 = .ok (.aload_n 3, 1) := by decide +kernel
theorem d_RM_travel_80 : decode b_RM_travel 80 = .ok (.getfield 83, 3) := by decide +kernel
theorem d_RM_travel_83 : decode b_RM_travel 83 = .ok (.aload_n 2, 1) := by decide +kernel
theorem d_RM_travel_84 : decode b_RM_travel 84 = .ok (.getfield 83, 3) := by decide +kernel
theorem d_RM_travel_87 : decode b_RM_travel 87 = .ok (.if_icmp .le 19, 3) := by decide +kernel
theorem d_RM_travel_90 : decode b_RM_travel 90 = .ok (.aload_n 2, 1) := by decide +kernel
theorem d_RM_travel_91 : decode b_RM_travel 91 = .ok (.aload_n 3, 1) := by decide +kernel
theorem d_RM_travel_92 : decode b_RM_travel 92 = .ok (.invokevirtual 164, 3) := by decide +kernel
theorem d_RM_travel_95 : decode b_RM_travel 95 = .ok (.aload_n 0, 1) := by decide +kernel
theorem d_RM_travel_96 : decode b_RM_travel 96 = .ok (.getfield 14, 3) := by decide +kernel
theorem d_RM_travel_99 : decode b_RM_travel 99 = .ok (.getfield 114, 3) := by decide +kernel
theorem d_RM_travel_102 : decode b_RM_travel 102 = .ok (.iconst 0, 1) := by decide +kernel
theorem d_RM_travel_103 : decode b_RM_travel 103 = .ok (.putfield 118, 3) := by decide +kernel
theorem d_RM_travel_106 : decode b_RM_travel 106 = .ok (.iload_n 1, 1) := by decide +kernel
theorem d_RM_travel_107 : decode b_RM_travel 107 = .ok (.aload_n 2, 1) := by decide +kernel
theorem d_RM_travel_108 : decode b_RM_travel 108 = .ok (.getfield 83, 3) := by decide +kernel
theorem d_RM_travel_111 : decode b_RM_travel 111 = .ok (.isub, 1) := by decide +kernel
theorem d_RM_travel_112 : decode b_RM_travel 112 = .ok (.istore 4, 2) := by decide +kernel
theorem d_RM_travel_114 : decode b_RM_travel 114 = .ok (.iconst 0, 1) := by decide +kernel
theorem d_RM_travel_115 : decode b_RM_travel 115 = .ok (.istore 5, 2) := by decide +kernel
theorem d_RM_travel_117 : decode b_RM_travel 117 = .ok (.iload 5, 2) := by decide +kernel
theorem d_RM_travel_119 : decode b_RM_travel 119 = .ok (.iload 4, 2) := by decide +kernel
theorem d_RM_travel_121 : decode b_RM_travel 121 = .ok (.if_icmp .ge 16, 3) := by decide +kernel
theorem d_RM_travel_124 : decode b_RM_travel 124 = .ok (.aload_n 0, 1) := by decide +kernel
theorem d_RM_travel_125 : decode b_RM_travel 125 = .ok (.getfield 14, 3) := by decide +kernel
theorem d_RM_travel_128 : decode b_RM_travel 128 = .ok (.invokevirtual 146, 3) := by decide +kernel
theorem d_RM_travel_131 : decode b_RM_travel 131 = .ok (.iinc 5 1, 3) := by decide +kernel
theorem d_RM_travel_134 : decode b_RM_travel 134 = .ok (.goto (-17), 3) := by decide +kernel
theorem d_RM_travel_137 : decode b_RM_travel 137 = .ok (.aload_n 0, 1) := by decide +kernel
theorem d_RM_travel_138 : decode b_RM_travel 138 = .ok (.dup, 1) := by decide +kernel
theorem d_RM_travel_139 : decode b_RM_travel 139 = .ok (.getfield 60, 3) := by decide +kernel
theorem d_RM_travel_142 : decode b_RM_travel 142 = .ok (.iload 4, 2) := by decide +kernel
theorem d_RM_travel_144 : decode b_RM_travel 144 = .ok (.iadd, 1) := by decide +kernel
theorem d_RM_travel_145 : decode b_RM_travel 145 = .ok (.putfield 60, 3) := by decide +kernel
theorem d_RM_travel_148 : decode b_RM_travel 148 = .ok (.return_, 1) := by decide +kernel
theorem d_Ma_init_0 : decode b_Ma_init 0 = .ok (.aload_n 0, 1) := by decide +kernel
theorem d_Ma_init_1 : decode b_Ma_init 1 = .ok (.invokespecial 3, 3) := by decide +kernel
theorem d_Ma_init_4 : decode b_Ma_init 4 = .ok (.aload_n 0, 1) := by decide +kernel
theorem d_Ma_init_5 : decode b_Ma_init 5 = .ok (.bipush 64, 2) := by decide +kernel
theorem d_Ma_init_7 : decode b_Ma_init 7 = .ok (.newarray .int, 2) := by decide +kernel
theorem d_Ma_init_9 : decode b_Ma_init 9 = .ok (.putfield 9, 3) := by decide +kernel
theorem d_Ma_init_12 : decode b_Ma_init 12 = .ok (.aload_n 0, 1) := by decide +kernel
theorem d_Ma_init_13 : decode b_Ma_init 13 = .ok (.bipush 40, 2) := by decide +kernel
theorem d_Ma_init_15 : decode b_Ma_init 15 = .ok (.newarray .int, 2) := by decide +kernel
theorem d_Ma_init_17 : decode b_Ma_init 17 = .ok (.putfield 15, 3) := by decide +kernel
theorem d_Ma_init_20 : decode b_Ma_init 20 = .ok (.aload_n 0, 1) := by decide +kernel
theorem d_Ma_init_21 : decode b_Ma_init 21 = .ok (.new 18, 3) := by decide +kernel
theorem d_Ma_init_24 : decode b_Ma_init 24 = .ok (.dup, 1) := by decide +kernel
theorem d_Ma_init_25 : decode b_Ma_init 25 = .ok (.iload_n 1, 1) := by decide +kernel
theorem d_Ma_init_26 : decode b_Ma_init 26 = .ok (.invokespecial 20, 3) := by decide +kernel
theorem d_Ma_init_29 : decode b_Ma_init 29 = .ok (.putfield 23, 3) := by decide +kernel
theorem d_Ma_init_32 : decode b_Ma_init 32 = .ok (.aload_n 0, 1) := by decide +kernel
theorem d_Ma_init_33 : decode b_Ma_init 33 = .ok (.new 27, 3) := by decide +kernel
theorem d_Ma_init_36 : decode b_Ma_init 36 = .ok (.dup, 1) := by decide +kernel
theorem d_Ma_init_37 : decode b_Ma_init 37 = .ok (.invokespecial 29, 3) := by decide +kernel
theorem d_Ma_init_40 : decode b_Ma_init 40 = .ok (.putfield 30, 3) := by decide +kernel
theorem d_Ma_init_43 : decode b_Ma_init 43 = .ok (.aload_n 0, 1) := by decide +kernel
theorem d_Ma_init_44 : decode b_Ma_init 44 = .ok (.aload_n 0, 1) := by decide +kernel
theorem d_Ma_init_45 : decode b_Ma_init 45 = .ok (.getfield 30, 3) := by decide +kernel
theorem d_Ma_init_48 : decode b_Ma_init 48 = .ok (.getfield 34, 3) := by decide +kernel
theorem d_Ma_init_51 : decode b_Ma_init 51 = .ok (.iconst 0, 1) := by decide +kernel
theorem d_Ma_init_52 : decode b_Ma_init 52 = .ok (.aaload, 1) := by decide +kernel
theorem d_Ma_init_53 : decode b_Ma_init 53 = .ok (.putfield 38, 3) := by decide +kernel
theorem d_Ma_init_56 : decode b_Ma_init 56 = .ok (.return_, 1) := by decide +kernel
theorem d_Ma_addInput_0 : decode b_Ma_addInput 0 = .ok (.aload_n 0, 1) := by decide +kernel
theorem d_Ma_addInput_1 : decode b_Ma_addInput 1 = .ok (.getfield 42, 3) := by decide +kernel
theorem d_Ma_addInput_4 : decode b_Ma_addInput 4 = .ok (.bipush 40, 2) := by decide +kernel
theorem d_Ma_addInput_6 : decode b_Ma_addInput 6 = .ok (.if_icmp .lt 5, 3) := by decide +kernel
theorem d_Ma_addInput_9 : decode b_Ma_addInput 9 = .ok (.iconst (-1), 1) := by decide +kernel
theorem d_Ma_addInput_10 : decode b_Ma_addInput 10 = .ok (.ireturn, 1) := by decide +kernel
theorem d_Ma_addInput_11 : decode b_Ma_addInput 11 = .ok (.aload_n 0, 1) := by decide +kernel
theorem d_Ma_addInput_12 : decode b_Ma_addInput 12 = .ok (.getfield 15, 3) := by decide +kernel
theorem d_Ma_addInput_15 : decode b_Ma_addInput 15 = .ok (.aload_n 0, 1) := by decide +kernel
theorem d_Ma_addInput_16 : decode b_Ma_addInput 16 = .ok (.getfield 42, 3) := by decide +kernel
theorem d_Ma_addInput_19 : decode b_Ma_addInput 19 = .ok (.iload_n 1, 1) := by decide +kernel
theorem d_Ma_addInput_20 : decode b_Ma_addInput 20 = .ok (.iastore, 1) := by decide +kernel
theorem d_Ma_addInput_21 : decode b_Ma_addInput 21 = .ok (.aload_n 0, 1) := by decide +kernel
theorem d_Ma_addInput_22 : decode b_Ma_addInput 22 = .ok (.dup, 1) := by decide +kernel
theorem d_Ma_addInput_23 : decode b_Ma_addInput 23 = .ok (.getfield 42, 3) := by decide +kernel
theorem d_Ma_addInput_26 : decode b_Ma_addInput 26 = .ok (.iconst 1, 1) := by decide +kernel
theorem d_Ma_addInput_27 : decode b_Ma_addInput 27 = .ok (.iadd, 1) := by decide +kernel
theorem d_Ma_addInput_28 : decode b_Ma_addInput 28 = .ok (.putfield 42, 3) := by decide +kernel
theorem d_Ma_addInput_31 : decode b_Ma_addInput 31 = .ok (.aload_n 0, 1) := by decide +kernel
theorem d_Ma_addInput_32 : decode b_Ma_addInput 32 = .ok (.getfield 42, 3) := by decide +kernel
theorem d_Ma_addInput_35 : decode b_Ma_addInput 35 = .ok (.ireturn, 1) := by decide +kernel
theorem d_Ma_obstacle_0 : decode b_Ma_obstacle 0 = .ok (.aload_n 0, 1) := by decide +kernel
theorem d_Ma_obstacle_1 : decode b_Ma_obstacle 1 = .ok (.getfield 23, 3) := by decide +kernel
theorem d_Ma_obstacle_4 : decode b_Ma_obstacle 4 = .ok (.getfield 46, 3) := by decide +kernel
theorem d_Ma_obstacle_7 : decode b_Ma_obstacle 7 = .ok (.bipush 64, 2) := by decide +kernel
theorem d_Ma_obstacle_9 : decode b_Ma_obstacle 9 = .ok (.invokestatic 49, 3) := by decide +kernel
theorem d_Ma_obstacle_12 : decode b_Ma_obstacle 12 = .ok (.ifCond .ne 5, 3) := by decide +kernel
theorem d_Ma_obstacle_15 : decode b_Ma_obstacle 15 = .ok (.iconst 4, 1) := by decide +kernel
theorem d_Ma_obstacle_16 : decode b_Ma_obstacle 16 = .ok (.ireturn, 1) := by decide +kernel
theorem d_Ma_obstacle_17 : decode b_Ma_obstacle 17 = .ok (.aload_n 0, 1) := by decide +kernel
theorem d_Ma_obstacle_18 : decode b_Ma_obstacle 18 = .ok (.getfield 9, 3) := by decide +kernel
theorem d_Ma_obstacle_21 : decode b_Ma_obstacle 21 = .ok (.aload_n 0, 1) := by decide +kernel
theorem d_Ma_obstacle_22 : decode b_Ma_obstacle 22 = .ok (.getfield 23, 3) := by decide +kernel
theorem d_Ma_obstacle_25 : decode b_Ma_obstacle 25 = .ok (.getfield 46, 3) := by decide +kernel
theorem d_Ma_obstacle_28 : decode b_Ma_obstacle 28 = .ok (.iaload, 1) := by decide +kernel
theorem d_Ma_obstacle_29 : decode b_Ma_obstacle 29 = .ok (.bipush 31, 2) := by decide +kernel
theorem d_Ma_obstacle_31 : decode b_Ma_obstacle 31 = .ok (.iand, 1) := by decide +kernel
theorem d_Ma_obstacle_32 : decode b_Ma_obstacle 32 = .ok (.istore_n 1, 1) := by decide +kernel
theorem d_Ma_obstacle_33 : decode b_Ma_obstacle 33 = .ok (.aload_n 0, 1) := by decide +kernel
theorem d_Ma_obstacle_34 : decode b_Ma_obstacle 34 = .ok (.getfield 9, 3) := by decide +kernel
theorem d_Ma_obstacle_37 : decode b_Ma_obstacle 37 = .ok (.aload_n 0, 1) := by decide +kernel
theorem d_Ma_obstacle_38 : decode b_Ma_obstacle 38 = .ok (.getfield 23, 3) := by decide +kernel
theorem d_Ma_obstacle_41 : decode b_Ma_obstacle 41 = .ok (.getfield 46, 3) := by decide +kernel
theorem d_Ma_obstacle_44 : decode b_Ma_obstacle 44 = .ok (.iaload, 1) := by decide +kernel
theorem d_Ma_obstacle_45 : decode b_Ma_obstacle 45 = .ok (.iconst 5, 1) := by decide +kernel
theorem d_Ma_obstacle_46 : decode b_Ma_obstacle 46 = .ok (.ishr, 1) := by decide +kernel
theorem d_Ma_obstacle_47 : decode b_Ma_obstacle 47 = .ok (.istore_n 2, 1) := by decide +kernel
theorem d_Ma_obstacle_48 : decode b_Ma_obstacle 48 = .ok (.iload_n 1, 1) := by decide +kernel
theorem d_Ma_obstacle_49 : decode b_Ma_obstacle 49 = .ok (.bipush 20, 2) := by decide +kernel
theorem d_Ma_obstacle_51 : decode b_Ma_obstacle 51 = .ok (.if_icmp .le 5, 3) := by decide +kernel
theorem d_Ma_obstacle_54 : decode b_Ma_obstacle 54 = .ok (.iconst 5, 1) := by decide +kernel
theorem d_Ma_obstacle_55 : decode b_Ma_obstacle 55 = .ok (.ireturn, 1) := by decide +kernel
theorem d_Ma_obstacle_56 : decode b_Ma_obstacle 56 = .ok (.iload_n 1, 1) := by decide +kernel
theorem d_Ma_obstacle_57 : decode b_Ma_obstacle 57 = .ok (.ifCond .ne 5, 3) := by decide +kernel
theorem d_Ma_obstacle_60 : decode b_Ma_obstacle 60 = .ok (.iconst 1, 1) := by decide +kernel
theorem d_Ma_obstacle_61 : decode b_Ma_obstacle 61 = .ok (.ireturn, 1) := by decide +kernel
theorem d_Ma_obstacle_62 : decode b_Ma_obstacle 62 = .ok (.aload_n 0, 1) := by decide +kernel
theorem d_Ma_obstacle_63 : decode b_Ma_obstacle 63 = .ok (.iload_n 1, 1) := by decide +kernel
theorem d_Ma_obstacle_64 : decode b_Ma_obstacle 64 = .ok (.iload_n 2, 1) := by decide +kernel
theorem d_Ma_obstacle_65 : decode b_Ma_obstacle 65 = .ok (.invokevirtual 53, 3) := by decide +kernel
theorem d_Ma_obstacle_68 : decode b_Ma_obstacle 68 = .ok (.ifCond .eq 5, 3) := by decide +kernel
theorem d_Ma_obstacle_71 : decode b_Ma_obstacle 71 = .ok (.iconst 2, 1) := by decide +kernel
theorem d_Ma_obstacle_72 : decode b_Ma_obstacle 72 = .ok (.ireturn, 1) := by decide +kernel
theorem d_Ma_obstacle_73 : decode b_Ma_obstacle 73 = .ok (.iload_n 1, 1) := by decide +kernel
theorem d_Ma_obstacle_74 : decode b_Ma_obstacle 74 = .ok (.bipush 10, 2) := by decide +kernel
theorem d_Ma_obstacle_76 : decode b_Ma_obstacle 76 = .ok (.if_icmp .eq 9, 3) := by decide +kernel
theorem d_Ma_obstacle_79 : decode b_Ma_obstacle 79 = .ok (.iload_n 1, 1) := by decide +kernel
theorem d_Ma_obstacle_80 : decode b_Ma_obstacle 80 = .ok (.bipush 11, 2) := by decide +kernel
theorem d_Ma_obstacle_82 : decode b_Ma_obstacle 82 = .ok (.if_icmp .ne 18, 3) := by decide +kernel
theorem d_Ma_obstacle_85 : decode b_Ma_obstacle 85 = .ok (.aload_n 0, 1) := by decide +kernel
theorem d_Ma_obstacle_86 : decode b_Ma_obstacle 86 = .ok (.iconst 0, 1) := by decide +kernel
theorem d_Ma_obstacle_87 : decode b_Ma_obstacle 87 = .ok (.invokevirtual 56, 3) := by decide +kernel
theorem d_Ma_obstacle_90 : decode b_Ma_obstacle 90 = .ok (.bipush 32, 2) := by decide +kernel
theorem d_Ma_obstacle_92 : decode b_Ma_obstacle 92 = .ok (.invokestatic 49, 3) := by decide +kernel
theorem d_Ma_obstacle_95 : decode b_Ma_obstacle 95 = .ok (.ifCond .ne 5, 3) := by decide +kernel
theorem d_Ma_obstacle_98 : decode b_Ma_obstacle 98 = .ok (.iconst 4, 1) := by decide +kernel
theorem d_Ma_obstacle_99 : decode b_Ma_obstacle 99 = .ok (.ireturn, 1) := by decide +kernel
theorem d_Ma_obstacle_100 : decode b_Ma_obstacle 100 = .ok (.iload_n 1, 1) := by decide +kernel
theorem d_Ma_obstacle_101 : decode b_Ma_obstacle 101 = .ok (.bipush 8, 2) := by decide +kernel
theorem d_Ma_obstacle_103 : decode b_Ma_obstacle 103 = .ok (.if_icmp .ne 11, 3) := by decide +kernel
theorem d_Ma_obstacle_106 : decode b_Ma_obstacle 106 = .ok (.aload_n 0, 1) := by decide +kernel
theorem d_Ma_obstacle_107 : decode b_Ma_obstacle 107 = .ok (.iconst 0, 1) := by decide +kernel
theorem d_Ma_obstacle_108 : decode b_Ma_obstacle 108 = .ok (.invokevirtual 56, 3) := by decide +kernel
theorem d_Ma_obstacle_111 : decode b_Ma_obstacle 111 = .ok (.ifCond .eq 14, 3) := by decide +kernel
theorem d_Ma_obstacle_114 : decode b_Ma_obstacle 114 = .ok (.iload_n 1, 1) := by decide +kernel
theorem d_Ma_obstacle_115 : decode b_Ma_obstacle 115 = .ok (.bipush 19, 2) := by decide +kernel
theorem d_Ma_obstacle_117 : decode b_Ma_obstacle 117 = .ok (.if_icmp .ne 11, 3) := by decide +kernel
theorem d_Ma_obstacle_120 : decode b_Ma_obstacle 120 = .ok (.iload_n 2, 1) := by decide +kernel
theorem d_Ma_obstacle_121 : decode b_Ma_obstacle 121 = .ok (.iconst 1, 1) := by decide +kernel
theorem d_Ma_obstacle_122 : decode b_Ma_obstacle 122 = .ok (.if_icmp .ge 6, 3) := by decide +kernel
theorem d_Ma_obstacle_125 : decode b_Ma_obstacle 125 = .ok (.bipush 6, 2) := by decide +kernel
theorem d_Ma_obstacle_127 : decode b_Ma_obstacle 127 = .ok (.ireturn, 1) := by decide +kernel
theorem d_Ma_obstacle_128 : decode b_Ma_obstacle 128 = .ok (.iload_n 1, 1) := by decide +kernel
theorem d_Ma_obstacle_129 : decode b_Ma_obstacle 129 = .ok (.bipush 18, 2) := by decide +kernel
theorem d_Ma_obstacle_131 : decode b_Ma_obstacle 131 = .ok (.if_icmp .ne 20, 3) := by decide +kernel
theorem d_Ma_obstacle_134 : decode b_Ma_obstacle 134 = .ok (.aload_n 0, 1) := by decide +kernel
theorem d_Ma_obstacle_135 : decode b_Ma_obstacle 135 = .ok (.getfield 23, 3) := by decide +kernel
theorem d_Ma_obstacle_138 : decode b_Ma_obstacle 138 = .ok (.getfield 60, 3) := by decide +kernel
theorem d_Ma_obstacle_141 : decode b_Ma_obstacle 141 = .ok (.aload_n 0, 1) := by decide +kernel
theorem d_Ma_obstacle_142 : decode b_Ma_obstacle 142 = .ok (.getfield 42, 3) := by decide +kernel
theorem d_Ma_obstacle_145 : decode b_Ma_obstacle 145 = .ok (.if_icmp .lt 6, 3) := by decide +kernel
theorem d_Ma_obstacle_148 : decode b_Ma_obstacle 148 = .ok (.bipush 7, 2) := by decide +kernel
theorem d_Ma_obstacle_150 : decode b_Ma_obstacle 150 = .ok (.ireturn, 1) := by decide +kernel
theorem d_Ma_obstacle_151 : decode b_Ma_obstacle 151 = .ok (.aload_n 0, 1) := by decide +kernel
theorem d_Ma_obstacle_152 : decode b_Ma_obstacle 152 = .ok (.getfield 23, 3) := by decide +kernel
theorem d_Ma_obstacle_155 : decode b_Ma_obstacle 155 = .ok (.getfield 63, 3) := by decide +kernel
theorem d_Ma_obstacle_158 : decode b_Ma_obstacle 158 = .ok (.getstatic 66, 3) := by decide +kernel
theorem d_Ma_obstacle_161 : decode b_Ma_obstacle 161 = .ok (.iload_n 1, 1) := by decide +kernel
theorem d_Ma_obstacle_162 : decode b_Ma_obstacle 162 = .ok (.iaload, 1) := by decide +kernel
theorem d_Ma_obstacle_163 : decode b_Ma_obstacle 163 = .ok (.iadd, 1) := by decide +kernel
theorem d_Ma_obstacle_164 : decode b_Ma_obstacle 164 = .ok (.bipush 24, 2) := by decide +kernel
theorem d_Ma_obstacle_166 : decode b_Ma_obstacle 166 = .ok (.if_icmp .le 7, 3) := by decide +kernel
theorem d_Ma_obstacle_169 : decode b_Ma_obstacle 169 = .ok (.iconst 3, 1) := by decide +kernel
theorem d_Ma_obstacle_170 : decode b_Ma_obstacle 170 = .ok (.goto 4, 3) := by decide +kernel
theorem d_Ma_obstacle_173 : decode b_Ma_obstacle 173 = .ok (.iconst 0, 1) := by decide +kernel
theorem d_Ma_obstacle_174 : decode b_Ma_obstacle 174 = .ok (.ireturn, 1) := by decide +kernel
theorem d_Ma_hasTooFew_0 : decode b_Ma_hasTooFew 0 = .ok (.iload_n 1, 1) := by decide +kernel
theorem d_Ma_hasTooFew_1 : decode b_Ma_hasTooFew 1 = .ok (.bipush 16, 2) := by decide +kernel
theorem d_Ma_hasTooFew_3 : decode b_Ma_hasTooFew 3 = .ok (.if_icmp .ne 37, 3) := by decide +kernel
theorem d_Ma_hasTooFew_6 : decode b_Ma_hasTooFew 6 = .ok (.aload_n 0, 1) := by decide +kernel
theorem d_Ma_hasTooFew_7 : decode b_Ma_hasTooFew 7 = .ok (.getfield 23, 3) := by decide +kernel
theorem d_Ma_hasTooFew_10 : decode b_Ma_hasTooFew 10 = .ok (.getfield 69, 3) := by decide +kernel
theorem d_Ma_hasTooFew_13 : decode b_Ma_hasTooFew 13 = .ok (.iconst 2, 1) := by decide +kernel
theorem d_Ma_hasTooFew_14 : decode b_Ma_hasTooFew 14 = .ok (.if_icmp .lt 20, 3) := by decide +kernel
theorem d_Ma_hasTooFew_17 : decode b_Ma_hasTooFew 17 = .ok (.aload_n 0, 1) := by decide +kernel
theorem d_Ma_hasTooFew_18 : decode b_Ma_hasTooFew 18 = .ok (.getfield 23, 3) := by decide +kernel
theorem d_Ma_hasTooFew_21 : decode b_Ma_hasTooFew 21 = .ok (.getfield 69, 3) := by decide +kernel
theorem d_Ma_hasTooFew_24 : decode b_Ma_hasTooFew 24 = .ok (.aload_n 0, 1) := by decide +kernel
theorem d_Ma_hasTooFew_25 : decode b_Ma_hasTooFew 25 = .ok (.getfield 23, 3) := by decide +kernel
theorem d_Ma_hasTooFew_28 : decode b_Ma_hasTooFew 28 = .ok (.getfield 63, 3) := by decide +kernel
theorem d_Ma_hasTooFew_31 : decode b_Ma_hasTooFew 31 = .ok (.if_icmp .lt 7, 3) := by decide +kernel
theorem d_Ma_hasTooFew_34 : decode b_Ma_hasTooFew 34 = .ok (.iconst 1, 1) := by decide +kernel
theorem d_Ma_hasTooFew_35 : decode b_Ma_hasTooFew 35 = .ok (.goto 4, 3) := by decide +kernel
theorem d_Ma_hasTooFew_38 : decode b_Ma_hasTooFew 38 = .ok (.iconst 0, 1) := by decide +kernel
theorem d_Ma_hasTooFew_39 : decode b_Ma_hasTooFew 39 = .ok (.ireturn, 1) := by decide +kernel
theorem d_Ma_hasTooFew_40 : decode b_Ma_hasTooFew 40 = .ok (.iload_n 1, 1) := by decide +kernel
theorem d_Ma_hasTooFew_41 : decode b_Ma_hasTooFew 41 = .ok (.bipush 17, 2) := by decide +kernel
theorem d_Ma_hasTooFew_43 : decode b_Ma_hasTooFew 43 = .ok (.if_icmp .ne 27, 3) := by decide +kernel
theorem d_Ma_hasTooFew_46 : decode b_Ma_hasTooFew 46 = .ok (.aload_n 0, 1) := by decide +kernel
theorem d_Ma_hasTooFew_47 : decode b_Ma_hasTooFew 47 = .ok (.iload_n 2, 1) := by decide +kernel
theorem d_Ma_hasTooFew_48 : decode b_Ma_hasTooFew 48 = .ok (.invokevirtual 72, 3) := by decide +kernel
theorem d_Ma_hasTooFew_51 : decode b_Ma_hasTooFew 51 = .ok (.aload_n 0, 1) := by decide +kernel
theorem d_Ma_hasTooFew_52 : decode b_Ma_hasTooFew 52 = .ok (.getfield 23, 3) := by decide +kernel
theorem d_Ma_hasTooFew_55 : decode b_Ma_hasTooFew 55 = .ok (.getfield 63, 3) := by decide +kernel
theorem d_Ma_hasTooFew_58 : decode b_Ma_hasTooFew 58 = .ok (.invokestatic 49, 3) := by decide +kernel
theorem d_Ma_hasTooFew_61 : decode b_Ma_hasTooFew 61 = .ok (.ifCond .ne 7, 3) := by decide +kernel
theorem d_Ma_hasTooFew_64 : decode b_Ma_hasTooFew 64 = .ok (.iconst 1, 1) := by decide +kernel
theorem d_Ma_hasTooFew_65 : decode b_Ma_hasTooFew 65 = .ok (.goto 4, 3) := by decide +kernel
theorem d_Ma_hasTooFew_68 : decode b_Ma_hasTooFew 68 = .ok (.iconst 0, 1) := by decide +kernel
theorem d_Ma_hasTooFew_69 : decode b_Ma_hasTooFew 69 = .ok (.ireturn, 1) := by decide +kernel
theorem d_Ma_hasTooFew_70 : decode b_Ma_hasTooFew 70 = .ok (.aload_n 0, 1) := by decide +kernel
theorem d_Ma_hasTooFew_71 : decode b_Ma_hasTooFew 71 = .ok (.getfield 23, 3) := by decide +kernel
theorem d_Ma_hasTooFew_74 : decode b_Ma_hasTooFew 74 = .ok (.getfield 63, 3) := by decide +kernel
theorem d_Ma_hasTooFew_77 : decode b_Ma_hasTooFew 77 = .ok (.getstatic 75, 3) := by decide +kernel
theorem d_Ma_hasTooFew_80 : decode b_Ma_hasTooFew 80 = .ok (.iload_n 1, 1) := by decide +kernel
theorem d_Ma_hasTooFew_81 : decode b_Ma_hasTooFew 81 = .ok (.iaload, 1) := by decide +kernel
theorem d_Ma_hasTooFew_82 : decode b_Ma_hasTooFew 82 = .ok (.if_icmp .ge 7, 3) := by decide +kernel
theorem d_Ma_hasTooFew_85 : decode b_Ma_hasTooFew 85 = .ok (.iconst 1, 1) := by decide +kernel
theorem d_Ma_hasTooFew_86 : decode b_Ma_hasTooFew 86 = .ok (.goto 4, 3) := by decide +kernel
theorem d_Ma_hasTooFew_89 : decode b_Ma_hasTooFew 89 = .ok (.iconst 0, 1) := by decide +kernel
theorem d_Ma_hasTooFew_90 : decode b_Ma_hasTooFew 90 = .ok (.ireturn, 1) := by decide +kernel
theorem d_Ma_argumentPlace_0 : decode b_Ma_argumentPlace 0 = .ok (.aload_n 0, 1) := by decide +kernel
theorem d_Ma_argumentPlace_1 : decode b_Ma_argumentPlace 1 = .ok (.getfield 23, 3) := by decide +kernel
theorem d_Ma_argumentPlace_4 : decode b_Ma_argumentPlace 4 = .ok (.getfield 69, 3) := by decide +kernel
theorem d_Ma_argumentPlace_7 : decode b_Ma_argumentPlace 7 = .ok (.iconst 3, 1) := by decide +kernel
theorem d_Ma_argumentPlace_8 : decode b_Ma_argumentPlace 8 = .ok (.isub, 1) := by decide +kernel
theorem d_Ma_argumentPlace_9 : decode b_Ma_argumentPlace 9 = .ok (.iload_n 1, 1) := by decide +kernel
theorem d_Ma_argumentPlace_10 : decode b_Ma_argumentPlace 10 = .ok (.isub, 1) := by decide +kernel
theorem d_Ma_argumentPlace_11 : decode b_Ma_argumentPlace 11 = .ok (.ireturn, 1) := by decide +kernel
theorem d_Ma_fromTop_0 : decode b_Ma_fromTop 0 = .ok (.aload_n 0, 1) := by decide +kernel
theorem d_Ma_fromTop_1 : decode b_Ma_fromTop 1 = .ok (.getfield 23, 3) := by decide +kernel
theorem d_Ma_fromTop_4 : decode b_Ma_fromTop 4 = .ok (.aload_n 0, 1) := by decide +kernel
theorem d_Ma_fromTop_5 : decode b_Ma_fromTop 5 = .ok (.getfield 23, 3) := by decide +kernel
theorem d_Ma_fromTop_8 : decode b_Ma_fromTop 8 = .ok (.getfield 63, 3) := by decide +kernel
theorem d_Ma_fromTop_11 : decode b_Ma_fromTop 11 = .ok (.iconst 1, 1) := by decide +kernel
theorem d_Ma_fromTop_12 : decode b_Ma_fromTop 12 = .ok (.isub, 1) := by decide +kernel
theorem d_Ma_fromTop_13 : decode b_Ma_fromTop 13 = .ok (.iload_n 1, 1) := by decide +kernel
theorem d_Ma_fromTop_14 : decode b_Ma_fromTop 14 = .ok (.isub, 1) := by decide +kernel
theorem d_Ma_fromTop_15 : decode b_Ma_fromTop 15 = .ok (.invokevirtual 78, 3) := by decide +kernel
theorem d_Ma_fromTop_18 : decode b_Ma_fromTop 18 = .ok (.ireturn, 1) := by decide +kernel
theorem d_Ma_perform_0 : decode b_Ma_perform 0 = .ok (.aload_n 0, 1) := by decide +kernel
theorem d_Ma_perform_1 : decode b_Ma_perform 1 = .ok (.getfield 23, 3) := by decide +kernel
theorem d_Ma_perform_4 : decode b_Ma_perform 4 = .ok (.getfield 46, 3) := by decide +kernel
theorem d_Ma_perform_7 : decode b_Ma_perform 7 = .ok (.bipush 64, 2) := by decide +kernel
theorem d_Ma_perform_9 : decode b_Ma_perform 9 = .ok (.invokestatic 49, 3) := by decide +kernel
theorem d_Ma_perform_12 : decode b_Ma_perform 12 = .ok (.ifCond .ne 4, 3) := by decide +kernel
theorem d_Ma_perform_15 : decode b_Ma_perform 15 = .ok (.return_, 1) := by decide +kernel
theorem d_Ma_perform_16 : decode b_Ma_perform 16 = .ok (.aload_n 0, 1) := by decide +kernel
theorem d_Ma_perform_17 : decode b_Ma_perform 17 = .ok (.getfield 9, 3) := by decide +kernel
theorem d_Ma_perform_20 : decode b_Ma_perform 20 = .ok (.aload_n 0, 1) := by decide +kernel
theorem d_Ma_perform_21 : decode b_Ma_perform 21 = .ok (.getfield 23, 3) := by decide +kernel
theorem d_Ma_perform_24 : decode b_Ma_perform 24 = .ok (.getfield 46, 3) := by decide +kernel
theorem d_Ma_perform_27 : decode b_Ma_perform 27 = .ok (.iaload, 1) := by decide +kernel
theorem d_Ma_perform_28 : decode b_Ma_perform 28 = .ok (.bipush 31, 2) := by decide +kernel
theorem d_Ma_perform_30 : decode b_Ma_perform 30 = .ok (.iand, 1) := by decide +kernel
theorem d_Ma_perform_31 : decode b_Ma_perform 31 = .ok (.istore_n 1, 1) := by decide +kernel
theorem d_Ma_perform_32 : decode b_Ma_perform 32 = .ok (.aload_n 0, 1) := by decide +kernel
theorem d_Ma_perform_33 : decode b_Ma_perform 33 = .ok (.getfield 9, 3) := by decide +kernel
theorem d_Ma_perform_36 : decode b_Ma_perform 36 = .ok (.aload_n 0, 1) := by decide +kernel
theorem d_Ma_perform_37 : decode b_Ma_perform 37 = .ok (.getfield 23, 3) := by decide +kernel
theorem d_Ma_perform_40 : decode b_Ma_perform 40 = .ok (.getfield 46, 3) := by decide +kernel
theorem d_Ma_perform_43 : decode b_Ma_perform 43 = .ok (.iaload, 1) := by decide +kernel
theorem d_Ma_perform_44 : decode b_Ma_perform 44 = .ok (.iconst 5, 1) := by decide +kernel
theorem d_Ma_perform_45 : decode b_Ma_perform 45 = .ok (.ishr, 1) := by decide +kernel
theorem d_Ma_perform_46 : decode b_Ma_perform 46 = .ok (.istore_n 2, 1) := by decide +kernel
theorem d_Ma_perform_47 : decode b_Ma_perform 47 = .ok (.aload_n 0, 1) := by decide +kernel
theorem d_Ma_perform_48 : decode b_Ma_perform 48 = .ok (.aload_n 0, 1) := by decide +kernel
theorem d_Ma_perform_49 : decode b_Ma_perform 49 = .ok (.getfield 30, 3) := by decide +kernel
theorem d_Ma_perform_52 : decode b_Ma_perform 52 = .ok (.aload_n 0, 1) := by decide +kernel
theorem d_Ma_perform_53 : decode b_Ma_perform 53 = .ok (.getfield 23, 3) := by decide +kernel
theorem d_Ma_perform_56 : decode b_Ma_perform 56 = .ok (.invokevirtual 81, 3) := by decide +kernel
theorem d_Ma_perform_59 : decode b_Ma_perform 59 = .ok (.putfield 38, 3) := by decide +kernel
theorem d_Ma_perform_62 : decode b_Ma_perform 62 = .ok (.aload_n 0, 1) := by decide +kernel
theorem d_Ma_perform_63 : decode b_Ma_perform 63 = .ok (.getfield 23, 3) := by decide +kernel
theorem d_Ma_perform_66 : decode b_Ma_perform 66 = .ok (.dup, 1) := by decide +kernel
theorem d_Ma_perform_67 : decode b_Ma_perform 67 = .ok (.getfield 85, 3) := by decide +kernel
theorem d_Ma_perform_70 : decode b_Ma_perform 70 = .ok (.iconst 1, 1) := by decide +kernel
theorem d_Ma_perform_71 : decode b_Ma_perform 71 = .ok (.iadd, 1) := by decide +kernel
theorem d_Ma_perform_72 : decode b_Ma_perform 72 = .ok (.putfield 85, 3) := by decide +kernel
theorem d_Ma_perform_75 : decode b_Ma_perform 75 = .ok (.aload_n 0, 1) := by decide +kernel
theorem d_Ma_perform_76 : decode b_Ma_perform 76 = .ok (.getfield 23, 3) := by decide +kernel
theorem d_Ma_perform_79 : decode b_Ma_perform 79 = .ok (.dup, 1) := by decide +kernel
theorem d_Ma_perform_80 : decode b_Ma_perform 80 = .ok (.getfield 46, 3) := by decide +kernel
theorem d_Ma_perform_83 : decode b_Ma_perform 83 = .ok (.iconst 1, 1) := by decide +kernel
theorem d_Ma_perform_84 : decode b_Ma_perform 84 = .ok (.iadd, 1) := by decide +kernel
theorem d_Ma_perform_85 : decode b_Ma_perform 85 = .ok (.putfield 46, 3) := by decide +kernel
theorem d_Ma_perform_88 : decode b_Ma_perform 88 = .ok (.aload_n 0, 1) := by decide +kernel
theorem d_Ma_perform_89 : decode b_Ma_perform 89 = .ok (.getfield 23, 3) := by decide +kernel
theorem d_Ma_perform_92 : decode b_Ma_perform 92 = .ok (.iconst (-1), 1) := by decide +kernel
theorem d_Ma_perform_93 : decode b_Ma_perform 93 = .ok (.putfield 88, 3) := by decide +kernel
theorem d_Ma_perform_96 : decode b_Ma_perform 96 = .ok (.iload_n 1, 1) := by decide +kernel
theorem d_Ma_perform_97 : decode b_Ma_perform 97 = .ok (.tableswitch 289 1 20 #[95, 103, 119, 131, 138, 138, 138, 138, 138, 159, 166, 173, 184, 205, 226, 234, 241, 260, 267, 275], 95) := by decide +kernel
theorem d_Ma_perform_192 : decode b_Ma_perform 192 = .ok (.aload_n 0, 1) := by decide +kernel
theorem d_Ma_perform_193 : decode b_Ma_perform 193 = .ok (.iload_n 2, 1) := by decide +kernel
theorem d_Ma_perform_194 : decode b_Ma_perform 194 = .ok (.invokevirtual 91, 3) := by decide +kernel
theorem d_Ma_perform_197 : decode b_Ma_perform 197 = .ok (.goto 189, 3) := by decide +kernel
theorem d_Ma_perform_200 : decode b_Ma_perform 200 = .ok (.aload_n 0, 1) := by decide +kernel
theorem d_Ma_perform_201 : decode b_Ma_perform 201 = .ok (.getfield 23, 3) := by decide +kernel
theorem d_Ma_perform_204 : decode b_Ma_perform 204 = .ok (.dup, 1) := by decide +kernel
theorem d_Ma_perform_205 : decode b_Ma_perform 205 = .ok (.getfield 63, 3) := by decide +kernel
theorem d_Ma_perform_208 : decode b_Ma_perform 208 = .ok (.iconst 1, 1) := by decide +kernel
theorem d_Ma_perform_209 : decode b_Ma_perform 209 = .ok (.isub, 1) := by decide +kernel
theorem d_Ma_perform_210 : decode b_Ma_perform 210 = .ok (.putfield 63, 3) := by decide +kernel
theorem d_Ma_perform_213 : decode b_Ma_perform 213 = .ok (.goto 173, 3) := by decide +kernel
theorem d_Ma_perform_216 : decode b_Ma_perform 216 = .ok (.aload_n 0, 1) := by decide +kernel
theorem d_Ma_perform_217 : decode b_Ma_perform 217 = .ok (.aload_n 0, 1) := by decide +kernel
theorem d_Ma_perform_218 : decode b_Ma_perform 218 = .ok (.iconst 0, 1) := by decide +kernel
theorem d_Ma_perform_219 : decode b_Ma_perform 219 = .ok (.invokevirtual 56, 3) := by decide +kernel
theorem d_Ma_perform_222 : decode b_Ma_perform 222 = .ok (.invokevirtual 91, 3) := by decide +kernel
theorem d_Ma_perform_225 : decode b_Ma_perform 225 = .ok (.goto 161, 3) := by decide +kernel
theorem d_Ma_perform_228 : decode b_Ma_perform 228 = .ok (.aload_n 0, 1) := by decide +kernel
theorem d_Ma_perform_229 : decode b_Ma_perform 229 = .ok (.invokevirtual 94, 3) := by decide +kernel
theorem d_Ma_perform_232 : decode b_Ma_perform 232 = .ok (.goto 154, 3) := by decide +kernel
theorem d_Ma_perform_235 : decode b_Ma_perform 235 = .ok (.aload_n 0, 1) := by decide +kernel
theorem d_Ma_perform_236 : decode b_Ma_perform 236 = .ok (.iload_n 1, 1) := by decide +kernel
theorem d_Ma_perform_237 : decode b_Ma_perform 237 = .ok (.aload_n 0, 1) := by decide +kernel
theorem d_Ma_perform_238 : decode b_Ma_perform 238 = .ok (.iconst 1, 1) := by decide +kernel
theorem d_Ma_perform_239 : decode b_Ma_perform 239 = .ok (.invokevirtual 56, 3) := by decide +kernel
theorem d_Ma_perform_242 : decode b_Ma_perform 242 = .ok (.aload_n 0, 1) := by decide +kernel
theorem d_Ma_perform_243 : decode b_Ma_perform 243 = .ok (.iconst 0, 1) := by decide +kernel
theorem d_Ma_perform_244 : decode b_Ma_perform 244 = .ok (.invokevirtual 56, 3) := by decide +kernel
theorem d_Ma_perform_247 : decode b_Ma_perform 247 = .ok (.invokestatic 97, 3) := by decide +kernel
theorem d_Ma_perform_250 : decode b_Ma_perform 250 = .ok (.invokevirtual 101, 3) := by decide +kernel
theorem d_Ma_perform_253 : decode b_Ma_perform 253 = .ok (.goto 133, 3) := by decide +kernel
theorem d_Ma_perform_256 : decode b_Ma_perform 256 = .ok (.aload_n 0, 1) := by decide +kernel
theorem d_Ma_perform_257 : decode b_Ma_perform 257 = .ok (.invokevirtual 104, 3) := by decide +kernel
theorem d_Ma_perform_260 : decode b_Ma_perform 260 = .ok (.goto 126, 3) := by decide +kernel
theorem d_Ma_perform_263 : decode b_Ma_perform 263 = .ok (.aload_n 0, 1) := by decide +kernel
theorem d_Ma_perform_264 : decode b_Ma_perform 264 = .ok (.invokevirtual 107, 3) := by decide +kernel
theorem d_Ma_perform_267 : decode b_Ma_perform 267 = .ok (.goto 119, 3) := by decide +kernel
theorem d_Ma_perform_270 : decode b_Ma_perform 270 = .ok (.aload_n 0, 1) := by decide +kernel
theorem d_Ma_perform_271 : decode b_Ma_perform 271 = .ok (.getfield 23, 3) := by decide +kernel
theorem d_Ma_perform_274 : decode b_Ma_perform 274 = .ok (.iload_n 2, 1) := by decide +kernel
theorem d_Ma_perform_275 : decode b_Ma_perform 275 = .ok (.putfield 46, 3) := by decide +kernel
theorem d_Ma_perform_278 : decode b_Ma_perform 278 = .ok (.goto 108, 3) := by decide +kernel
theorem d_Ma_perform_281 : decode b_Ma_perform 281 = .ok (.aload_n 0, 1) := by decide +kernel
theorem d_Ma_perform_282 : decode b_Ma_perform 282 = .ok (.aload_n 0, 1) := by decide +kernel
theorem d_Ma_perform_283 : decode b_Ma_perform 283 = .ok (.iconst 0, 1) := by decide +kernel
theorem d_Ma_perform_284 : decode b_Ma_perform 284 = .ok (.invokevirtual 56, 3) := by decide +kernel
theorem d_Ma_perform_287 : decode b_Ma_perform 287 = .ok (.ifCond .ne 7, 3) := by decide +kernel
theorem d_Ma_perform_290 : decode b_Ma_perform 290 = .ok (.iconst 1, 1) := by decide +kernel
theorem d_Ma_perform_291 : decode b_Ma_perform 291 = .ok (.goto 4, 3) := by decide +kernel
theorem d_Ma_perform_294 : decode b_Ma_perform 294 = .ok (.iconst 0, 1) := by decide +kernel
theorem d_Ma_perform_295 : decode b_Ma_perform 295 = .ok (.iload_n 2, 1) := by decide +kernel
theorem d_Ma_perform_296 : decode b_Ma_perform 296 = .ok (.invokevirtual 110, 3) := by decide +kernel
theorem d_Ma_perform_299 : decode b_Ma_perform 299 = .ok (.goto 87, 3) := by decide +kernel
theorem d_Ma_perform_302 : decode b_Ma_perform 302 = .ok (.aload_n 0, 1) := by decide +kernel
theorem d_Ma_perform_303 : decode b_Ma_perform 303 = .ok (.aload_n 0, 1) := by decide +kernel
theorem d_Ma_perform_304 : decode b_Ma_perform 304 = .ok (.iconst 0, 1) := by decide +kernel
theorem d_Ma_perform_305 : decode b_Ma_perform 305 = .ok (.invokevirtual 56, 3) := by decide +kernel
theorem d_Ma_perform_308 : decode b_Ma_perform 308 = .ok (.ifCond .ge 7, 3) := by decide +kernel
theorem d_Ma_perform_311 : decode b_Ma_perform 311 = .ok (.iconst 1, 1) := by decide +kernel
theorem d_Ma_perform_312 : decode b_Ma_perform 312 = .ok (.goto 4, 3) := by decide +kernel
theorem d_Ma_perform_315 : decode b_Ma_perform 315 = .ok (.iconst 0, 1) := by decide +kernel
theorem d_Ma_perform_316 : decode b_Ma_perform 316 = .ok (.iload_n 2, 1) := by decide +kernel
theorem d_Ma_perform_317 : decode b_Ma_perform 317 = .ok (.invokevirtual 110, 3) := by decide +kernel
theorem d_Ma_perform_320 : decode b_Ma_perform 320 = .ok (.goto 66, 3) := by decide +kernel
theorem d_Ma_perform_323 : decode b_Ma_perform 323 = .ok (.aload_n 0, 1) := by decide +kernel
theorem d_Ma_perform_324 : decode b_Ma_perform 324 = .ok (.iload_n 2, 1) := by decide +kernel
theorem d_Ma_perform_325 : decode b_Ma_perform 325 = .ok (.invokevirtual 114, 3) := by decide +kernel
theorem d_Ma_perform_328 : decode b_Ma_perform 328 = .ok (.goto 58, 3) := by decide +kernel
theorem d_Ma_perform_331 : decode b_Ma_perform 331 = .ok (.aload_n 0, 1) := by decide +kernel
theorem d_Ma_perform_332 : decode b_Ma_perform 332 = .ok (.invokevirtual 117, 3) := by decide +kernel
theorem d_Ma_perform_335 : decode b_Ma_perform 335 = .ok (.goto 51, 3) := by decide +kernel
theorem d_Ma_perform_338 : decode b_Ma_perform 338 = .ok (.aload_n 0, 1) := by decide +kernel
theorem d_Ma_perform_339 : decode b_Ma_perform 339 = .ok (.aload_n 0, 1) := by decide +kernel
theorem d_Ma_perform_340 : decode b_Ma_perform 340 = .ok (.getfield 23, 3) := by decide +kernel
theorem d_Ma_perform_343 : decode b_Ma_perform 343 = .ok (.aload_n 0, 1) := by decide +kernel
theorem d_Ma_perform_344 : decode b_Ma_perform 344 = .ok (.iload_n 2, 1) := by decide +kernel
theorem d_Ma_perform_345 : decode b_Ma_perform 345 = .ok (.invokevirtual 72, 3) := by decide +kernel
theorem d_Ma_perform_348 : decode b_Ma_perform 348 = .ok (.invokevirtual 78, 3) := by decide +kernel
theorem d_Ma_perform_351 : decode b_Ma_perform 351 = .ok (.invokevirtual 91, 3) := by decide +kernel
theorem d_Ma_perform_354 : decode b_Ma_perform 354 = .ok (.goto 32, 3) := by decide +kernel
theorem d_Ma_perform_357 : decode b_Ma_perform 357 = .ok (.aload_n 0, 1) := by decide +kernel
theorem d_Ma_perform_358 : decode b_Ma_perform 358 = .ok (.invokevirtual 120, 3) := by decide +kernel
theorem d_Ma_perform_361 : decode b_Ma_perform 361 = .ok (.goto 25, 3) := by decide +kernel
theorem d_Ma_perform_364 : decode b_Ma_perform 364 = .ok (.aload_n 0, 1) := by decide +kernel
theorem d_Ma_perform_365 : decode b_Ma_perform 365 = .ok (.iload_n 2, 1) := by decide +kernel
theorem d_Ma_perform_366 : decode b_Ma_perform 366 = .ok (.invokevirtual 123, 3) := by decide +kernel
theorem d_Ma_perform_369 : decode b_Ma_perform 369 = .ok (.goto 17, 3) := by decide +kernel
theorem d_Ma_perform_372 : decode b_Ma_perform 372 = .ok (.aload_n 0, 1) := by decide +kernel
theorem d_Ma_perform_373 : decode b_Ma_perform 373 = .ok (.aload_n 0, 1) := by decide +kernel
theorem d_Ma_perform_374 : decode b_Ma_perform 374 = .ok (.getfield 23, 3) := by decide +kernel
theorem d_Ma_perform_377 : decode b_Ma_perform 377 = .ok (.getfield 69, 3) := by decide +kernel
theorem d_Ma_perform_380 : decode b_Ma_perform 380 = .ok (.invokevirtual 91, 3) := by decide +kernel
theorem d_Ma_perform_383 : decode b_Ma_perform 383 = .ok (.goto 3, 3) := by decide +kernel
theorem d_Ma_perform_386 : decode b_Ma_perform 386 = .ok (.return_, 1) := by decide +kernel
theorem d_Ma_put_0 : decode b_Ma_put 0 = .ok (.iload_n 1, 1) := by decide +kernel
theorem d_Ma_put_1 : decode b_Ma_put 1 = .ok (.bipush 56, 2) := by decide +kernel
theorem d_Ma_put_3 : decode b_Ma_put 3 = .ok (.invokestatic 49, 3) := by decide +kernel
theorem d_Ma_put_6 : decode b_Ma_put 6 = .ok (.ifCond .eq 30, 3) := by decide +kernel
theorem d_Ma_put_9 : decode b_Ma_put 9 = .ok (.aload_n 0, 1) := by decide +kernel
theorem d_Ma_put_10 : decode b_Ma_put 10 = .ok (.getfield 38, 3) := by decide +kernel
theorem d_Ma_put_13 : decode b_Ma_put 13 = .ok (.iload_n 1, 1) := by decide +kernel
theorem d_Ma_put_14 : decode b_Ma_put 14 = .ok (.aload_n 0, 1) := by decide +kernel
theorem d_Ma_put_15 : decode b_Ma_put 15 = .ok (.getfield 23, 3) := by decide +kernel
theorem d_Ma_put_18 : decode b_Ma_put 18 = .ok (.getfield 126, 3) := by decide +kernel
theorem d_Ma_put_21 : decode b_Ma_put 21 = .ok (.iload_n 1, 1) := by decide +kernel
theorem d_Ma_put_22 : decode b_Ma_put 22 = .ok (.iaload, 1) := by decide +kernel
theorem d_Ma_put_23 : decode b_Ma_put 23 = .ok (.invokevirtual 129, 3) := by decide +kernel
theorem d_Ma_put_26 : decode b_Ma_put 26 = .ok (.aload_n 0, 1) := by decide +kernel
theorem d_Ma_put_27 : decode b_Ma_put 27 = .ok (.getfield 23, 3) := by decide +kernel
theorem d_Ma_put_30 : decode b_Ma_put 30 = .ok (.getfield 126, 3) := by decide +kernel
theorem d_Ma_put_33 : decode b_Ma_put 33 = .ok (.iload_n 1, 1) := by decide +kernel
theorem d_Ma_put_34 : decode b_Ma_put 34 = .ok (.iload_n 2, 1) := by decide +kernel
theorem d_Ma_put_35 : decode b_Ma_put 35 = .ok (.iastore, 1) := by decide +kernel
theorem d_Ma_put_36 : decode b_Ma_put 36 = .ok (.return_, 1) := by decide +kernel
theorem d_Ma_push_0 : decode b_Ma_push 0 = .ok (.aload_n 0, 1) := by decide +kernel
theorem d_Ma_push_1 : decode b_Ma_push 1 = .ok (.bipush 32, 2) := by decide +kernel
theorem d_Ma_push_3 : decode b_Ma_push 3 = .ok (.aload_n 0, 1) := by decide +kernel
theorem d_Ma_push_4 : decode b_Ma_push 4 = .ok (.getfield 23, 3) := by decide +kernel
theorem d_Ma_push_7 : decode b_Ma_push 7 = .ok (.getfield 63, 3) := by decide +kernel
theorem d_Ma_push_10 : decode b_Ma_push 10 = .ok (.iadd, 1) := by decide +kernel
theorem d_Ma_push_11 : decode b_Ma_push 11 = .ok (.iload_n 1, 1) := by decide +kernel
theorem d_Ma_push_12 : decode b_Ma_push 12 = .ok (.invokevirtual 135, 3) := by decide +kernel
theorem d_Ma_push_15 : decode b_Ma_push 15 = .ok (.aload_n 0, 1) := by decide +kernel
theorem d_Ma_push_16 : decode b_Ma_push 16 = .ok (.getfield 23, 3) := by decide +kernel
theorem d_Ma_push_19 : decode b_Ma_push 19 = .ok (.dup, 1) := by decide +kernel
theorem d_Ma_push_20 : decode b_Ma_push 20 = .ok (.getfield 63, 3) := by decide +kernel
theorem d_Ma_push_23 : decode b_Ma_push 23 = .ok (.iconst 1, 1) := by decide +kernel
theorem d_Ma_push_24 : decode b_Ma_push 24 = .ok (.iadd, 1) := by decide +kernel
theorem d_Ma_push_25 : decode b_Ma_push 25 = .ok (.putfield 63, 3) := by decide +kernel
theorem d_Ma_push_28 : decode b_Ma_push 28 = .ok (.return_, 1) := by decide +kernel
theorem d_Ma_replaceTwo_0 : decode b_Ma_replaceTwo 0 = .ok (.aload_n 0, 1) := by decide +kernel
theorem d_Ma_replaceTwo_1 : decode b_Ma_replaceTwo 1 = .ok (.getfield 23, 3) := by decide +kernel
theorem d_Ma_replaceTwo_4 : decode b_Ma_replaceTwo 4 = .ok (.dup, 1) := by decide +kernel
theorem d_Ma_replaceTwo_5 : decode b_Ma_replaceTwo 5 = .ok (.getfield 63, 3) := by decide +kernel
theorem d_Ma_replaceTwo_8 : decode b_Ma_replaceTwo 8 = .ok (.iconst 2, 1) := by decide +kernel
theorem d_Ma_replaceTwo_9 : decode b_Ma_replaceTwo 9 = .ok (.isub, 1) := by decide +kernel
theorem d_Ma_replaceTwo_10 : decode b_Ma_replaceTwo 10 = .ok (.putfield 63, 3) := by decide +kernel
theorem d_Ma_replaceTwo_13 : decode b_Ma_replaceTwo 13 = .ok (.aload_n 0, 1) := by decide +kernel
theorem d_Ma_replaceTwo_14 : decode b_Ma_replaceTwo 14 = .ok (.iload_n 1, 1) := by decide +kernel
theorem d_Ma_replaceTwo_15 : decode b_Ma_replaceTwo 15 = .ok (.invokevirtual 91, 3) := by decide +kernel
theorem d_Ma_replaceTwo_18 : decode b_Ma_replaceTwo 18 = .ok (.return_, 1) := by decide +kernel
theorem d_Ma_exchange_0 : decode b_Ma_exchange 0 = .ok (.aload_n 0, 1) := by decide +kernel
theorem d_Ma_exchange_1 : decode b_Ma_exchange 1 = .ok (.iconst 1, 1) := by decide +kernel
theorem d_Ma_exchange_2 : decode b_Ma_exchange 2 = .ok (.invokevirtual 56, 3) := by decide +kernel
theorem d_Ma_exchange_5 : decode b_Ma_exchange 5 = .ok (.istore_n 1, 1) := by decide +kernel
theorem d_Ma_exchange_6 : decode b_Ma_exchange 6 = .ok (.aload_n 0, 1) := by decide +kernel
theorem d_Ma_exchange_7 : decode b_Ma_exchange 7 = .ok (.iconst 0, 1) := by decide +kernel
theorem d_Ma_exchange_8 : decode b_Ma_exchange 8 = .ok (.invokevirtual 56, 3) := by decide +kernel
theorem d_Ma_exchange_11 : decode b_Ma_exchange 11 = .ok (.istore_n 2, 1) := by decide +kernel
theorem d_Ma_exchange_12 : decode b_Ma_exchange 12 = .ok (.aload_n 0, 1) := by decide +kernel
theorem d_Ma_exchange_13 : decode b_Ma_exchange 13 = .ok (.bipush 32, 2) := by decide +kernel
theorem d_Ma_exchange_15 : decode b_Ma_exchange 15 = .ok (.aload_n 0, 1) := by decide +kernel
theorem d_Ma_exchange_16 : decode b_Ma_exchange 16 = .ok (.getfield 23, 3) := by decide +kernel
theorem d_Ma_exchange_19 : decode b_Ma_exchange 19 = .ok (.getfield 63, 3) := by decide +kernel
theorem d_Ma_exchange_22 : decode b_Ma_exchange 22 = .ok (.iadd, 1) := by decide +kernel
theorem d_Ma_exchange_23 : decode b_Ma_exchange 23 = .ok (.iconst 2, 1) := by decide +kernel
theorem d_Ma_exchange_24 : decode b_Ma_exchange 24 = .ok (.isub, 1) := by decide +kernel
theorem d_Ma_exchange_25 : decode b_Ma_exchange 25 = .ok (.iload_n 2, 1) := by decide +kernel
theorem d_Ma_exchange_26 : decode b_Ma_exchange 26 = .ok (.invokevirtual 135, 3) := by decide +kernel
theorem d_Ma_exchange_29 : decode b_Ma_exchange 29 = .ok (.aload_n 0, 1) := by decide +kernel
theorem d_Ma_exchange_30 : decode b_Ma_exchange 30 = .ok (.bipush 32, 2) := by decide +kernel
theorem d_Ma_exchange_32 : decode b_Ma_exchange 32 = .ok (.aload_n 0, 1) := by decide +kernel
theorem d_Ma_exchange_33 : decode b_Ma_exchange 33 = .ok (.getfield 23, 3) := by decide +kernel
theorem d_Ma_exchange_36 : decode b_Ma_exchange 36 = .ok (.getfield 63, 3) := by decide +kernel
theorem d_Ma_exchange_39 : decode b_Ma_exchange 39 = .ok (.iadd, 1) := by decide +kernel
theorem d_Ma_exchange_40 : decode b_Ma_exchange 40 = .ok (.iconst 1, 1) := by decide +kernel
theorem d_Ma_exchange_41 : decode b_Ma_exchange 41 = .ok (.isub, 1) := by decide +kernel
theorem d_Ma_exchange_42 : decode b_Ma_exchange 42 = .ok (.iload_n 1, 1) := by decide +kernel
theorem d_Ma_exchange_43 : decode b_Ma_exchange 43 = .ok (.invokevirtual 135, 3) := by decide +kernel
theorem d_Ma_exchange_46 : decode b_Ma_exchange 46 = .ok (.return_, 1) := by decide +kernel
theorem d_Ma_result_0 : decode b_Ma_result 0 = .ok (.iload_n 0, 1) := by decide +kernel
theorem d_Ma_result_1 : decode b_Ma_result 1 = .ok (.tableswitch 55 5 8 #[31, 35, 39, 43], 31) := by decide +kernel
theorem d_Ma_result_32 : decode b_Ma_result 32 = .ok (.iload_n 1, 1) := by decide +kernel
theorem d_Ma_result_33 : decode b_Ma_result 33 = .ok (.iload_n 2, 1) := by decide +kernel
theorem d_Ma_result_34 : decode b_Ma_result 34 = .ok (.iadd, 1) := by decide +kernel
theorem d_Ma_result_35 : decode b_Ma_result 35 = .ok (.ireturn, 1) := by decide +kernel
theorem d_Ma_result_36 : decode b_Ma_result 36 = .ok (.iload_n 1, 1) := by decide +kernel
theorem d_Ma_result_37 : decode b_Ma_result 37 = .ok (.iload_n 2, 1) := by decide +kernel
theorem d_Ma_result_38 : decode b_Ma_result 38 = .ok (.isub, 1) := by decide +kernel
theorem d_Ma_result_39 : decode b_Ma_result 39 = .ok (.ireturn, 1) := by decide +kernel
theorem d_Ma_result_40 : decode b_Ma_result 40 = .ok (.iload_n 1, 1) := by decide +kernel
theorem d_Ma_result_41 : decode b_Ma_result 41 = .ok (.iload_n 2, 1) := by decide +kernel
theorem d_Ma_result_42 : decode b_Ma_result 42 = .ok (.imul, 1) := by decide +kernel
theorem d_Ma_result_43 : decode b_Ma_result 43 = .ok (.ireturn, 1) := by decide +kernel
theorem d_Ma_result_44 : decode b_Ma_result 44 = .ok (.iload_n 2, 1) := by decide +kernel
theorem d_Ma_result_45 : decode b_Ma_result 45 = .ok (.ifCond .ne 7, 3) := by decide +kernel
theorem d_Ma_result_48 : decode b_Ma_result 48 = .ok (.iconst 0, 1) := by decide +kernel
theorem d_Ma_result_49 : decode b_Ma_result 49 = .ok (.goto 6, 3) := by decide +kernel
theorem d_Ma_result_52 : decode b_Ma_result 52 = .ok (.iload_n 1, 1) := by decide +kernel
theorem d_Ma_result_53 : decode b_Ma_result 53 = .ok (.iload_n 2, 1) := by decide +kernel
theorem d_Ma_result_54 : decode b_Ma_result 54 = .ok (.idiv, 1) := by decide +kernel
theorem d_Ma_result_55 : decode b_Ma_result 55 = .ok (.ireturn, 1) := by decide +kernel
theorem d_Ma_result_56 : decode b_Ma_result 56 = .ok (.iload_n 1, 1) := by decide +kernel
theorem d_Ma_result_57 : decode b_Ma_result 57 = .ok (.iload_n 2, 1) := by decide +kernel
theorem d_Ma_result_58 : decode b_Ma_result 58 = .ok (.if_icmp .ge 7, 3) := by decide +kernel
theorem d_Ma_result_61 : decode b_Ma_result 61 = .ok (.iconst 1, 1) := by decide +kernel
theorem d_Ma_result_62 : decode b_Ma_result 62 = .ok (.goto 4, 3) := by decide +kernel
theorem d_Ma_result_65 : decode b_Ma_result 65 = .ok (.iconst 0, 1) := by decide +kernel
theorem d_Ma_result_66 : decode b_Ma_result 66 = .ok (.ireturn, 1) := by decide +kernel
theorem d_Ma_load_0 : decode b_Ma_load 0 = .ok (.aload_n 0, 1) := by decide +kernel
theorem d_Ma_load_1 : decode b_Ma_load 1 = .ok (.iconst 0, 1) := by decide +kernel
theorem d_Ma_load_2 : decode b_Ma_load 2 = .ok (.invokevirtual 56, 3) := by decide +kernel
theorem d_Ma_load_5 : decode b_Ma_load 5 = .ok (.istore_n 1, 1) := by decide +kernel
theorem d_Ma_load_6 : decode b_Ma_load 6 = .ok (.iload_n 1, 1) := by decide +kernel
theorem d_Ma_load_7 : decode b_Ma_load 7 = .ok (.bipush 32, 2) := by decide +kernel
theorem d_Ma_load_9 : decode b_Ma_load 9 = .ok (.invokestatic 49, 3) := by decide +kernel
theorem d_Ma_load_12 : decode b_Ma_load 12 = .ok (.ifCond .eq 29, 3) := by decide +kernel
theorem d_Ma_load_15 : decode b_Ma_load 15 = .ok (.aload_n 0, 1) := by decide +kernel
theorem d_Ma_load_16 : decode b_Ma_load 16 = .ok (.getfield 23, 3) := by decide +kernel
theorem d_Ma_load_19 : decode b_Ma_load 19 = .ok (.dup, 1) := by decide +kernel
theorem d_Ma_load_20 : decode b_Ma_load 20 = .ok (.getfield 63, 3) := by decide +kernel
theorem d_Ma_load_23 : decode b_Ma_load 23 = .ok (.iconst 1, 1) := by decide +kernel
theorem d_Ma_load_24 : decode b_Ma_load 24 = .ok (.isub, 1) := by decide +kernel
theorem d_Ma_load_25 : decode b_Ma_load 25 = .ok (.putfield 63, 3) := by decide +kernel
theorem d_Ma_load_28 : decode b_Ma_load 28 = .ok (.aload_n 0, 1) := by decide +kernel
theorem d_Ma_load_29 : decode b_Ma_load 29 = .ok (.aload_n 0, 1) := by decide +kernel
theorem d_Ma_load_30 : decode b_Ma_load 30 = .ok (.getfield 23, 3) := by decide +kernel
theorem d_Ma_load_33 : decode b_Ma_load 33 = .ok (.getfield 126, 3) := by decide +kernel
theorem d_Ma_load_36 : decode b_Ma_load 36 = .ok (.iload_n 1, 1) := by decide +kernel
theorem d_Ma_load_37 : decode b_Ma_load 37 = .ok (.iaload, 1) := by decide +kernel
theorem d_Ma_load_38 : decode b_Ma_load 38 = .ok (.invokevirtual 91, 3) := by decide +kernel
theorem d_Ma_load_41 : decode b_Ma_load 41 = .ok (.return_, 1) := by decide +kernel
theorem d_Ma_store_0 : decode b_Ma_store 0 = .ok (.aload_n 0, 1) := by decide +kernel
theorem d_Ma_store_1 : decode b_Ma_store 1 = .ok (.iconst 0, 1) := by decide +kernel
theorem d_Ma_store_2 : decode b_Ma_store 2 = .ok (.invokevirtual 56, 3) := by decide +kernel
theorem d_Ma_store_5 : decode b_Ma_store 5 = .ok (.istore_n 1, 1) := by decide +kernel
theorem d_Ma_store_6 : decode b_Ma_store 6 = .ok (.aload_n 0, 1) := by decide +kernel
theorem d_Ma_store_7 : decode b_Ma_store 7 = .ok (.iconst 1, 1) := by decide +kernel
theorem d_Ma_store_8 : decode b_Ma_store 8 = .ok (.invokevirtual 56, 3) := by decide +kernel
theorem d_Ma_store_11 : decode b_Ma_store 11 = .ok (.istore_n 2, 1) := by decide +kernel
theorem d_Ma_store_12 : decode b_Ma_store 12 = .ok (.iload_n 1, 1) := by decide +kernel
theorem d_Ma_store_13 : decode b_Ma_store 13 = .ok (.bipush 32, 2) := by decide +kernel
theorem d_Ma_store_15 : decode b_Ma_store 15 = .ok (.invokestatic 49, 3) := by decide +kernel
theorem d_Ma_store_18 : decode b_Ma_store 18 = .ok (.ifCond .eq 47, 3) := by decide +kernel
theorem d_Ma_store_21 : decode b_Ma_store 21 = .ok (.aload_n 0, 1) := by decide +kernel
theorem d_Ma_store_22 : decode b_Ma_store 22 = .ok (.getfield 23, 3) := by decide +kernel
theorem d_Ma_store_25 : decode b_Ma_store 25 = .ok (.aload_n 0, 1) := by decide +kernel
theorem d_Ma_store_26 : decode b_Ma_store 26 = .ok (.getfield 23, 3) := by decide +kernel
theorem d_Ma_store_29 : decode b_Ma_store 29 = .ok (.getfield 126, 3) := by decide +kernel
theorem d_Ma_store_32 : decode b_Ma_store 32 = .ok (.iload_n 1, 1) := by decide +kernel
theorem d_Ma_store_33 : decode b_Ma_store 33 = .ok (.iaload, 1) := by decide +kernel
theorem d_Ma_store_34 : decode b_Ma_store 34 = .ok (.iload_n 2, 1) := by decide +kernel
theorem d_Ma_store_35 : decode b_Ma_store 35 = .ok (.if_icmp .ne 7, 3) := by decide +kernel
theorem d_Ma_store_38 : decode b_Ma_store 38 = .ok (.iconst (-1), 1) := by decide +kernel
theorem d_Ma_store_39 : decode b_Ma_store 39 = .ok (.goto 4, 3) := by decide +kernel
theorem d_Ma_store_42 : decode b_Ma_store 42 = .ok (.iload_n 1, 1) := by decide +kernel
theorem d_Ma_store_43 : decode b_Ma_store 43 = .ok (.putfield 88, 3) := by decide +kernel
theorem d_Ma_store_46 : decode b_Ma_store 46 = .ok (.aload_n 0, 1) := by decide +kernel
theorem d_Ma_store_47 : decode b_Ma_store 47 = .ok (.iload_n 1, 1) := by decide +kernel
theorem d_Ma_store_48 : decode b_Ma_store 48 = .ok (.iload_n 2, 1) := by decide +kernel
theorem d_Ma_store_49 : decode b_Ma_store 49 = .ok (.invokevirtual 135, 3) := by decide +kernel
theorem d_Ma_store_52 : decode b_Ma_store 52 = .ok (.aload_n 0, 1) := by decide +kernel
theorem d_Ma_store_53 : decode b_Ma_store 53 = .ok (.getfield 23, 3) := by decide +kernel
theorem d_Ma_store_56 : decode b_Ma_store 56 = .ok (.dup, 1) := by decide +kernel
theorem d_Ma_store_57 : decode b_Ma_store 57 = .ok (.getfield 63, 3) := by decide +kernel
theorem d_Ma_store_60 : decode b_Ma_store 60 = .ok (.iconst 2, 1) := by decide +kernel
theorem d_Ma_store_61 : decode b_Ma_store 61 = .ok (.isub, 1) := by decide +kernel
theorem d_Ma_store_62 : decode b_Ma_store 62 = .ok (.putfield 63, 3) := by decide +kernel
theorem d_Ma_store_65 : decode b_Ma_store 65 = .ok (.return_, 1) := by decide +kernel
theorem d_Ma_jumpIf_0 : decode b_Ma_jumpIf 0 = .ok (.aload_n 0, 1) := by decide +kernel
theorem d_Ma_jumpIf_1 : decode b_Ma_jumpIf 1 = .ok (.getfield 23, 3) := by decide +kernel
theorem d_Ma_jumpIf_4 : decode b_Ma_jumpIf 4 = .ok (.dup, 1) := by decide +kernel
theorem d_Ma_jumpIf_5 : decode b_Ma_jumpIf 5 = .ok (.getfield 63, 3) := by decide +kernel
theorem d_Ma_jumpIf_8 : decode b_Ma_jumpIf 8 = .ok (.iconst 1, 1) := by decide +kernel
theorem d_Ma_jumpIf_9 : decode b_Ma_jumpIf 9 = .ok (.isub, 1) := by decide +kernel
theorem d_Ma_jumpIf_10 : decode b_Ma_jumpIf 10 = .ok (.putfield 63, 3) := by decide +kernel
theorem d_Ma_jumpIf_13 : decode b_Ma_jumpIf 13 = .ok (.iload_n 1, 1) := by decide +kernel
theorem d_Ma_jumpIf_14 : decode b_Ma_jumpIf 14 = .ok (.ifCond .eq 11, 3) := by decide +kernel
theorem d_Ma_jumpIf_17 : decode b_Ma_jumpIf 17 = .ok (.aload_n 0, 1) := by decide +kernel
theorem d_Ma_jumpIf_18 : decode b_Ma_jumpIf 18 = .ok (.getfield 23, 3) := by decide +kernel
theorem d_Ma_jumpIf_21 : decode b_Ma_jumpIf 21 = .ok (.iload_n 2, 1) := by decide +kernel
theorem d_Ma_jumpIf_22 : decode b_Ma_jumpIf 22 = .ok (.putfield 46, 3) := by decide +kernel
theorem d_Ma_jumpIf_25 : decode b_Ma_jumpIf 25 = .ok (.return_, 1) := by decide +kernel
theorem d_Ma_enter_0 : decode b_Ma_enter 0 = .ok (.aload_n 0, 1) := by decide +kernel
theorem d_Ma_enter_1 : decode b_Ma_enter 1 = .ok (.aload_n 0, 1) := by decide +kernel
theorem d_Ma_enter_2 : decode b_Ma_enter 2 = .ok (.getfield 23, 3) := by decide +kernel
theorem d_Ma_enter_5 : decode b_Ma_enter 5 = .ok (.getfield 46, 3) := by decide +kernel
theorem d_Ma_enter_8 : decode b_Ma_enter 8 = .ok (.invokevirtual 91, 3) := by decide +kernel
theorem d_Ma_enter_11 : decode b_Ma_enter 11 = .ok (.aload_n 0, 1) := by decide +kernel
theorem d_Ma_enter_12 : decode b_Ma_enter 12 = .ok (.aload_n 0, 1) := by decide +kernel
theorem d_Ma_enter_13 : decode b_Ma_enter 13 = .ok (.getfield 23, 3) := by decide +kernel
theorem d_Ma_enter_16 : decode b_Ma_enter 16 = .ok (.getfield 69, 3) := by decide +kernel
theorem d_Ma_enter_19 : decode b_Ma_enter 19 = .ok (.invokevirtual 91, 3) := by decide +kernel
theorem d_Ma_enter_22 : decode b_Ma_enter 22 = .ok (.aload_n 0, 1) := by decide +kernel
theorem d_Ma_enter_23 : decode b_Ma_enter 23 = .ok (.getfield 23, 3) := by decide +kernel
theorem d_Ma_enter_26 : decode b_Ma_enter 26 = .ok (.aload_n 0, 1) := by decide +kernel
theorem d_Ma_enter_27 : decode b_Ma_enter 27 = .ok (.getfield 23, 3) := by decide +kernel
theorem d_Ma_enter_30 : decode b_Ma_enter 30 = .ok (.getfield 63, 3) := by decide +kernel
theorem d_Ma_enter_33 : decode b_Ma_enter 33 = .ok (.putfield 69, 3) := by decide +kernel
theorem d_Ma_enter_36 : decode b_Ma_enter 36 = .ok (.aload_n 0, 1) := by decide +kernel
theorem d_Ma_enter_37 : decode b_Ma_enter 37 = .ok (.getfield 23, 3) := by decide +kernel
theorem d_Ma_enter_40 : decode b_Ma_enter 40 = .ok (.iload_n 1, 1) := by decide +kernel
theorem d_Ma_enter_41 : decode b_Ma_enter 41 = .ok (.putfield 46, 3) := by decide +kernel
theorem d_Ma_enter_44 : decode b_Ma_enter 44 = .ok (.return_, 1) := by decide +kernel
theorem d_Ma_leave_0 : decode b_Ma_leave 0 = .ok (.aload_n 0, 1) := by decide +kernel
theorem d_Ma_leave_1 : decode b_Ma_leave 1 = .ok (.iconst 0, 1) := by decide +kernel
theorem d_Ma_leave_2 : decode b_Ma_leave 2 = .ok (.invokevirtual 56, 3) := by decide +kernel
theorem d_Ma_leave_5 : decode b_Ma_leave 5 = .ok (.istore_n 1, 1) := by decide +kernel
theorem d_Ma_leave_6 : decode b_Ma_leave 6 = .ok (.aload_n 0, 1) := by decide +kernel
theorem d_Ma_leave_7 : decode b_Ma_leave 7 = .ok (.getfield 23, 3) := by decide +kernel
theorem d_Ma_leave_10 : decode b_Ma_leave 10 = .ok (.aload_n 0, 1) := by decide +kernel
theorem d_Ma_leave_11 : decode b_Ma_leave 11 = .ok (.getfield 23, 3) := by decide +kernel
theorem d_Ma_leave_14 : decode b_Ma_leave 14 = .ok (.getfield 69, 3) := by decide +kernel
theorem d_Ma_leave_17 : decode b_Ma_leave 17 = .ok (.iconst 2, 1) := by decide +kernel
theorem d_Ma_leave_18 : decode b_Ma_leave 18 = .ok (.isub, 1) := by decide +kernel
theorem d_Ma_leave_19 : decode b_Ma_leave 19 = .ok (.putfield 63, 3) := by decide +kernel
theorem d_Ma_leave_22 : decode b_Ma_leave 22 = .ok (.aload_n 0, 1) := by decide +kernel
theorem d_Ma_leave_23 : decode b_Ma_leave 23 = .ok (.getfield 23, 3) := by decide +kernel
theorem d_Ma_leave_26 : decode b_Ma_leave 26 = .ok (.aload_n 0, 1) := by decide +kernel
theorem d_Ma_leave_27 : decode b_Ma_leave 27 = .ok (.getfield 23, 3) := by decide +kernel
theorem d_Ma_leave_30 : decode b_Ma_leave 30 = .ok (.aload_n 0, 1) := by decide +kernel
theorem d_Ma_leave_31 : decode b_Ma_leave 31 = .ok (.getfield 23, 3) := by decide +kernel
theorem d_Ma_leave_34 : decode b_Ma_leave 34 = .ok (.getfield 63, 3) := by decide +kernel
theorem d_Ma_leave_37 : decode b_Ma_leave 37 = .ok (.invokevirtual 78, 3) := by decide +kernel
theorem d_Ma_leave_40 : decode b_Ma_leave 40 = .ok (.putfield 46, 3) := by decide +kernel
theorem d_Ma_leave_43 : decode b_Ma_leave 43 = .ok (.aload_n 0, 1) := by decide +kernel
theorem d_Ma_leave_44 : decode b_Ma_leave 44 = .ok (.getfield 23, 3) := by decide +kernel
theorem d_Ma_leave_47 : decode b_Ma_leave 47 = .ok (.aload_n 0, 1) := by decide +kernel
theorem d_Ma_leave_48 : decode b_Ma_leave 48 = .ok (.getfield 23, 3) := by decide +kernel
theorem d_Ma_leave_51 : decode b_Ma_leave 51 = .ok (.aload_n 0, 1) := by decide +kernel
theorem d_Ma_leave_52 : decode b_Ma_leave 52 = .ok (.getfield 23, 3) := by decide +kernel
theorem d_Ma_leave_55 : decode b_Ma_leave 55 = .ok (.getfield 63, 3) := by decide +kernel
theorem d_Ma_leave_58 : decode b_Ma_leave 58 = .ok (.iconst 1, 1) := by decide +kernel
theorem d_Ma_leave_59 : decode b_Ma_leave 59 = .ok (.iadd, 1) := by decide +kernel
theorem d_Ma_leave_60 : decode b_Ma_leave 60 = .ok (.invokevirtual 78, 3) := by decide +kernel
theorem d_Ma_leave_63 : decode b_Ma_leave 63 = .ok (.putfield 69, 3) := by decide +kernel
theorem d_Ma_leave_66 : decode b_Ma_leave 66 = .ok (.aload_n 0, 1) := by decide +kernel
theorem d_Ma_leave_67 : decode b_Ma_leave 67 = .ok (.iload_n 1, 1) := by decide +kernel
theorem d_Ma_leave_68 : decode b_Ma_leave 68 = .ok (.invokevirtual 91, 3) := by decide +kernel
theorem d_Ma_leave_71 : decode b_Ma_leave 71 = .ok (.return_, 1) := by decide +kernel
theorem d_Ma_takeInput_0 : decode b_Ma_takeInput 0 = .ok (.aload_n 0, 1) := by decide +kernel
theorem d_Ma_takeInput_1 : decode b_Ma_takeInput 1 = .ok (.getfield 23, 3) := by decide +kernel
theorem d_Ma_takeInput_4 : decode b_Ma_takeInput 4 = .ok (.getfield 60, 3) := by decide +kernel
theorem d_Ma_takeInput_7 : decode b_Ma_takeInput 7 = .ok (.aload_n 0, 1) := by decide +kernel
theorem d_Ma_takeInput_8 : decode b_Ma_takeInput 8 = .ok (.getfield 42, 3) := by decide +kernel
theorem d_Ma_takeInput_11 : decode b_Ma_takeInput 11 = .ok (.invokestatic 49, 3) := by decide +kernel
theorem d_Ma_takeInput_14 : decode b_Ma_takeInput 14 = .ok (.ifCond .eq 32, 3) := by decide +kernel
theorem d_Ma_takeInput_17 : decode b_Ma_takeInput 17 = .ok (.aload_n 0, 1) := by decide +kernel
theorem d_Ma_takeInput_18 : decode b_Ma_takeInput 18 = .ok (.aload_n 0, 1) := by decide +kernel
theorem d_Ma_takeInput_19 : decode b_Ma_takeInput 19 = .ok (.getfield 15, 3) := by decide +kernel
theorem d_Ma_takeInput_22 : decode b_Ma_takeInput 22 = .ok (.aload_n 0, 1) := by decide +kernel
theorem d_Ma_takeInput_23 : decode b_Ma_takeInput 23 = .ok (.getfield 23, 3) := by decide +kernel
theorem d_Ma_takeInput_26 : decode b_Ma_takeInput 26 = .ok (.getfield 60, 3) := by decide +kernel
theorem d_Ma_takeInput_29 : decode b_Ma_takeInput 29 = .ok (.iaload, 1) := by decide +kernel
theorem d_Ma_takeInput_30 : decode b_Ma_takeInput 30 = .ok (.invokevirtual 91, 3) := by decide +kernel
theorem d_Ma_takeInput_33 : decode b_Ma_takeInput 33 = .ok (.aload_n 0, 1) := by decide +kernel
theorem d_Ma_takeInput_34 : decode b_Ma_takeInput 34 = .ok (.getfield 23, 3) := by decide +kernel
theorem d_Ma_takeInput_37 : decode b_Ma_takeInput 37 = .ok (.dup, 1) := by decide +kernel
theorem d_Ma_takeInput_38 : decode b_Ma_takeInput 38 = .ok (.getfield 60, 3) := by decide +kernel
theorem d_Ma_takeInput_41 : decode b_Ma_takeInput 41 = .ok (.iconst 1, 1) := by decide +kernel
theorem d_Ma_takeInput_42 : decode b_Ma_takeInput 42 = .ok (.iadd, 1) := by decide +kernel
theorem d_Ma_takeInput_43 : decode b_Ma_takeInput 43 = .ok (.putfield 60, 3) := by decide +kernel
theorem d_Ma_takeInput_46 : decode b_Ma_takeInput 46 = .ok (.return_, 1) := by decide +kernel
theorem d_Ma_pushRandom_0 : decode b_Ma_pushRandom 0 = .ok (.aload_n 0, 1) := by decide +kernel
theorem d_Ma_pushRandom_1 : decode b_Ma_pushRandom 1 = .ok (.getfield 23, 3) := by decide +kernel
theorem d_Ma_pushRandom_4 : decode b_Ma_pushRandom 4 = .ok (.ldc 138, 2) := by decide +kernel
theorem d_Ma_pushRandom_6 : decode b_Ma_pushRandom 6 = .ok (.aload_n 0, 1) := by decide +kernel
theorem d_Ma_pushRandom_7 : decode b_Ma_pushRandom 7 = .ok (.getfield 23, 3) := by decide +kernel
theorem d_Ma_pushRandom_10 : decode b_Ma_pushRandom 10 = .ok (.getfield 139, 3) := by decide +kernel
theorem d_Ma_pushRandom_13 : decode b_Ma_pushRandom 13 = .ok (.imul, 1) := by decide +kernel
theorem d_Ma_pushRandom_14 : decode b_Ma_pushRandom 14 = .ok (.sipush 12345, 3) := by decide +kernel
theorem d_Ma_pushRandom_17 : decode b_Ma_pushRandom 17 = .ok (.iadd, 1) := by decide +kernel
theorem d_Ma_pushRandom_18 : decode b_Ma_pushRandom 18 = .ok (.putfield 139, 3) := by decide +kernel
theorem d_Ma_pushRandom_21 : decode b_Ma_pushRandom 21 = .ok (.aload_n 0, 1) := by decide +kernel
theorem d_Ma_pushRandom_22 : decode b_Ma_pushRandom 22 = .ok (.iload_n 1, 1) := by decide +kernel
theorem d_Ma_pushRandom_23 : decode b_Ma_pushRandom 23 = .ok (.iconst 1, 1) := by decide +kernel
theorem d_Ma_pushRandom_24 : decode b_Ma_pushRandom 24 = .ok (.if_icmp .ge 7, 3) := by decide +kernel
theorem d_Ma_pushRandom_27 : decode b_Ma_pushRandom 27 = .ok (.iconst 0, 1) := by decide +kernel
theorem d_Ma_pushRandom_28 : decode b_Ma_pushRandom 28 = .ok (.goto 15, 3) := by decide +kernel
theorem d_Ma_pushRandom_31 : decode b_Ma_pushRandom 31 = .ok (.aload_n 0, 1) := by decide +kernel
theorem d_Ma_pushRandom_32 : decode b_Ma_pushRandom 32 = .ok (.getfield 23, 3) := by decide +kernel
theorem d_Ma_pushRandom_35 : decode b_Ma_pushRandom 35 = .ok (.getfield 139, 3) := by decide +kernel
theorem d_Ma_pushRandom_38 : decode b_Ma_pushRandom 38 = .ok (.bipush 16, 2) := by decide +kernel
theorem d_Ma_pushRandom_40 : decode b_Ma_pushRandom 40 = .ok (.iushr, 1) := by decide +kernel
theorem d_Ma_pushRandom_41 : decode b_Ma_pushRandom 41 = .ok (.iload_n 1, 1) := by decide +kernel
theorem d_Ma_pushRandom_42 : decode b_Ma_pushRandom 42 = .ok (.irem, 1) := by decide +kernel
theorem d_Ma_pushRandom_43 : decode b_Ma_pushRandom 43 = .ok (.invokevirtual 91, 3) := by decide +kernel
theorem d_Ma_pushRandom_46 : decode b_Ma_pushRandom 46 = .ok (.return_, 1) := by decide +kernel
theorem d_St_init_0 : decode b_St_init 0 = .ok (.aload_n 0, 1) := by decide +kernel
theorem d_St_init_1 : decode b_St_init 1 = .ok (.invokespecial 3, 3) := by decide +kernel
theorem d_St_init_4 : decode b_St_init 4 = .ok (.aload_n 0, 1) := by decide +kernel
theorem d_St_init_5 : decode b_St_init 5 = .ok (.iload_n 1, 1) := by decide +kernel
theorem d_St_init_6 : decode b_St_init 6 = .ok (.putfield 9, 3) := by decide +kernel
theorem d_St_init_9 : decode b_St_init 9 = .ok (.aload_n 0, 1) := by decide +kernel
theorem d_St_init_10 : decode b_St_init 10 = .ok (.iconst (-1), 1) := by decide +kernel
theorem d_St_init_11 : decode b_St_init 11 = .ok (.putfield 15, 3) := by decide +kernel
theorem d_St_init_14 : decode b_St_init 14 = .ok (.aload_n 0, 1) := by decide +kernel
theorem d_St_init_15 : decode b_St_init 15 = .ok (.bipush 56, 2) := by decide +kernel
theorem d_St_init_17 : decode b_St_init 17 = .ok (.newarray .int, 2) := by decide +kernel
theorem d_St_init_19 : decode b_St_init 19 = .ok (.putfield 18, 3) := by decide +kernel
theorem d_St_init_22 : decode b_St_init 22 = .ok (.return_, 1) := by decide +kernel
theorem d_St_copyState_0 : decode b_St_copyState 0 = .ok (.aload_n 0, 1) := by decide +kernel
theorem d_St_copyState_1 : decode b_St_copyState 1 = .ok (.aload_n 1, 1) := by decide +kernel
theorem d_St_copyState_2 : decode b_St_copyState 2 = .ok (.invokevirtual 22, 3) := by decide +kernel
theorem d_St_copyState_5 : decode b_St_copyState 5 = .ok (.aload_n 1, 1) := by decide +kernel
theorem d_St_copyState_6 : decode b_St_copyState 6 = .ok (.getfield 18, 3) := by decide +kernel
theorem d_St_copyState_9 : decode b_St_copyState 9 = .ok (.iconst 0, 1) := by decide +kernel
theorem d_St_copyState_10 : decode b_St_copyState 10 = .ok (.aload_n 0, 1) := by decide +kernel
theorem d_St_copyState_11 : decode b_St_copyState 11 = .ok (.getfield 18, 3) := by decide +kernel
theorem d_St_copyState_14 : decode b_St_copyState 14 = .ok (.iconst 0, 1) := by decide +kernel
theorem d_St_copyState_15 : decode b_St_copyState 15 = .ok (.bipush 56, 2) := by decide +kernel
theorem d_St_copyState_17 : decode b_St_copyState 17 = .ok (.invokestatic 26, 3) := by decide +kernel
theorem d_St_copyState_20 : decode b_St_copyState 20 = .ok (.return_, 1) := by decide +kernel
theorem d_St_number_0 : decode b_St_number 0 = .ok (.iload_n 1, 1) := by decide +kernel
theorem d_St_number_1 : decode b_St_number 1 = .ok (.bipush 24, 2) := by decide +kernel
theorem d_St_number_3 : decode b_St_number 3 = .ok (.invokestatic 32, 3) := by decide +kernel
theorem d_St_number_6 : decode b_St_number 6 = .ok (.ifCond .eq 15, 3) := by decide +kernel
theorem d_St_number_9 : decode b_St_number 9 = .ok (.aload_n 0, 1) := by decide +kernel
theorem d_St_number_10 : decode b_St_number 10 = .ok (.getfield 18, 3) := by decide +kernel
theorem d_St_number_13 : decode b_St_number 13 = .ok (.bipush 32, 2) := by decide +kernel
theorem d_St_number_15 : decode b_St_number 15 = .ok (.iload_n 1, 1) := by decide +kernel
theorem d_St_number_16 : decode b_St_number 16 = .ok (.iadd, 1) := by decide +kernel
theorem d_St_number_17 : decode b_St_number 17 = .ok (.iaload, 1) := by decide +kernel
theorem d_St_number_18 : decode b_St_number 18 = .ok (.goto 4, 3) := by decide +kernel
theorem d_St_number_21 : decode b_St_number 21 = .ok (.iconst 0, 1) := by decide +kernel
theorem d_St_number_22 : decode b_St_number 22 = .ok (.ireturn, 1) := by decide +kernel
theorem d_Nt_init_0 : decode b_Nt_init 0 = .ok (.aload_n 0, 1) := by decide +kernel
theorem d_Nt_init_1 : decode b_Nt_init 1 = .ok (.invokespecial 1, 3) := by decide +kernel
theorem d_Nt_init_4 : decode b_Nt_init 4 = .ok (.aload_n 0, 1) := by decide +kernel
theorem d_Nt_init_5 : decode b_Nt_init 5 = .ok (.iconst 2, 1) := by decide +kernel
theorem d_Nt_init_6 : decode b_Nt_init 6 = .ok (.newarray .int, 2) := by decide +kernel
theorem d_Nt_init_8 : decode b_Nt_init 8 = .ok (.putfield 9, 3) := by decide +kernel
theorem d_Nt_init_11 : decode b_Nt_init 11 = .ok (.aload_n 0, 1) := by decide +kernel
theorem d_Nt_init_12 : decode b_Nt_init 12 = .ok (.iconst 2, 1) := by decide +kernel
theorem d_Nt_init_13 : decode b_Nt_init 13 = .ok (.newarray .int, 2) := by decide +kernel
theorem d_Nt_init_15 : decode b_Nt_init 15 = .ok (.putfield 13, 3) := by decide +kernel
theorem d_Nt_init_18 : decode b_Nt_init 18 = .ok (.return_, 1) := by decide +kernel
theorem d_Nt_begin_0 : decode b_Nt_begin 0 = .ok (.aload_n 0, 1) := by decide +kernel
theorem d_Nt_begin_1 : decode b_Nt_begin 1 = .ok (.aload_n 1, 1) := by decide +kernel
theorem d_Nt_begin_2 : decode b_Nt_begin 2 = .ok (.invokevirtual 16, 3) := by decide +kernel
theorem d_Nt_begin_5 : decode b_Nt_begin 5 = .ok (.aload_n 0, 1) := by decide +kernel
theorem d_Nt_begin_6 : decode b_Nt_begin 6 = .ok (.iconst 0, 1) := by decide +kernel
theorem d_Nt_begin_7 : decode b_Nt_begin 7 = .ok (.putfield 20, 3) := by decide +kernel
theorem d_Nt_begin_10 : decode b_Nt_begin 10 = .ok (.return_, 1) := by decide +kernel
theorem d_Nt_keepWord_0 : decode b_Nt_keepWord 0 = .ok (.aload_n 0, 1) := by decide +kernel
theorem d_Nt_keepWord_1 : decode b_Nt_keepWord 1 = .ok (.getfield 20, 3) := by decide +kernel
theorem d_Nt_keepWord_4 : decode b_Nt_keepWord 4 = .ok (.iconst 2, 1) := by decide +kernel
theorem d_Nt_keepWord_5 : decode b_Nt_keepWord 5 = .ok (.if_icmp .ge 33, 3) := by decide +kernel
theorem d_Nt_keepWord_8 : decode b_Nt_keepWord 8 = .ok (.aload_n 0, 1) := by decide +kernel
theorem d_Nt_keepWord_9 : decode b_Nt_keepWord 9 = .ok (.getfield 9, 3) := by decide +kernel
theorem d_Nt_keepWord_12 : decode b_Nt_keepWord 12 = .ok (.aload_n 0, 1) := by decide +kernel
theorem d_Nt_keepWord_13 : decode b_Nt_keepWord 13 = .ok (.getfield 20, 3) := by decide +kernel
theorem d_Nt_keepWord_16 : decode b_Nt_keepWord 16 = .ok (.iload_n 1, 1) := by decide +kernel
theorem d_Nt_keepWord_17 : decode b_Nt_keepWord 17 = .ok (.iastore, 1) := by decide +kernel
theorem d_Nt_keepWord_18 : decode b_Nt_keepWord 18 = .ok (.aload_n 0, 1) := by decide +kernel
theorem d_Nt_keepWord_19 : decode b_Nt_keepWord 19 = .ok (.getfield 13, 3) := by decide +kernel
theorem d_Nt_keepWord_22 : decode b_Nt_keepWord 22 = .ok (.aload_n 0, 1) := by decide +kernel
theorem d_Nt_keepWord_23 : decode b_Nt_keepWord 23 = .ok (.getfield 20, 3) := by decide +kernel
theorem d_Nt_keepWord_26 : decode b_Nt_keepWord 26 = .ok (.iload_n 2, 1) := by decide +kernel
theorem d_Nt_keepWord_27 : decode b_Nt_keepWord 27 = .ok (.iastore, 1) := by decide +kernel
theorem d_Nt_keepWord_28 : decode b_Nt_keepWord 28 = .ok (.aload_n 0, 1) := by decide +kernel
theorem d_Nt_keepWord_29 : decode b_Nt_keepWord 29 = .ok (.dup, 1) := by decide +kernel
theorem d_Nt_keepWord_30 : decode b_Nt_keepWord 30 = .ok (.getfield 20, 3) := by decide +kernel
theorem d_Nt_keepWord_33 : decode b_Nt_keepWord 33 = .ok (.iconst 1, 1) := by decide +kernel
theorem d_Nt_keepWord_34 : decode b_Nt_keepWord 34 = .ok (.iadd, 1) := by decide +kernel
theorem d_Nt_keepWord_35 : decode b_Nt_keepWord 35 = .ok (.putfield 20, 3) := by decide +kernel
theorem d_Nt_keepWord_38 : decode b_Nt_keepWord 38 = .ok (.return_, 1) := by decide +kernel
theorem d_Nt_restore_0 : decode b_Nt_restore 0 = .ok (.aload_n 0, 1) := by decide +kernel
theorem d_Nt_restore_1 : decode b_Nt_restore 1 = .ok (.getfield 20, 3) := by decide +kernel
theorem d_Nt_restore_4 : decode b_Nt_restore 4 = .ok (.iconst 1, 1) := by decide +kernel
theorem d_Nt_restore_5 : decode b_Nt_restore 5 = .ok (.isub, 1) := by decide +kernel
theorem d_Nt_restore_6 : decode b_Nt_restore 6 = .ok (.istore_n 2, 1) := by decide +kernel
theorem d_Nt_restore_7 : decode b_Nt_restore 7 = .ok (.iload_n 2, 1) := by decide +kernel
theorem d_Nt_restore_8 : decode b_Nt_restore 8 = .ok (.ifCond .lt 26, 3) := by decide +kernel
theorem d_Nt_restore_11 : decode b_Nt_restore 11 = .ok (.aload_n 1, 1) := by decide +kernel
theorem d_Nt_restore_12 : decode b_Nt_restore 12 = .ok (.getfield 24, 3) := by decide +kernel
theorem d_Nt_restore_15 : decode b_Nt_restore 15 = .ok (.aload_n 0, 1) := by decide +kernel
theorem d_Nt_restore_16 : decode b_Nt_restore 16 = .ok (.getfield 9, 3) := by decide +kernel
theorem d_Nt_restore_19 : decode b_Nt_restore 19 = .ok (.iload_n 2, 1) := by decide +kernel
theorem d_Nt_restore_20 : decode b_Nt_restore 20 = .ok (.iaload, 1) := by decide +kernel
theorem d_Nt_restore_21 : decode b_Nt_restore 21 = .ok (.aload_n 0, 1) := by decide +kernel
theorem d_Nt_restore_22 : decode b_Nt_restore 22 = .ok (.getfield 13, 3) := by decide +kernel
theorem d_Nt_restore_25 : decode b_Nt_restore 25 = .ok (.iload_n 2, 1) := by decide +kernel
theorem d_Nt_restore_26 : decode b_Nt_restore 26 = .ok (.iaload, 1) := by decide +kernel
theorem d_Nt_restore_27 : decode b_Nt_restore 27 = .ok (.iastore, 1) := by decide +kernel
theorem d_Nt_restore_28 : decode b_Nt_restore 28 = .ok (.iinc 2 (-1), 3) := by decide +kernel
theorem d_Nt_restore_31 : decode b_Nt_restore 31 = .ok (.goto (-24), 3) := by decide +kernel
theorem d_Nt_restore_34 : decode b_Nt_restore 34 = .ok (.aload_n 1, 1) := by decide +kernel
theorem d_Nt_restore_35 : decode b_Nt_restore 35 = .ok (.aload_n 0, 1) := by decide +kernel
theorem d_Nt_restore_36 : decode b_Nt_restore 36 = .ok (.invokevirtual 29, 3) := by decide +kernel
theorem d_Nt_restore_39 : decode b_Nt_restore 39 = .ok (.return_, 1) := by decide +kernel
theorem d_Un_init_0 : decode b_Un_init 0 = .ok (.aload_n 0, 1) := by decide +kernel
theorem d_Un_init_1 : decode b_Un_init 1 = .ok (.invokespecial 3, 3) := by decide +kernel
theorem d_Un_init_4 : decode b_Un_init 4 = .ok (.aload_n 0, 1) := by decide +kernel
theorem d_Un_init_5 : decode b_Un_init 5 = .ok (.bipush 32, 2) := by decide +kernel
theorem d_Un_init_7 : decode b_Un_init 7 = .ok (.anewarray 9, 3) := by decide +kernel
theorem d_Un_init_10 : decode b_Un_init 10 = .ok (.putfield 11, 3) := by decide +kernel
theorem d_Un_init_13 : decode b_Un_init 13 = .ok (.iconst 0, 1) := by decide +kernel
theorem d_Un_init_14 : decode b_Un_init 14 = .ok (.istore_n 1, 1) := by decide +kernel
theorem d_Un_init_15 : decode b_Un_init 15 = .ok (.iload_n 1, 1) := by decide +kernel
theorem d_Un_init_16 : decode b_Un_init 16 = .ok (.bipush 32, 2) := by decide +kernel
theorem d_Un_init_18 : decode b_Un_init 18 = .ok (.if_icmp .ge 22, 3) := by decide +kernel
theorem d_Un_init_21 : decode b_Un_init 21 = .ok (.aload_n 0, 1) := by decide +kernel
theorem d_Un_init_22 : decode b_Un_init 22 = .ok (.getfield 11, 3) := by decide +kernel
theorem d_Un_init_25 : decode b_Un_init 25 = .ok (.iload_n 1, 1) := by decide +kernel
theorem d_Un_init_26 : decode b_Un_init 26 = .ok (.new 9, 3) := by decide +kernel
theorem d_Un_init_29 : decode b_Un_init 29 = .ok (.dup, 1) := by decide +kernel
theorem d_Un_init_30 : decode b_Un_init 30 = .ok (.invokespecial 17, 3) := by decide +kernel
theorem d_Un_init_33 : decode b_Un_init 33 = .ok (.aastore, 1) := by decide +kernel
theorem d_Un_init_34 : decode b_Un_init 34 = .ok (.iinc 1 1, 3) := by decide +kernel
theorem d_Un_init_37 : decode b_Un_init 37 = .ok (.goto (-22), 3) := by decide +kernel
theorem d_Un_init_40 : decode b_Un_init 40 = .ok (.return_, 1) := by decide +kernel
theorem d_Un_begin_0 : decode b_Un_begin 0 = .ok (.aload_n 0, 1) := by decide +kernel
theorem d_Un_begin_1 : decode b_Un_begin 1 = .ok (.aload_n 0, 1) := by decide +kernel
theorem d_Un_begin_2 : decode b_Un_begin 2 = .ok (.getfield 18, 3) := by decide +kernel
theorem d_Un_begin_5 : decode b_Un_begin 5 = .ok (.iconst 1, 1) := by decide +kernel
theorem d_Un_begin_6 : decode b_Un_begin 6 = .ok (.iadd, 1) := by decide +kernel
theorem d_Un_begin_7 : decode b_Un_begin 7 = .ok (.bipush 32, 2) := by decide +kernel
theorem d_Un_begin_9 : decode b_Un_begin 9 = .ok (.irem, 1) := by decide +kernel
theorem d_Un_begin_10 : decode b_Un_begin 10 = .ok (.putfield 18, 3) := by decide +kernel
theorem d_Un_begin_13 : decode b_Un_begin 13 = .ok (.aload_n 0, 1) := by decide +kernel
theorem d_Un_begin_14 : decode b_Un_begin 14 = .ok (.aload_n 0, 1) := by decide +kernel
theorem d_Un_begin_15 : decode b_Un_begin 15 = .ok (.getfield 22, 3) := by decide +kernel
theorem d_Un_begin_18 : decode b_Un_begin 18 = .ok (.iconst 1, 1) := by decide +kernel
theorem d_Un_begin_19 : decode b_Un_begin 19 = .ok (.iadd, 1) := by decide +kernel
theorem d_Un_begin_20 : decode b_Un_begin 20 = .ok (.bipush 32, 2) := by decide +kernel
theorem d_Un_begin_22 : decode b_Un_begin 22 = .ok (.invokestatic 25, 3) := by decide +kernel
theorem d_Un_begin_25 : decode b_Un_begin 25 = .ok (.putfield 22, 3) := by decide +kernel
theorem d_Un_begin_28 : decode b_Un_begin 28 = .ok (.aload_n 0, 1) := by decide +kernel
theorem d_Un_begin_29 : decode b_Un_begin 29 = .ok (.getfield 11, 3) := by decide +kernel
theorem d_Un_begin_32 : decode b_Un_begin 32 = .ok (.aload_n 0, 1) := by decide +kernel
theorem d_Un_begin_33 : decode b_Un_begin 33 = .ok (.getfield 18, 3) := by decide +kernel
theorem d_Un_begin_36 : decode b_Un_begin 36 = .ok (.aaload, 1) := by decide +kernel
theorem d_Un_begin_37 : decode b_Un_begin 37 = .ok (.aload_n 1, 1) := by decide +kernel
theorem d_Un_begin_38 : decode b_Un_begin 38 = .ok (.invokevirtual 31, 3) := by decide +kernel
theorem d_Un_begin_41 : decode b_Un_begin 41 = .ok (.aload_n 0, 1) := by decide +kernel
theorem d_Un_begin_42 : decode b_Un_begin 42 = .ok (.getfield 11, 3) := by decide +kernel
theorem d_Un_begin_45 : decode b_Un_begin 45 = .ok (.aload_n 0, 1) := by decide +kernel
theorem d_Un_begin_46 : decode b_Un_begin 46 = .ok (.getfield 18, 3) := by decide +kernel
theorem d_Un_begin_49 : decode b_Un_begin 49 = .ok (.aaload, 1) := by decide +kernel
theorem d_Un_begin_50 : decode b_Un_begin 50 = .ok (.areturn, 1) := by decide +kernel
theorem d_Un_takeBack_0 : decode b_Un_takeBack 0 = .ok (.iconst 0, 1) := by decide +kernel
theorem d_Un_takeBack_1 : decode b_Un_takeBack 1 = .ok (.istore_n 3, 1) := by decide +kernel
theorem d_Un_takeBack_2 : decode b_Un_takeBack 2 = .ok (.iload_n 3, 1) := by decide +kernel
theorem d_Un_takeBack_3 : decode b_Un_takeBack 3 = .ok (.iload_n 1, 1) := by decide +kernel
theorem d_Un_takeBack_4 : decode b_Un_takeBack 4 = .ok (.if_icmp .ge 55, 3) := by decide +kernel
theorem d_Un_takeBack_7 : decode b_Un_takeBack 7 = .ok (.aload_n 0, 1) := by decide +kernel
theorem d_Un_takeBack_8 : decode b_Un_takeBack 8 = .ok (.getfield 22, 3) := by decide +kernel
theorem d_Un_takeBack_11 : decode b_Un_takeBack 11 = .ok (.ifCond .le 48, 3) := by decide +kernel
theorem d_Un_takeBack_14 : decode b_Un_takeBack 14 = .ok (.aload_n 0, 1) := by decide +kernel
theorem d_Un_takeBack_15 : decode b_Un_takeBack 15 = .ok (.getfield 11, 3) := by decide +kernel
theorem d_Un_takeBack_18 : decode b_Un_takeBack 18 = .ok (.aload_n 0, 1) := by decide +kernel
theorem d_Un_takeBack_19 : decode b_Un_takeBack 19 = .ok (.getfield 18, 3) := by decide +kernel
theorem d_Un_takeBack_22 : decode b_Un_takeBack 22 = .ok (.aaload, 1) := by decide +kernel
theorem d_Un_takeBack_23 : decode b_Un_takeBack 23 = .ok (.aload_n 2, 1) := by decide +kernel
theorem d_Un_takeBack_24 : decode b_Un_takeBack 24 = .ok (.invokevirtual 35, 3) := by decide +kernel
theorem d_Un_takeBack_27 : decode b_Un_takeBack 27 = .ok (.aload_n 0, 1) := by decide +kernel
theorem d_Un_takeBack_28 : decode b_Un_takeBack 28 = .ok (.aload_n 0, 1) := by decide +kernel
theorem d_Un_takeBack_29 : decode b_Un_takeBack 29 = .ok (.getfield 18, 3) := by decide +kernel
theorem d_Un_takeBack_32 : decode b_Un_takeBack 32 = .ok (.bipush 32, 2) := by decide +kernel
theorem d_Un_takeBack_34 : decode b_Un_takeBack 34 = .ok (.iadd, 1) := by decide +kernel
theorem d_Un_takeBack_35 : decode b_Un_takeBack 35 = .ok (.iconst 1, 1) := by decide +kernel
theorem d_Un_takeBack_36 : decode b_Un_takeBack 36 = .ok (.isub, 1) := by decide +kernel
theorem d_Un_takeBack_37 : decode b_Un_takeBack 37 = .ok (.bipush 32, 2) := by decide +kernel
theorem d_Un_takeBack_39 : decode b_Un_takeBack 39 = .ok (.irem, 1) := by decide +kernel
theorem d_Un_takeBack_40 : decode b_Un_takeBack 40 = .ok (.putfield 18, 3) := by decide +kernel
theorem d_Un_takeBack_43 : decode b_Un_takeBack 43 = .ok (.aload_n 0, 1) := by decide +kernel
theorem d_Un_takeBack_44 : decode b_Un_takeBack 44 = .ok (.dup, 1) := by decide +kernel
theorem d_Un_takeBack_45 : decode b_Un_takeBack 45 = .ok (.getfield 22, 3) := by decide +kernel
theorem d_Un_takeBack_48 : decode b_Un_takeBack 48 = .ok (.iconst 1, 1) := by decide +kernel
theorem d_Un_takeBack_49 : decode b_Un_takeBack 49 = .ok (.isub, 1) := by decide +kernel
theorem d_Un_takeBack_50 : decode b_Un_takeBack 50 = .ok (.putfield 22, 3) := by decide +kernel
theorem d_Un_takeBack_53 : decode b_Un_takeBack 53 = .ok (.iinc 3 1, 3) := by decide +kernel
theorem d_Un_takeBack_56 : decode b_Un_takeBack 56 = .ok (.goto (-54), 3) := by decide +kernel
theorem d_Un_takeBack_59 : decode b_Un_takeBack 59 = .ok (.return_, 1) := by decide +kernel
theorem d_Cp_init_0 : decode b_Cp_init 0 = .ok (.aload_n 0, 1) := by decide +kernel
theorem d_Cp_init_1 : decode b_Cp_init 1 = .ok (.invokespecial 3, 3) := by decide +kernel
theorem d_Cp_init_4 : decode b_Cp_init 4 = .ok (.aload_n 0, 1) := by decide +kernel
theorem d_Cp_init_5 : decode b_Cp_init 5 = .ok (.bipush 8, 2) := by decide +kernel
theorem d_Cp_init_7 : decode b_Cp_init 7 = .ok (.anewarray 9, 3) := by decide +kernel
theorem d_Cp_init_10 : decode b_Cp_init 10 = .ok (.putfield 11, 3) := by decide +kernel
theorem d_Cp_init_13 : decode b_Cp_init 13 = .ok (.iconst 0, 1) := by decide +kernel
theorem d_Cp_init_14 : decode b_Cp_init 14 = .ok (.istore_n 2, 1) := by decide +kernel
theorem d_Cp_init_15 : decode b_Cp_init 15 = .ok (.iload_n 2, 1) := by decide +kernel
theorem d_Cp_init_16 : decode b_Cp_init 16 = .ok (.bipush 8, 2) := by decide +kernel
theorem d_Cp_init_18 : decode b_Cp_init 18 = .ok (.if_icmp .ge 23, 3) := by decide +kernel
theorem d_Cp_init_21 : decode b_Cp_init 21 = .ok (.aload_n 0, 1) := by decide +kernel
theorem d_Cp_init_22 : decode b_Cp_init 22 = .ok (.getfield 11, 3) := by decide +kernel
theorem d_Cp_init_25 : decode b_Cp_init 25 = .ok (.iload_n 2, 1) := by decide +kernel
theorem d_Cp_init_26 : decode b_Cp_init 26 = .ok (.new 9, 3) := by decide +kernel
theorem d_Cp_init_29 : decode b_Cp_init 29 = .ok (.dup, 1) := by decide +kernel
theorem d_Cp_init_30 : decode b_Cp_init 30 = .ok (.iload_n 1, 1) := by decide +kernel
theorem d_Cp_init_31 : decode b_Cp_init 31 = .ok (.invokespecial 17, 3) := by decide +kernel
theorem d_Cp_init_34 : decode b_Cp_init 34 = .ok (.aastore, 1) := by decide +kernel
theorem d_Cp_init_35 : decode b_Cp_init 35 = .ok (.iinc 2 1, 3) := by decide +kernel
theorem d_Cp_init_38 : decode b_Cp_init 38 = .ok (.goto (-23), 3) := by decide +kernel
theorem d_Cp_init_41 : decode b_Cp_init 41 = .ok (.aload_n 0, 1) := by decide +kernel
theorem d_Cp_init_42 : decode b_Cp_init 42 = .ok (.iconst 1, 1) := by decide +kernel
theorem d_Cp_init_43 : decode b_Cp_init 43 = .ok (.putfield 20, 3) := by decide +kernel
theorem d_Cp_init_46 : decode b_Cp_init 46 = .ok (.aload_n 0, 1) := by decide +kernel
theorem d_Cp_init_47 : decode b_Cp_init 47 = .ok (.bipush 16, 2) := by decide +kernel
theorem d_Cp_init_49 : decode b_Cp_init 49 = .ok (.putfield 24, 3) := by decide +kernel
theorem d_Cp_init_52 : decode b_Cp_init 52 = .ok (.return_, 1) := by decide +kernel
theorem d_Cp_offer_0 : decode b_Cp_offer 0 = .ok (.aload_n 0, 1) := by decide +kernel
theorem d_Cp_offer_1 : decode b_Cp_offer 1 = .ok (.aload_n 1, 1) := by decide +kernel
theorem d_Cp_offer_2 : decode b_Cp_offer 2 = .ok (.getfield 27, 3) := by decide +kernel
theorem d_Cp_offer_5 : decode b_Cp_offer 5 = .ok (.invokevirtual 30, 3) := by decide +kernel
theorem d_Cp_offer_8 : decode b_Cp_offer 8 = .ok (.ifCond .ne 4, 3) := by decide +kernel
theorem d_Cp_offer_11 : decode b_Cp_offer 11 = .ok (.return_, 1) := by decide +kernel
theorem d_Cp_offer_12 : decode b_Cp_offer 12 = .ok (.aload_n 0, 1) := by decide +kernel
theorem d_Cp_offer_13 : decode b_Cp_offer 13 = .ok (.getfield 20, 3) := by decide +kernel
theorem d_Cp_offer_16 : decode b_Cp_offer 16 = .ok (.bipush 8, 2) := by decide +kernel
theorem d_Cp_offer_18 : decode b_Cp_offer 18 = .ok (.if_icmp .ne 17, 3) := by decide +kernel
theorem d_Cp_offer_21 : decode b_Cp_offer 21 = .ok (.aload_n 0, 1) := by decide +kernel
theorem d_Cp_offer_22 : decode b_Cp_offer 22 = .ok (.dup, 1) := by decide +kernel
theorem d_Cp_offer_23 : decode b_Cp_offer 23 = .ok (.getfield 24, 3) := by decide +kernel
theorem d_Cp_offer_26 : decode b_Cp_offer 26 = .ok (.iconst 2, 1) := by decide +kernel
theorem d_Cp_offer_27 : decode b_Cp_offer 27 = .ok (.imul, 1) := by decide +kernel
theorem d_Cp_offer_28 : decode b_Cp_offer 28 = .ok (.putfield 24, 3) := by decide +kernel
theorem d_Cp_offer_31 : decode b_Cp_offer 31 = .ok (.aload_n 0, 1) := by decide +kernel
theorem d_Cp_offer_32 : decode b_Cp_offer 32 = .ok (.invokevirtual 34, 3) := by decide +kernel
theorem d_Cp_offer_35 : decode b_Cp_offer 35 = .ok (.aload_n 0, 1) := by decide +kernel
theorem d_Cp_offer_36 : decode b_Cp_offer 36 = .ok (.aload_n 1, 1) := by decide +kernel
theorem d_Cp_offer_37 : decode b_Cp_offer 37 = .ok (.getfield 27, 3) := by decide +kernel
theorem d_Cp_offer_40 : decode b_Cp_offer 40 = .ok (.invokevirtual 30, 3) := by decide +kernel
theorem d_Cp_offer_43 : decode b_Cp_offer 43 = .ok (.ifCond .eq 35, 3) := by decide +kernel
theorem d_Cp_offer_46 : decode b_Cp_offer 46 = .ok (.aload_n 0, 1) := by decide +kernel
theorem d_Cp_offer_47 : decode b_Cp_offer 47 = .ok (.getfield 20, 3) := by decide +kernel
theorem d_Cp_offer_50 : decode b_Cp_offer 50 = .ok (.bipush 8, 2) := by decide +kernel
theorem d_Cp_offer_52 : decode b_Cp_offer 52 = .ok (.if_icmp .ge 26, 3) := by decide +kernel
theorem d_Cp_offer_55 : decode b_Cp_offer 55 = .ok (.aload_n 0, 1) := by decide +kernel
theorem d_Cp_offer_56 : decode b_Cp_offer 56 = .ok (.getfield 11, 3) := by decide +kernel
theorem d_Cp_offer_59 : decode b_Cp_offer 59 = .ok (.aload_n 0, 1) := by decide +kernel
theorem d_Cp_offer_60 : decode b_Cp_offer 60 = .ok (.getfield 20, 3) := by decide +kernel
theorem d_Cp_offer_63 : decode b_Cp_offer 63 = .ok (.aaload, 1) := by decide +kernel
theorem d_Cp_offer_64 : decode b_Cp_offer 64 = .ok (.aload_n 1, 1) := by decide +kernel
theorem d_Cp_offer_65 : decode b_Cp_offer 65 = .ok (.invokevirtual 37, 3) := by decide +kernel
theorem d_Cp_offer_68 : decode b_Cp_offer 68 = .ok (.aload_n 0, 1) := by decide +kernel
theorem d_Cp_offer_69 : decode b_Cp_offer 69 = .ok (.dup, 1) := by decide +kernel
theorem d_Cp_offer_70 : decode b_Cp_offer 70 = .ok (.getfield 20, 3) := by decide +kernel
theorem d_Cp_offer_73 : decode b_Cp_offer 73 = .ok (.iconst 1, 1) := by decide +kernel
theorem d_Cp_offer_74 : decode b_Cp_offer 74 = .ok (.iadd, 1) := by decide +kernel
theorem d_Cp_offer_75 : decode b_Cp_offer 75 = .ok (.putfield 20, 3) := by decide +kernel
theorem d_Cp_offer_78 : decode b_Cp_offer 78 = .ok (.return_, 1) := by decide +kernel
theorem d_Cp_isMultiple_0 : decode b_Cp_isMultiple 0 = .ok (.aload_n 0, 1) := by decide +kernel
theorem d_Cp_isMultiple_1 : decode b_Cp_isMultiple 1 = .ok (.getfield 24, 3) := by decide +kernel
theorem d_Cp_isMultiple_4 : decode b_Cp_isMultiple 4 = .ok (.ifCond .le 16, 3) := by decide +kernel
theorem d_Cp_isMultiple_7 : decode b_Cp_isMultiple 7 = .ok (.iload_n 1, 1) := by decide +kernel
theorem d_Cp_isMultiple_8 : decode b_Cp_isMultiple 8 = .ok (.aload_n 0, 1) := by decide +kernel
theorem d_Cp_isMultiple_9 : decode b_Cp_isMultiple 9 = .ok (.getfield 24, 3) := by decide +kernel
theorem d_Cp_isMultiple_12 : decode b_Cp_isMultiple 12 = .ok (.irem, 1) := by decide +kernel
theorem d_Cp_isMultiple_13 : decode b_Cp_isMultiple 13 = .ok (.ifCond .ne 7, 3) := by decide +kernel
theorem d_Cp_isMultiple_16 : decode b_Cp_isMultiple 16 = .ok (.iconst 1, 1) := by decide +kernel
theorem d_Cp_isMultiple_17 : decode b_Cp_isMultiple 17 = .ok (.goto 4, 3) := by decide +kernel
theorem d_Cp_isMultiple_20 : decode b_Cp_isMultiple 20 = .ok (.iconst 0, 1) := by decide +kernel
theorem d_Cp_isMultiple_21 : decode b_Cp_isMultiple 21 = .ok (.ireturn, 1) := by decide +kernel
theorem d_Cp_thinOut_0 : decode b_Cp_thinOut 0 = .ok (.iconst 0, 1) := by decide +kernel
theorem d_Cp_thinOut_1 : decode b_Cp_thinOut 1 = .ok (.istore_n 1, 1) := by decide +kernel
theorem d_Cp_thinOut_2 : decode b_Cp_thinOut 2 = .ok (.iconst 0, 1) := by decide +kernel
theorem d_Cp_thinOut_3 : decode b_Cp_thinOut 3 = .ok (.istore_n 2, 1) := by decide +kernel
theorem d_Cp_thinOut_4 : decode b_Cp_thinOut 4 = .ok (.iload_n 2, 1) := by decide +kernel
theorem d_Cp_thinOut_5 : decode b_Cp_thinOut 5 = .ok (.aload_n 0, 1) := by decide +kernel
theorem d_Cp_thinOut_6 : decode b_Cp_thinOut 6 = .ok (.getfield 20, 3) := by decide +kernel
theorem d_Cp_thinOut_9 : decode b_Cp_thinOut 9 = .ok (.if_icmp .ge 49, 3) := by decide +kernel
theorem d_Cp_thinOut_12 : decode b_Cp_thinOut 12 = .ok (.aload_n 0, 1) := by decide +kernel
theorem d_Cp_thinOut_13 : decode b_Cp_thinOut 13 = .ok (.getfield 11, 3) := by decide +kernel
theorem d_Cp_thinOut_16 : decode b_Cp_thinOut 16 = .ok (.iload_n 2, 1) := by decide +kernel
theorem d_Cp_thinOut_17 : decode b_Cp_thinOut 17 = .ok (.aaload, 1) := by decide +kernel
theorem d_Cp_thinOut_18 : decode b_Cp_thinOut 18 = .ok (.astore_n 3, 1) := by decide +kernel
theorem d_Cp_thinOut_19 : decode b_Cp_thinOut 19 = .ok (.aload_n 0, 1) := by decide +kernel
theorem d_Cp_thinOut_20 : decode b_Cp_thinOut 20 = .ok (.aload_n 3, 1) := by decide +kernel
theorem d_Cp_thinOut_21 : decode b_Cp_thinOut 21 = .ok (.getfield 27, 3) := by decide +kernel
theorem d_Cp_thinOut_24 : decode b_Cp_thinOut 24 = .ok (.invokevirtual 30, 3) := by decide +kernel
theorem d_Cp_thinOut_27 : decode b_Cp_thinOut 27 = .ok (.ifCond .eq 25, 3) := by decide +kernel
theorem d_Cp_thinOut_30 : decode b_Cp_thinOut 30 = .ok (.aload_n 0, 1) := by decide +kernel
theorem d_Cp_thinOut_31 : decode b_Cp_thinOut 31 = .ok (.getfield 11, 3) := by decide +kernel
theorem d_Cp_thinOut_34 : decode b_Cp_thinOut 34 = .ok (.iload_n 2, 1) := by decide +kernel
theorem d_Cp_thinOut_35 : decode b_Cp_thinOut 35 = .ok (.aload_n 0, 1) := by decide +kernel
theorem d_Cp_thinOut_36 : decode b_Cp_thinOut 36 = .ok (.getfield 11, 3) := by decide +kernel
theorem d_Cp_thinOut_39 : decode b_Cp_thinOut 39 = .ok (.iload_n 1, 1) := by decide +kernel
theorem d_Cp_thinOut_40 : decode b_Cp_thinOut 40 = .ok (.aaload, 1) := by decide +kernel
theorem d_Cp_thinOut_41 : decode b_Cp_thinOut 41 = .ok (.aastore, 1) := by decide +kernel
theorem d_Cp_thinOut_42 : decode b_Cp_thinOut 42 = .ok (.aload_n 0, 1) := by decide +kernel
theorem d_Cp_thinOut_43 : decode b_Cp_thinOut 43 = .ok (.getfield 11, 3) := by decide +kernel
theorem d_Cp_thinOut_46 : decode b_Cp_thinOut 46 = .ok (.iload_n 1, 1) := by decide +kernel
theorem d_Cp_thinOut_47 : decode b_Cp_thinOut 47 = .ok (.aload_n 3, 1) := by decide +kernel
theorem d_Cp_thinOut_48 : decode b_Cp_thinOut 48 = .ok (.aastore, 1) := by decide +kernel
theorem d_Cp_thinOut_49 : decode b_Cp_thinOut 49 = .ok (.iinc 1 1, 3) := by decide +kernel
theorem d_Cp_thinOut_52 : decode b_Cp_thinOut 52 = .ok (.iinc 2 1, 3) := by decide +kernel
theorem d_Cp_thinOut_55 : decode b_Cp_thinOut 55 = .ok (.goto (-51), 3) := by decide +kernel
theorem d_Cp_thinOut_58 : decode b_Cp_thinOut 58 = .ok (.aload_n 0, 1) := by decide +kernel
theorem d_Cp_thinOut_59 : decode b_Cp_thinOut 59 = .ok (.iload_n 1, 1) := by decide +kernel
theorem d_Cp_thinOut_60 : decode b_Cp_thinOut 60 = .ok (.putfield 20, 3) := by decide +kernel
theorem d_Cp_thinOut_63 : decode b_Cp_thinOut 63 = .ok (.return_, 1) := by decide +kernel
theorem d_Cp_latestUpTo_0 : decode b_Cp_latestUpTo 0 = .ok (.iconst 0, 1) := by decide +kernel
theorem d_Cp_latestUpTo_1 : decode b_Cp_latestUpTo 1 = .ok (.istore_n 2, 1) := by decide +kernel
theorem d_Cp_latestUpTo_2 : decode b_Cp_latestUpTo 2 = .ok (.iconst 1, 1) := by decide +kernel
theorem d_Cp_latestUpTo_3 : decode b_Cp_latestUpTo 3 = .ok (.istore_n 3, 1) := by decide +kernel
theorem d_Cp_latestUpTo_4 : decode b_Cp_latestUpTo 4 = .ok (.iload_n 3, 1) := by decide +kernel
theorem d_Cp_latestUpTo_5 : decode b_Cp_latestUpTo 5 = .ok (.aload_n 0, 1) := by decide +kernel
theorem d_Cp_latestUpTo_6 : decode b_Cp_latestUpTo 6 = .ok (.getfield 20, 3) := by decide +kernel
theorem d_Cp_latestUpTo_9 : decode b_Cp_latestUpTo 9 = .ok (.if_icmp .ge 24, 3) := by decide +kernel
theorem d_Cp_latestUpTo_12 : decode b_Cp_latestUpTo 12 = .ok (.aload_n 0, 1) := by decide +kernel
theorem d_Cp_latestUpTo_13 : decode b_Cp_latestUpTo 13 = .ok (.getfield 11, 3) := by decide +kernel
theorem d_Cp_latestUpTo_16 : decode b_Cp_latestUpTo 16 = .ok (.iload_n 3, 1) := by decide +kernel
theorem d_Cp_latestUpTo_17 : decode b_Cp_latestUpTo 17 = .ok (.aaload, 1) := by decide +kernel
theorem d_Cp_latestUpTo_18 : decode b_Cp_latestUpTo 18 = .ok (.getfield 27, 3) := by decide +kernel
theorem d_Cp_latestUpTo_21 : decode b_Cp_latestUpTo 21 = .ok (.iload_n 1, 1) := by decide +kernel
theorem d_Cp_latestUpTo_22 : decode b_Cp_latestUpTo 22 = .ok (.if_icmp .gt 5, 3) := by decide +kernel
theorem d_Cp_latestUpTo_25 : decode b_Cp_latestUpTo 25 = .ok (.iload_n 3, 1) := by decide +kernel
theorem d_Cp_latestUpTo_26 : decode b_Cp_latestUpTo 26 = .ok (.istore_n 2, 1) := by decide +kernel
theorem d_Cp_latestUpTo_27 : decode b_Cp_latestUpTo 27 = .ok (.iinc 3 1, 3) := by decide +kernel
theorem d_Cp_latestUpTo_30 : decode b_Cp_latestUpTo 30 = .ok (.goto (-26), 3) := by decide +kernel
theorem d_Cp_latestUpTo_33 : decode b_Cp_latestUpTo 33 = .ok (.aload_n 0, 1) := by decide +kernel
theorem d_Cp_latestUpTo_34 : decode b_Cp_latestUpTo 34 = .ok (.getfield 11, 3) := by decide +kernel
theorem d_Cp_latestUpTo_37 : decode b_Cp_latestUpTo 37 = .ok (.iload_n 2, 1) := by decide +kernel
theorem d_Cp_latestUpTo_38 : decode b_Cp_latestUpTo 38 = .ok (.aaload, 1) := by decide +kernel
theorem d_Cp_latestUpTo_39 : decode b_Cp_latestUpTo 39 = .ok (.areturn, 1) := by decide +kernel
theorem d_Rg_init_0 : decode b_Rg_init 0 = .ok (.aload_n 0, 1) := by decide +kernel
theorem d_Rg_init_1 : decode b_Rg_init 1 = .ok (.invokespecial 1, 3) := by decide +kernel
theorem d_Rg_init_4 : decode b_Rg_init 4 = .ok (.return_, 1) := by decide +kernel
theorem d_Rg_copyRegisters_0 : decode b_Rg_copyRegisters 0 = .ok (.aload_n 0, 1) := by decide +kernel
theorem d_Rg_copyRegisters_1 : decode b_Rg_copyRegisters 1 = .ok (.aload_n 1, 1) := by decide +kernel
theorem d_Rg_copyRegisters_2 : decode b_Rg_copyRegisters 2 = .ok (.getfield 7, 3) := by decide +kernel
theorem d_Rg_copyRegisters_5 : decode b_Rg_copyRegisters 5 = .ok (.putfield 7, 3) := by decide +kernel
theorem d_Rg_copyRegisters_8 : decode b_Rg_copyRegisters 8 = .ok (.aload_n 0, 1) := by decide +kernel
theorem d_Rg_copyRegisters_9 : decode b_Rg_copyRegisters 9 = .ok (.aload_n 1, 1) := by decide +kernel
theorem d_Rg_copyRegisters_10 : decode b_Rg_copyRegisters 10 = .ok (.getfield 13, 3) := by decide +kernel
theorem d_Rg_copyRegisters_13 : decode b_Rg_copyRegisters 13 = .ok (.putfield 13, 3) := by decide +kernel
theorem d_Rg_copyRegisters_16 : decode b_Rg_copyRegisters 16 = .ok (.aload_n 0, 1) := by decide +kernel
theorem d_Rg_copyRegisters_17 : decode b_Rg_copyRegisters 17 = .ok (.aload_n 1, 1) := by decide +kernel
theorem d_Rg_copyRegisters_18 : decode b_Rg_copyRegisters 18 = .ok (.getfield 16, 3) := by decide +kernel
theorem d_Rg_copyRegisters_21 : decode b_Rg_copyRegisters 21 = .ok (.putfield 16, 3) := by decide +kernel
theorem d_Rg_copyRegisters_24 : decode b_Rg_copyRegisters 24 = .ok (.aload_n 0, 1) := by decide +kernel
theorem d_Rg_copyRegisters_25 : decode b_Rg_copyRegisters 25 = .ok (.aload_n 1, 1) := by decide +kernel
theorem d_Rg_copyRegisters_26 : decode b_Rg_copyRegisters 26 = .ok (.getfield 19, 3) := by decide +kernel
theorem d_Rg_copyRegisters_29 : decode b_Rg_copyRegisters 29 = .ok (.putfield 19, 3) := by decide +kernel
theorem d_Rg_copyRegisters_32 : decode b_Rg_copyRegisters 32 = .ok (.aload_n 0, 1) := by decide +kernel
theorem d_Rg_copyRegisters_33 : decode b_Rg_copyRegisters 33 = .ok (.aload_n 1, 1) := by decide +kernel
theorem d_Rg_copyRegisters_34 : decode b_Rg_copyRegisters 34 = .ok (.getfield 22, 3) := by decide +kernel
theorem d_Rg_copyRegisters_37 : decode b_Rg_copyRegisters 37 = .ok (.putfield 22, 3) := by decide +kernel
theorem d_Rg_copyRegisters_40 : decode b_Rg_copyRegisters 40 = .ok (.aload_n 0, 1) := by decide +kernel
theorem d_Rg_copyRegisters_41 : decode b_Rg_copyRegisters 41 = .ok (.aload_n 1, 1) := by decide +kernel
theorem d_Rg_copyRegisters_42 : decode b_Rg_copyRegisters 42 = .ok (.getfield 25, 3) := by decide +kernel
theorem d_Rg_copyRegisters_45 : decode b_Rg_copyRegisters 45 = .ok (.putfield 25, 3) := by decide +kernel
theorem d_Rg_copyRegisters_48 : decode b_Rg_copyRegisters 48 = .ok (.aload_n 0, 1) := by decide +kernel
theorem d_Rg_copyRegisters_49 : decode b_Rg_copyRegisters 49 = .ok (.aload_n 1, 1) := by decide +kernel
theorem d_Rg_copyRegisters_50 : decode b_Rg_copyRegisters 50 = .ok (.getfield 28, 3) := by decide +kernel
theorem d_Rg_copyRegisters_53 : decode b_Rg_copyRegisters 53 = .ok (.putfield 28, 3) := by decide +kernel
theorem d_Rg_copyRegisters_56 : decode b_Rg_copyRegisters 56 = .ok (.return_, 1) := by decide +kernel
end
section
theorem hY_RM_within : px_Y WS y_RM_within b_RM_within 2 (some .boolean) 2 := ⟨WS_ok, mw_221, mw_1, by decide, by decide, by decide +kernel⟩
theorem hT_RM_within : Cond.static y_RM_within ∈ WS := mw_220
theorem hY_RM_isFuel : px_Y WS y_RM_isFuel b_RM_isFuel 1 (some .boolean) 1 := ⟨WS_ok, mw_449, mw_1, by decide, by decide, by decide +kernel⟩
theorem hT_RM_isFuel : Cond.static y_RM_isFuel ∈ WS := mw_448
theorem hY_Ma_result : px_Y WS y_Ma_result b_Ma_result 3 (some .int) 3 := ⟨WS_ok, mw_282, mw_2, by decide, by decide, by decide +kernel⟩
theorem hT_Ma_result : Cond.static y_Ma_result ∈ WS := mw_281
theorem hY_St_number : px_Y WS y_St_number b_St_number 2 (some .int) 1 := ⟨WS_ok, mw_239, mw_4, by decide, by decide, by decide +kernel⟩
theorem hI_St_number : Cond.instanceMethod y_St_number ∈ WS := mw_237
theorem hS_St_number : Cond.selects y_St_number.cls y_St_number y_St_number ∈ WS := mw_238
theorem hY_Ma_argumentPlace : px_Y WS y_Ma_argumentPlace b_Ma_argumentPlace 2 (some .int) 1 := ⟨WS_ok, mw_229, mw_2, by decide, by decide, by decide +kernel⟩
theorem hI_Ma_argumentPlace : Cond.instanceMethod y_Ma_argumentPlace ∈ WS := mw_228
theorem hS_Ma_argumentPlace : Cond.selects y_Ma_argumentPlace.cls y_Ma_argumentPlace y_Ma_argumentPlace ∈ WS := WS_mem 2 (by decide +kernel) (by decide +kernel)
theorem hY_Ma_fromTop : px_Y WS y_Ma_fromTop b_Ma_fromTop 2 (some .int) 1 := ⟨WS_ok, mw_235, mw_2, by decide, by decide, by decide +kernel⟩
theorem hI_Ma_fromTop : Cond.instanceMethod y_Ma_fromTop ∈ WS := mw_234
theorem hS_Ma_fromTop : Cond.selects y_Ma_fromTop.cls y_Ma_fromTop y_Ma_fromTop ∈ WS := WS_mem 3 (by decide +kernel) (by decide +kernel)
theorem hY_Ma_hasTooFew : px_Y WS y_Ma_hasTooFew b_Ma_hasTooFew 3 (some .boolean) 2 := ⟨WS_ok, mw_225, mw_2, by decide, by decide, by decide +kernel⟩
theorem hI_Ma_hasTooFew : Cond.instanceMethod y_Ma_hasTooFew ∈ WS := mw_224
theorem hS_Ma_hasTooFew : Cond.selects y_Ma_hasTooFew.cls y_Ma_hasTooFew y_Ma_hasTooFew ∈ WS := WS_mem 1 (by decide +kernel) (by decide +kernel)
theorem hY_Ma_obstacle : px_Y WS y_Ma_obstacle b_Ma_obstacle 3 (some .int) 0 := ⟨WS_ok, mw_218, mw_2, by decide, by decide, by decide +kernel⟩
theorem hI_Ma_obstacle : Cond.instanceMethod y_Ma_obstacle ∈ WS := mw_216
theorem hS_Ma_obstacle : Cond.selects y_Ma_obstacle.cls y_Ma_obstacle y_Ma_obstacle ∈ WS := mw_217
theorem hY_Nt_keepWord : px_Y WS y_Nt_keepWord b_Nt_keepWord 3 none 2 := ⟨WS_ok, mw_275, mw_6, by decide, by decide, by decide +kernel⟩
theorem hI_Nt_keepWord : Cond.instanceMethod y_Nt_keepWord ∈ WS := mw_273
theorem hS_Nt_keepWord : Cond.selects y_Nt_keepWord.cls y_Nt_keepWord y_Nt_keepWord ∈ WS := mw_274
theorem hY_Ma_put : px_Y WS y_Ma_put b_Ma_put 3 none 2 := ⟨WS_ok, mw_271, mw_2, by decide, by decide, by decide +kernel⟩
theorem hI_Ma_put : Cond.instanceMethod y_Ma_put ∈ WS := mw_270
theorem hS_Ma_put : Cond.selects y_Ma_put.cls y_Ma_put y_Ma_put ∈ WS := WS_mem 5 (by decide +kernel) (by decide +kernel)
theorem hY_Ma_push : px_Y WS y_Ma_push b_Ma_push 2 none 1 := ⟨WS_ok, mw_267, mw_2, by decide, by decide, by decide +kernel⟩
theorem hI_Ma_push : Cond.instanceMethod y_Ma_push ∈ WS := mw_266
theorem hS_Ma_push : Cond.selects y_Ma_push.cls y_Ma_push y_Ma_push ∈ WS := WS_mem 4 (by decide +kernel) (by decide +kernel)
theorem hY_Ma_replaceTwo : px_Y WS y_Ma_replaceTwo b_Ma_replaceTwo 2 none 1 := ⟨WS_ok, mw_286, mw_2, by decide, by decide, by decide +kernel⟩
theorem hI_Ma_replaceTwo : Cond.instanceMethod y_Ma_replaceTwo ∈ WS := mw_285
theorem hS_Ma_replaceTwo : Cond.selects y_Ma_replaceTwo.cls y_Ma_replaceTwo y_Ma_replaceTwo ∈ WS := WS_mem 7 (by decide +kernel) (by decide +kernel)
theorem hY_Ma_exchange : px_Y WS y_Ma_exchange b_Ma_exchange 3 none 0 := ⟨WS_ok, mw_279, mw_2, by decide, by decide, by decide +kernel⟩
theorem hI_Ma_exchange : Cond.instanceMethod y_Ma_exchange ∈ WS := mw_278
theorem hS_Ma_exchange : Cond.selects y_Ma_exchange.cls y_Ma_exchange y_Ma_exchange ∈ WS := WS_mem 6 (by decide +kernel) (by decide +kernel)
theorem hY_Ma_load : px_Y WS y_Ma_load b_Ma_load 2 none 0 := ⟨WS_ok, mw_290, mw_2, by decide, by decide, by decide +kernel⟩
theorem hI_Ma_load : Cond.instanceMethod y_Ma_load ∈ WS := mw_289
theorem hS_Ma_load : Cond.selects y_Ma_load.cls y_Ma_load y_Ma_load ∈ WS := WS_mem 8 (by decide +kernel) (by decide +kernel)
theorem hY_Ma_store : px_Y WS y_Ma_store b_Ma_store 3 none 0 := ⟨WS_ok, mw_294, mw_2, by decide, by decide, by decide +kernel⟩
theorem hI_Ma_store : Cond.instanceMethod y_Ma_store ∈ WS := mw_293
theorem hS_Ma_store : Cond.selects y_Ma_store.cls y_Ma_store y_Ma_store ∈ WS := WS_mem 9 (by decide +kernel) (by decide +kernel)
theorem hY_Ma_jumpIf : px_Y WS y_Ma_jumpIf b_Ma_jumpIf 3 none 2 := ⟨WS_ok, mw_298, mw_2, by decide, by decide, by decide +kernel⟩
theorem hI_Ma_jumpIf : Cond.instanceMethod y_Ma_jumpIf ∈ WS := mw_297
theorem hS_Ma_jumpIf : Cond.selects y_Ma_jumpIf.cls y_Ma_jumpIf y_Ma_jumpIf ∈ WS := WS_mem 10 (by decide +kernel) (by decide +kernel)
theorem hY_Ma_enter : px_Y WS y_Ma_enter b_Ma_enter 2 none 1 := ⟨WS_ok, mw_302, mw_2, by decide, by decide, by decide +kernel⟩
theorem hI_Ma_enter : Cond.instanceMethod y_Ma_enter ∈ WS := mw_301
theorem hS_Ma_enter : Cond.selects y_Ma_enter.cls y_Ma_enter y_Ma_enter ∈ WS := WS_mem 11 (by decide +kernel) (by decide +kernel)
theorem hY_Ma_leave : px_Y WS y_Ma_leave b_Ma_leave 2 none 0 := ⟨WS_ok, mw_306, mw_2, by decide, by decide, by decide +kernel⟩
theorem hI_Ma_leave : Cond.instanceMethod y_Ma_leave ∈ WS := mw_305
theorem hS_Ma_leave : Cond.selects y_Ma_leave.cls y_Ma_leave y_Ma_leave ∈ WS := WS_mem 12 (by decide +kernel) (by decide +kernel)
theorem hY_Ma_takeInput : px_Y WS y_Ma_takeInput b_Ma_takeInput 1 none 0 := ⟨WS_ok, mw_310, mw_2, by decide, by decide, by decide +kernel⟩
theorem hI_Ma_takeInput : Cond.instanceMethod y_Ma_takeInput ∈ WS := mw_309
theorem hS_Ma_takeInput : Cond.selects y_Ma_takeInput.cls y_Ma_takeInput y_Ma_takeInput ∈ WS := WS_mem 13 (by decide +kernel) (by decide +kernel)
theorem hY_Ma_pushRandom : px_Y WS y_Ma_pushRandom b_Ma_pushRandom 2 none 1 := ⟨WS_ok, mw_314, mw_2, by decide, by decide, by decide +kernel⟩
theorem hI_Ma_pushRandom : Cond.instanceMethod y_Ma_pushRandom ∈ WS := mw_313
theorem hS_Ma_pushRandom : Cond.selects y_Ma_pushRandom.cls y_Ma_pushRandom y_Ma_pushRandom ∈ WS := WS_mem 14 (by decide +kernel) (by decide +kernel)
theorem hY_Ma_addInput : px_Y WS y_Ma_addInput b_Ma_addInput 2 (some .int) 1 := ⟨WS_ok, mw_206, mw_2, by decide, by decide, by decide +kernel⟩
theorem hI_Ma_addInput : Cond.instanceMethod y_Ma_addInput ∈ WS := mw_204
theorem hS_Ma_addInput : Cond.selects y_Ma_addInput.cls y_Ma_addInput y_Ma_addInput ∈ WS := mw_205
theorem hY_Rg_copyRegisters : px_Y WS y_Rg_copyRegisters b_Rg_copyRegisters 2 none 1 := ⟨WS_ok, mw_263, mw_3, by decide, by decide, by decide +kernel⟩
theorem hI_Rg_copyRegisters : Cond.instanceMethod y_Rg_copyRegisters ∈ WS := mw_262
theorem hY_St_copyState : px_Y WS y_St_copyState b_St_copyState 2 none 1 := ⟨WS_ok, mw_331, mw_4, by decide, by decide, by decide +kernel⟩
theorem hI_St_copyState : Cond.instanceMethod y_St_copyState ∈ WS := mw_329
theorem hS_St_copyState : Cond.selects y_St_copyState.cls y_St_copyState y_St_copyState ∈ WS := mw_330
theorem hY_Nt_begin : px_Y WS y_Nt_begin b_Nt_begin 2 none 1 := ⟨WS_ok, mw_257, mw_6, by decide, by decide, by decide +kernel⟩
theorem hI_Nt_begin : Cond.instanceMethod y_Nt_begin ∈ WS := mw_255
theorem hS_Nt_begin : Cond.selects y_Nt_begin.cls y_Nt_begin y_Nt_begin ∈ WS := mw_256
theorem hY_Un_begin : px_Y WS y_Un_begin b_Un_begin 2 (some (.object "ReplayMachine$Note")) 1 := ⟨WS_ok, mw_250, mw_5, by decide, by decide, by decide +kernel⟩
theorem hI_Un_begin : Cond.instanceMethod y_Un_begin ∈ WS := mw_248
theorem hS_Un_begin : Cond.selects y_Un_begin.cls y_Un_begin y_Un_begin ∈ WS := mw_249
theorem hY_Ma_perform : px_Y WS y_Ma_perform b_Ma_perform 3 none 0 := ⟨WS_ok, mw_246, mw_2, by decide, by decide, by decide +kernel⟩
theorem hI_Ma_perform : Cond.instanceMethod y_Ma_perform ∈ WS := mw_244
theorem hS_Ma_perform : Cond.selects y_Ma_perform.cls y_Ma_perform y_Ma_perform ∈ WS := mw_245
theorem hY_Cp_isMultiple : px_Y WS y_Cp_isMultiple b_Cp_isMultiple 2 (some .boolean) 1 := ⟨WS_ok, mw_323, mw_7, by decide, by decide, by decide +kernel⟩
theorem hI_Cp_isMultiple : Cond.instanceMethod y_Cp_isMultiple ∈ WS := mw_322
theorem hS_Cp_isMultiple : Cond.selects y_Cp_isMultiple.cls y_Cp_isMultiple y_Cp_isMultiple ∈ WS := WS_mem 15 (by decide +kernel) (by decide +kernel)
theorem hY_RM_mark : px_Y WS y_RM_mark b_RM_mark 4 (some .boolean) 3 := ⟨WS_ok, mw_512, mw_1, by decide, by decide, by decide +kernel⟩
theorem hT_RM_mark : Cond.static y_RM_mark ∈ WS := mw_511
theorem hY_RM_stopHere : px_Y WS y_RM_stopHere b_RM_stopHere 2 (some .int) 0 := ⟨WS_ok, mw_469, mw_1, by decide, by decide, by decide +kernel⟩
theorem hI_RM_stopHere : Cond.instanceMethod y_RM_stopHere ∈ WS := mw_468
theorem hS_RM_stopHere : Cond.selects y_RM_stopHere.cls y_RM_stopHere y_RM_stopHere ∈ WS := WS_mem 18 (by decide +kernel) (by decide +kernel)
theorem hY_RM_input : px_Y WS y_RM_input b_RM_input 2 (some .int) 1 := ⟨WS_ok, mw_202, mw_1, by decide, by decide, by decide +kernel⟩
theorem hI_RM_input : Cond.instanceMethod y_RM_input ∈ WS := mw_200
theorem hS_RM_input : Cond.selects y_RM_input.cls y_RM_input y_RM_input ∈ WS := mw_201
theorem hY_RM_cell : px_Y WS y_RM_cell b_RM_cell 2 (some .int) 1 := ⟨WS_ok, mw_341, mw_1, by decide, by decide, by decide +kernel⟩
theorem hI_RM_cell : Cond.instanceMethod y_RM_cell ∈ WS := mw_339
theorem hS_RM_cell : Cond.selects y_RM_cell.cls y_RM_cell y_RM_cell ∈ WS := mw_340
theorem hY_Nt_restore : px_Y WS y_Nt_restore b_Nt_restore 3 none 1 := ⟨WS_ok, mw_488, mw_6, by decide, by decide, by decide +kernel⟩
theorem hI_Nt_restore : Cond.instanceMethod y_Nt_restore ∈ WS := mw_486
theorem hS_Nt_restore : Cond.selects y_Nt_restore.cls y_Nt_restore y_Nt_restore ∈ WS := mw_487
theorem hY_Un_takeBack : px_Y WS y_Un_takeBack b_Un_takeBack 4 none 2 := ⟨WS_ok, mw_484, mw_5, by decide, by decide, by decide +kernel⟩
theorem hI_Un_takeBack : Cond.instanceMethod y_Un_takeBack ∈ WS := mw_482
theorem hS_Un_takeBack : Cond.selects y_Un_takeBack.cls y_Un_takeBack y_Un_takeBack ∈ WS := mw_483
theorem hY_Cp_thinOut : px_Y WS y_Cp_thinOut b_Cp_thinOut 4 none 0 := ⟨WS_ok, mw_327, mw_7, by decide, by decide, by decide +kernel⟩
theorem hI_Cp_thinOut : Cond.instanceMethod y_Cp_thinOut ∈ WS := mw_326
theorem hS_Cp_thinOut : Cond.selects y_Cp_thinOut.cls y_Cp_thinOut y_Cp_thinOut ∈ WS := WS_mem 16 (by decide +kernel) (by decide +kernel)
theorem hY_Cp_latestUpTo : px_Y WS y_Cp_latestUpTo b_Cp_latestUpTo 4 (some (.object "ReplayMachine$State")) 1 := ⟨WS_ok, mw_493, mw_7, by decide, by decide, by decide +kernel⟩
theorem hI_Cp_latestUpTo : Cond.instanceMethod y_Cp_latestUpTo ∈ WS := mw_491
theorem hS_Cp_latestUpTo : Cond.selects y_Cp_latestUpTo.cls y_Cp_latestUpTo y_Cp_latestUpTo ∈ WS := mw_492
theorem hY_Cp_offer : px_Y WS y_Cp_offer b_Cp_offer 2 none 1 := ⟨WS_ok, mw_319, mw_7, by decide, by decide, by decide +kernel⟩
theorem hI_Cp_offer : Cond.instanceMethod y_Cp_offer ∈ WS := mw_317
theorem hS_Cp_offer : Cond.selects y_Cp_offer.cls y_Cp_offer y_Cp_offer ∈ WS := mw_318
theorem hY_RM_advance : px_Y WS y_RM_advance b_RM_advance 2 (some .int) 0 := ⟨WS_ok, mw_214, mw_1, by decide, by decide, by decide +kernel⟩
theorem hI_RM_advance : Cond.instanceMethod y_RM_advance ∈ WS := mw_213
theorem hS_RM_advance : Cond.selects y_RM_advance.cls y_RM_advance y_RM_advance ∈ WS := WS_mem 0 (by decide +kernel) (by decide +kernel)
theorem hY_RM_step : px_Y WS y_RM_step b_RM_step 1 (some .int) 0 := ⟨WS_ok, mw_210, mw_1, by decide, by decide, by decide +kernel⟩
theorem hI_RM_step : Cond.instanceMethod y_RM_step ∈ WS := mw_208
theorem hS_RM_step : Cond.selects y_RM_step.cls y_RM_step y_RM_step ∈ WS := mw_209
theorem hY_RM_travel : px_Y WS y_RM_travel b_RM_travel 6 none 1 := ⟨WS_ok, mw_480, mw_1, by decide, by decide, by decide +kernel⟩
theorem hI_RM_travel : Cond.instanceMethod y_RM_travel ∈ WS := mw_479
theorem hS_RM_travel : Cond.selects y_RM_travel.cls y_RM_travel y_RM_travel ∈ WS := WS_mem 19 (by decide +kernel) (by decide +kernel)
theorem hY_RM_forth : px_Y WS y_RM_forth b_RM_forth 4 (some .int) 1 := ⟨WS_ok, mw_446, mw_1, by decide, by decide, by decide +kernel⟩
theorem hI_RM_forth : Cond.instanceMethod y_RM_forth ∈ WS := mw_444
theorem hS_RM_forth : Cond.selects y_RM_forth.cls y_RM_forth y_RM_forth ∈ WS := mw_445
theorem hY_RM_back : px_Y WS y_RM_back b_RM_back 4 (some .int) 1 := ⟨WS_ok, mw_476, mw_1, by decide, by decide, by decide +kernel⟩
theorem hI_RM_back : Cond.instanceMethod y_RM_back ∈ WS := mw_474
theorem hS_RM_back : Cond.selects y_RM_back.cls y_RM_back y_RM_back ∈ WS := mw_475
theorem hY_RM_go : px_Y WS y_RM_go b_RM_go 2 none 1 := ⟨WS_ok, mw_501, mw_1, by decide, by decide, by decide +kernel⟩
theorem hI_RM_go : Cond.instanceMethod y_RM_go ∈ WS := mw_499
theorem hS_RM_go : Cond.selects y_RM_go.cls y_RM_go y_RM_go ∈ WS := mw_500
theorem hY_RM_poke : px_Y WS y_RM_poke b_RM_poke 3 none 2 := ⟨WS_ok, mw_354, mw_1, by decide, by decide, by decide +kernel⟩
theorem hI_RM_poke : Cond.instanceMethod y_RM_poke ∈ WS := mw_352
theorem hS_RM_poke : Cond.selects y_RM_poke.cls y_RM_poke y_RM_poke ∈ WS := mw_353
theorem hY_RM_setBreak : px_Y WS y_RM_setBreak b_RM_setBreak 2 (some .boolean) 1 := ⟨WS_ok, mw_509, mw_1, by decide, by decide, by decide +kernel⟩
theorem hI_RM_setBreak : Cond.instanceMethod y_RM_setBreak ∈ WS := mw_507
theorem hS_RM_setBreak : Cond.selects y_RM_setBreak.cls y_RM_setBreak y_RM_setBreak ∈ WS := mw_508
theorem hY_RM_clearBreak : px_Y WS y_RM_clearBreak b_RM_clearBreak 2 (some .boolean) 1 := ⟨WS_ok, mw_519, mw_1, by decide, by decide, by decide +kernel⟩
theorem hI_RM_clearBreak : Cond.instanceMethod y_RM_clearBreak ∈ WS := mw_517
theorem hS_RM_clearBreak : Cond.selects y_RM_clearBreak.cls y_RM_clearBreak y_RM_clearBreak ∈ WS := mw_518
theorem hY_RM_setWatch : px_Y WS y_RM_setWatch b_RM_setWatch 2 (some .boolean) 1 := ⟨WS_ok, mw_526, mw_1, by decide, by decide, by decide +kernel⟩
theorem hI_RM_setWatch : Cond.instanceMethod y_RM_setWatch ∈ WS := mw_524
theorem hS_RM_setWatch : Cond.selects y_RM_setWatch.cls y_RM_setWatch y_RM_setWatch ∈ WS := mw_525
theorem hY_RM_clearWatch : px_Y WS y_RM_clearWatch b_RM_clearWatch 2 (some .boolean) 1 := ⟨WS_ok, mw_534, mw_1, by decide, by decide, by decide +kernel⟩
theorem hI_RM_clearWatch : Cond.instanceMethod y_RM_clearWatch ∈ WS := mw_532
theorem hS_RM_clearWatch : Cond.selects y_RM_clearWatch.cls y_RM_clearWatch y_RM_clearWatch ∈ WS := mw_533
theorem hY_RM_state : px_Y WS y_RM_state b_RM_state 3 (some .int) 1 := ⟨WS_ok, mw_541, mw_1, by decide, by decide, by decide +kernel⟩
theorem hI_RM_state : Cond.instanceMethod y_RM_state ∈ WS := mw_539
theorem hS_RM_state : Cond.selects y_RM_state.cls y_RM_state y_RM_state ∈ WS := mw_540
theorem hY_RM_stack : px_Y WS y_RM_stack b_RM_stack 2 (some .int) 1 := ⟨WS_ok, mw_549, mw_1, by decide, by decide, by decide +kernel⟩
theorem hI_RM_stack : Cond.instanceMethod y_RM_stack ∈ WS := mw_547
theorem hS_RM_stack : Cond.selects y_RM_stack.cls y_RM_stack y_RM_stack ∈ WS := mw_548
theorem hY_RM_checkpoint : px_Y WS y_RM_checkpoint b_RM_checkpoint 2 (some .int) 1 := ⟨WS_ok, mw_558, mw_1, by decide, by decide, by decide +kernel⟩
theorem hI_RM_checkpoint : Cond.instanceMethod y_RM_checkpoint ∈ WS := mw_556
theorem hS_RM_checkpoint : Cond.selects y_RM_checkpoint.cls y_RM_checkpoint y_RM_checkpoint ∈ WS := mw_557
theorem m_const_Ma_138 : Cond.constant "ReplayMachine$Machine" 138 (1103515245) ∈ WS := mw_315
theorem fd_Cp_11_Cp : px_Fd WS CLS "ReplayMachine$Checkpoints" 11 0 0 := ⟨"ReplayMachine$Checkpoints", "ReplayMachine$Checkpoints", T_Cp, 3, rfl, in_Cp, by decide, mw_166, Or.inl rfl⟩
theorem fd_Cp_20_Cp : px_Fd WS CLS "ReplayMachine$Checkpoints" 20 0 1 := ⟨"ReplayMachine$Checkpoints", "ReplayMachine$Checkpoints", T_Cp, 3, rfl, in_Cp, by decide, mw_168, Or.inl rfl⟩
theorem fd_Cp_24_Cp : px_Fd WS CLS "ReplayMachine$Checkpoints" 24 0 2 := ⟨"ReplayMachine$Checkpoints", "ReplayMachine$Checkpoints", T_Cp, 3, rfl, in_Cp, by decide, mw_170, Or.inl rfl⟩
theorem fd_Cp_27_St : px_Fd WS CLS "ReplayMachine$Checkpoints" 27 3 0 := ⟨"ReplayMachine$State", "ReplayMachine$State", T_St, 8, rfl, in_St, by decide, mw_45, Or.inr mw_46⟩
theorem fd_Ma_126_St : px_Fd WS CLS "ReplayMachine$Machine" 126 3 7 := ⟨"ReplayMachine$State", "ReplayMachine$State", T_St, 8, rfl, in_St, by decide, mw_42, Or.inl rfl⟩
theorem fd_Ma_139_St : px_Fd WS CLS "ReplayMachine$Machine" 139 3 3 := ⟨"ReplayMachine$State", "ReplayMachine$State", T_St, 8, rfl, in_St, by decide, mw_61, Or.inr mw_58⟩
theorem fd_Ma_15_Ma : px_Fd WS CLS "ReplayMachine$Machine" 15 1 1 := ⟨"ReplayMachine$Machine", "ReplayMachine$Machine", T_Ma, 6, rfl, in_Ma, by decide, mw_137, Or.inl rfl⟩
theorem fd_Ma_23_Ma : px_Fd WS CLS "ReplayMachine$Machine" 23 1 2 := ⟨"ReplayMachine$Machine", "ReplayMachine$Machine", T_Ma, 6, rfl, in_Ma, by decide, mw_138, Or.inl rfl⟩
theorem fd_Ma_30_Ma : px_Fd WS CLS "ReplayMachine$Machine" 30 1 3 := ⟨"ReplayMachine$Machine", "ReplayMachine$Machine", T_Ma, 6, rfl, in_Ma, by decide, mw_140, Or.inl rfl⟩
theorem fd_Ma_38_Ma : px_Fd WS CLS "ReplayMachine$Machine" 38 1 5 := ⟨"ReplayMachine$Machine", "ReplayMachine$Machine", T_Ma, 6, rfl, in_Ma, by decide, mw_143, Or.inl rfl⟩
theorem fd_Ma_42_Ma : px_Fd WS CLS "ReplayMachine$Machine" 42 1 4 := ⟨"ReplayMachine$Machine", "ReplayMachine$Machine", T_Ma, 6, rfl, in_Ma, by decide, mw_142, Or.inl rfl⟩
theorem fd_Ma_46_St : px_Fd WS CLS "ReplayMachine$Machine" 46 3 1 := ⟨"ReplayMachine$State", "ReplayMachine$State", T_St, 8, rfl, in_St, by decide, mw_50, Or.inr mw_51⟩
theorem fd_Ma_60_St : px_Fd WS CLS "ReplayMachine$Machine" 60 3 4 := ⟨"ReplayMachine$State", "ReplayMachine$State", T_St, 8, rfl, in_St, by decide, mw_63, Or.inr mw_64⟩
theorem fd_Ma_63_St : px_Fd WS CLS "ReplayMachine$Machine" 63 3 5 := ⟨"ReplayMachine$State", "ReplayMachine$State", T_St, 8, rfl, in_St, by decide, mw_67, Or.inr mw_68⟩
theorem fd_Ma_69_St : px_Fd WS CLS "ReplayMachine$Machine" 69 3 2 := ⟨"ReplayMachine$State", "ReplayMachine$State", T_St, 8, rfl, in_St, by decide, mw_54, Or.inr mw_55⟩
theorem fd_Ma_85_St : px_Fd WS CLS "ReplayMachine$Machine" 85 3 0 := ⟨"ReplayMachine$State", "ReplayMachine$State", T_St, 8, rfl, in_St, by decide, mw_48, Or.inr mw_46⟩
theorem fd_Ma_9_Ma : px_Fd WS CLS "ReplayMachine$Machine" 9 1 0 := ⟨"ReplayMachine$Machine", "ReplayMachine$Machine", T_Ma, 6, rfl, in_Ma, by decide, mw_135, Or.inl rfl⟩
theorem fd_Nt_13_Nt : px_Fd WS CLS "ReplayMachine$Note" 13 2 8 := ⟨"ReplayMachine$Note", "ReplayMachine$Note", T_Nt, 10, rfl, in_Nt, by decide, mw_107, Or.inl rfl⟩
theorem fd_Nt_20_Nt : px_Fd WS CLS "ReplayMachine$Note" 20 2 9 := ⟨"ReplayMachine$Note", "ReplayMachine$Note", T_Nt, 10, rfl, in_Nt, by decide, mw_108, Or.inl rfl⟩
theorem fd_Nt_24_St : px_Fd WS CLS "ReplayMachine$Note" 24 3 7 := ⟨"ReplayMachine$State", "ReplayMachine$State", T_St, 8, rfl, in_St, by decide, mw_41, Or.inl rfl⟩
theorem fd_Nt_9_Nt : px_Fd WS CLS "ReplayMachine$Note" 9 2 7 := ⟨"ReplayMachine$Note", "ReplayMachine$Note", T_Nt, 10, rfl, in_Nt, by decide, mw_106, Or.inl rfl⟩
theorem fd_Rg_13_Nt : px_Fd WS CLS "ReplayMachine$Registers" 13 2 1 := ⟨"ReplayMachine$Registers", "ReplayMachine$Note", T_Nt, 10, rfl, in_Nt, by decide, mw_49, Or.inl rfl⟩
theorem fd_Rg_13_St : px_Fd WS CLS "ReplayMachine$Registers" 13 3 1 := ⟨"ReplayMachine$Registers", "ReplayMachine$State", T_St, 8, rfl, in_St, by decide, mw_49, Or.inl rfl⟩
theorem fd_Rg_16_Nt : px_Fd WS CLS "ReplayMachine$Registers" 16 2 2 := ⟨"ReplayMachine$Registers", "ReplayMachine$Note", T_Nt, 10, rfl, in_Nt, by decide, mw_53, Or.inl rfl⟩
theorem fd_Rg_16_St : px_Fd WS CLS "ReplayMachine$Registers" 16 3 2 := ⟨"ReplayMachine$Registers", "ReplayMachine$State", T_St, 8, rfl, in_St, by decide, mw_53, Or.inl rfl⟩
theorem fd_Rg_19_Nt : px_Fd WS CLS "ReplayMachine$Registers" 19 2 3 := ⟨"ReplayMachine$Registers", "ReplayMachine$Note", T_Nt, 10, rfl, in_Nt, by decide, mw_59, Or.inl rfl⟩
theorem fd_Rg_19_St : px_Fd WS CLS "ReplayMachine$Registers" 19 3 3 := ⟨"ReplayMachine$Registers", "ReplayMachine$State", T_St, 8, rfl, in_St, by decide, mw_59, Or.inl rfl⟩
theorem fd_Rg_22_Nt : px_Fd WS CLS "ReplayMachine$Registers" 22 2 4 := ⟨"ReplayMachine$Registers", "ReplayMachine$Note", T_Nt, 10, rfl, in_Nt, by decide, mw_62, Or.inl rfl⟩
theorem fd_Rg_22_St : px_Fd WS CLS "ReplayMachine$Registers" 22 3 4 := ⟨"ReplayMachine$Registers", "ReplayMachine$State", T_St, 8, rfl, in_St, by decide, mw_62, Or.inl rfl⟩
theorem fd_Rg_25_Nt : px_Fd WS CLS "ReplayMachine$Registers" 25 2 5 := ⟨"ReplayMachine$Registers", "ReplayMachine$Note", T_Nt, 10, rfl, in_Nt, by decide, mw_66, Or.inl rfl⟩
theorem fd_Rg_25_St : px_Fd WS CLS "ReplayMachine$Registers" 25 3 5 := ⟨"ReplayMachine$Registers", "ReplayMachine$State", T_St, 8, rfl, in_St, by decide, mw_66, Or.inl rfl⟩
theorem fd_Rg_28_Nt : px_Fd WS CLS "ReplayMachine$Registers" 28 2 6 := ⟨"ReplayMachine$Registers", "ReplayMachine$Note", T_Nt, 10, rfl, in_Nt, by decide, mw_72, Or.inl rfl⟩
theorem fd_Rg_28_St : px_Fd WS CLS "ReplayMachine$Registers" 28 3 6 := ⟨"ReplayMachine$Registers", "ReplayMachine$State", T_St, 8, rfl, in_St, by decide, mw_72, Or.inl rfl⟩
theorem fd_Rg_7_Nt : px_Fd WS CLS "ReplayMachine$Registers" 7 2 0 := ⟨"ReplayMachine$Registers", "ReplayMachine$Note", T_Nt, 10, rfl, in_Nt, by decide, mw_44, Or.inl rfl⟩
theorem fd_Rg_7_St : px_Fd WS CLS "ReplayMachine$Registers" 7 3 0 := ⟨"ReplayMachine$Registers", "ReplayMachine$State", T_St, 8, rfl, in_St, by decide, mw_44, Or.inl rfl⟩
theorem fd_St_18_St : px_Fd WS CLS "ReplayMachine$State" 18 3 7 := ⟨"ReplayMachine$State", "ReplayMachine$State", T_St, 8, rfl, in_St, by decide, mw_40, Or.inl rfl⟩
theorem fd_Un_11_Un : px_Fd WS CLS "ReplayMachine$Undo" 11 4 0 := ⟨"ReplayMachine$Undo", "ReplayMachine$Undo", T_Un, 3, rfl, in_Un, by decide, mw_123, Or.inl rfl⟩
theorem fd_Un_18_Un : px_Fd WS CLS "ReplayMachine$Undo" 18 4 1 := ⟨"ReplayMachine$Undo", "ReplayMachine$Undo", T_Un, 3, rfl, in_Un, by decide, mw_125, Or.inl rfl⟩
theorem fd_Un_22_Un : px_Fd WS CLS "ReplayMachine$Undo" 22 4 2 := ⟨"ReplayMachine$Undo", "ReplayMachine$Undo", T_Un, 3, rfl, in_Un, by decide, mw_126, Or.inl rfl⟩
theorem fd_RM_102_St : px_Fd WS CLS "ReplayMachine" 102 3 2 := ⟨"ReplayMachine$State", "ReplayMachine$State", T_St, 8, rfl, in_St, by decide, mw_56, Or.inr mw_55⟩
theorem fd_RM_105_St : px_Fd WS CLS "ReplayMachine" 105 3 3 := ⟨"ReplayMachine$State", "ReplayMachine$State", T_St, 8, rfl, in_St, by decide, mw_60, Or.inr mw_58⟩
theorem fd_RM_108_St : px_Fd WS CLS "ReplayMachine" 108 3 4 := ⟨"ReplayMachine$State", "ReplayMachine$State", T_St, 8, rfl, in_St, by decide, mw_65, Or.inr mw_64⟩
theorem fd_RM_111_St : px_Fd WS CLS "ReplayMachine" 111 3 5 := ⟨"ReplayMachine$State", "ReplayMachine$State", T_St, 8, rfl, in_St, by decide, mw_69, Or.inr mw_68⟩
theorem fd_RM_114_Ma : px_Fd WS CLS "ReplayMachine" 114 1 3 := ⟨"ReplayMachine$Machine", "ReplayMachine$Machine", T_Ma, 6, rfl, in_Ma, by decide, mw_141, Or.inl rfl⟩
theorem fd_RM_118_Un : px_Fd WS CLS "ReplayMachine" 118 4 2 := ⟨"ReplayMachine$Undo", "ReplayMachine$Undo", T_Un, 3, rfl, in_Un, by decide, mw_127, Or.inl rfl⟩
theorem fd_RM_123_Cp : px_Fd WS CLS "ReplayMachine" 123 0 2 := ⟨"ReplayMachine$Checkpoints", "ReplayMachine$Checkpoints", T_Cp, 3, rfl, in_Cp, by decide, mw_171, Or.inl rfl⟩
theorem fd_RM_126_Cp : px_Fd WS CLS "ReplayMachine" 126 0 1 := ⟨"ReplayMachine$Checkpoints", "ReplayMachine$Checkpoints", T_Cp, 3, rfl, in_Cp, by decide, mw_169, Or.inl rfl⟩
theorem fd_RM_129_St : px_Fd WS CLS "ReplayMachine" 129 3 7 := ⟨"ReplayMachine$State", "ReplayMachine$State", T_St, 8, rfl, in_St, by decide, mw_43, Or.inl rfl⟩
theorem fd_RM_139_Cp : px_Fd WS CLS "ReplayMachine" 139 0 0 := ⟨"ReplayMachine$Checkpoints", "ReplayMachine$Checkpoints", T_Cp, 3, rfl, in_Cp, by decide, mw_167, Or.inl rfl⟩
theorem fd_RM_14_RM : px_Fd WS CLS "ReplayMachine" 14 5 0 := ⟨"ReplayMachine", "ReplayMachine", T_RM, 6, rfl, in_RM, by decide, mw_179, Or.inl rfl⟩
theorem fd_RM_153_St : px_Fd WS CLS "ReplayMachine" 153 3 6 := ⟨"ReplayMachine$State", "ReplayMachine$State", T_St, 8, rfl, in_St, by decide, mw_74, Or.inr mw_71⟩
theorem fd_RM_21_RM : px_Fd WS CLS "ReplayMachine" 21 5 1 := ⟨"ReplayMachine", "ReplayMachine", T_RM, 6, rfl, in_RM, by decide, mw_180, Or.inl rfl⟩
theorem fd_RM_25_RM : px_Fd WS CLS "ReplayMachine" 25 5 2 := ⟨"ReplayMachine", "ReplayMachine", T_RM, 6, rfl, in_RM, by decide, mw_181, Or.inl rfl⟩
theorem fd_RM_29_RM : px_Fd WS CLS "ReplayMachine" 29 5 3 := ⟨"ReplayMachine", "ReplayMachine", T_RM, 6, rfl, in_RM, by decide, mw_182, Or.inl rfl⟩
theorem fd_RM_43_RM : px_Fd WS CLS "ReplayMachine" 43 5 4 := ⟨"ReplayMachine", "ReplayMachine", T_RM, 6, rfl, in_RM, by decide, mw_183, Or.inl rfl⟩
theorem fd_RM_52_Ma : px_Fd WS CLS "ReplayMachine" 52 1 0 := ⟨"ReplayMachine$Machine", "ReplayMachine$Machine", T_Ma, 6, rfl, in_Ma, by decide, mw_136, Or.inl rfl⟩
theorem fd_RM_60_RM : px_Fd WS CLS "ReplayMachine" 60 5 5 := ⟨"ReplayMachine", "ReplayMachine", T_RM, 6, rfl, in_RM, by decide, mw_184, Or.inl rfl⟩
theorem fd_RM_79_Ma : px_Fd WS CLS "ReplayMachine" 79 1 2 := ⟨"ReplayMachine$Machine", "ReplayMachine$Machine", T_Ma, 6, rfl, in_Ma, by decide, mw_139, Or.inl rfl⟩
theorem fd_RM_83_St : px_Fd WS CLS "ReplayMachine" 83 3 0 := ⟨"ReplayMachine$State", "ReplayMachine$State", T_St, 8, rfl, in_St, by decide, mw_47, Or.inr mw_46⟩
theorem fd_RM_99_St : px_Fd WS CLS "ReplayMachine" 99 3 1 := ⟨"ReplayMachine$State", "ReplayMachine$State", T_St, 8, rfl, in_St, by decide, mw_52, Or.inr mw_51⟩
theorem fp_Cp_20_Cp : px_Fp WS CLS "ReplayMachine$Checkpoints" 20 0 1 .int := ⟨"ReplayMachine$Checkpoints", "ReplayMachine$Checkpoints", T_Cp, 3, t_Cp, rfl, in_Cp, by decide, mw_168, Or.inl rfl, ty_Cp, nm_Cp, rfl, by decide +kernel⟩
theorem fp_Cp_24_Cp : px_Fp WS CLS "ReplayMachine$Checkpoints" 24 0 2 .int := ⟨"ReplayMachine$Checkpoints", "ReplayMachine$Checkpoints", T_Cp, 3, t_Cp, rfl, in_Cp, by decide, mw_170, Or.inl rfl, ty_Cp, nm_Cp, rfl, by decide +kernel⟩
theorem fp_Ma_139_St : px_Fp WS CLS "ReplayMachine$Machine" 139 3 3 .int := ⟨"ReplayMachine$State", "ReplayMachine$State", T_St, 8, t_St, rfl, in_St, by decide, mw_61, Or.inr mw_58, ty_St, nm_St, rfl, by decide +kernel⟩
theorem fp_Ma_38_Ma : px_Fp WS CLS "ReplayMachine$Machine" 38 1 5 (.object "ReplayMachine$Note") := ⟨"ReplayMachine$Machine", "ReplayMachine$Machine", T_Ma, 6, t_Ma, rfl, in_Ma, by decide, mw_143, Or.inl rfl, ty_Ma, nm_Ma, rfl, by decide +kernel⟩
theorem fp_Ma_42_Ma : px_Fp WS CLS "ReplayMachine$Machine" 42 1 4 .int := ⟨"ReplayMachine$Machine", "ReplayMachine$Machine", T_Ma, 6, t_Ma, rfl, in_Ma, by decide, mw_142, Or.inl rfl, ty_Ma, nm_Ma, rfl, by decide +kernel⟩
theorem fp_Ma_46_St : px_Fp WS CLS "ReplayMachine$Machine" 46 3 1 .int := ⟨"ReplayMachine$State", "ReplayMachine$State", T_St, 8, t_St, rfl, in_St, by decide, mw_50, Or.inr mw_51, ty_St, nm_St, rfl, by decide +kernel⟩
theorem fp_Ma_60_St : px_Fp WS CLS "ReplayMachine$Machine" 60 3 4 .int := ⟨"ReplayMachine$State", "ReplayMachine$State", T_St, 8, t_St, rfl, in_St, by decide, mw_63, Or.inr mw_64, ty_St, nm_St, rfl, by decide +kernel⟩
theorem fp_Ma_63_St : px_Fp WS CLS "ReplayMachine$Machine" 63 3 5 .int := ⟨"ReplayMachine$State", "ReplayMachine$State", T_St, 8, t_St, rfl, in_St, by decide, mw_67, Or.inr mw_68, ty_St, nm_St, rfl, by decide +kernel⟩
theorem fp_Ma_69_St : px_Fp WS CLS "ReplayMachine$Machine" 69 3 2 .int := ⟨"ReplayMachine$State", "ReplayMachine$State", T_St, 8, t_St, rfl, in_St, by decide, mw_54, Or.inr mw_55, ty_St, nm_St, rfl, by decide +kernel⟩
theorem fp_Ma_85_St : px_Fp WS CLS "ReplayMachine$Machine" 85 3 0 .int := ⟨"ReplayMachine$State", "ReplayMachine$State", T_St, 8, t_St, rfl, in_St, by decide, mw_48, Or.inr mw_46, ty_St, nm_St, rfl, by decide +kernel⟩
theorem fp_Ma_88_St : px_Fp WS CLS "ReplayMachine$Machine" 88 3 6 .int := ⟨"ReplayMachine$State", "ReplayMachine$State", T_St, 8, t_St, rfl, in_St, by decide, mw_73, Or.inr mw_71, ty_St, nm_St, rfl, by decide +kernel⟩
theorem fp_Nt_20_Nt : px_Fp WS CLS "ReplayMachine$Note" 20 2 9 .int := ⟨"ReplayMachine$Note", "ReplayMachine$Note", T_Nt, 10, t_Nt, rfl, in_Nt, by decide, mw_108, Or.inl rfl, ty_Nt, nm_Nt, rfl, by decide +kernel⟩
theorem fp_Rg_13_Nt : px_Fp WS CLS "ReplayMachine$Registers" 13 2 1 .int := ⟨"ReplayMachine$Registers", "ReplayMachine$Note", T_Nt, 10, t_Nt, rfl, in_Nt, by decide, mw_49, Or.inl rfl, ty_Nt, nm_Nt, rfl, by decide +kernel⟩
theorem fp_Rg_13_St : px_Fp WS CLS "ReplayMachine$Registers" 13 3 1 .int := ⟨"ReplayMachine$Registers", "ReplayMachine$State", T_St, 8, t_St, rfl, in_St, by decide, mw_49, Or.inl rfl, ty_St, nm_St, rfl, by decide +kernel⟩
theorem fp_Rg_16_Nt : px_Fp WS CLS "ReplayMachine$Registers" 16 2 2 .int := ⟨"ReplayMachine$Registers", "ReplayMachine$Note", T_Nt, 10, t_Nt, rfl, in_Nt, by decide, mw_53, Or.inl rfl, ty_Nt, nm_Nt, rfl, by decide +kernel⟩
theorem fp_Rg_16_St : px_Fp WS CLS "ReplayMachine$Registers" 16 3 2 .int := ⟨"ReplayMachine$Registers", "ReplayMachine$State", T_St, 8, t_St, rfl, in_St, by decide, mw_53, Or.inl rfl, ty_St, nm_St, rfl, by decide +kernel⟩
theorem fp_Rg_19_Nt : px_Fp WS CLS "ReplayMachine$Registers" 19 2 3 .int := ⟨"ReplayMachine$Registers", "ReplayMachine$Note", T_Nt, 10, t_Nt, rfl, in_Nt, by decide, mw_59, Or.inl rfl, ty_Nt, nm_Nt, rfl, by decide +kernel⟩
theorem fp_Rg_19_St : px_Fp WS CLS "ReplayMachine$Registers" 19 3 3 .int := ⟨"ReplayMachine$Registers", "ReplayMachine$State", T_St, 8, t_St, rfl, in_St, by decide, mw_59, Or.inl rfl, ty_St, nm_St, rfl, by decide +kernel⟩
theorem fp_Rg_22_Nt : px_Fp WS CLS "ReplayMachine$Registers" 22 2 4 .int := ⟨"ReplayMachine$Registers", "ReplayMachine$Note", T_Nt, 10, t_Nt, rfl, in_Nt, by decide, mw_62, Or.inl rfl, ty_Nt, nm_Nt, rfl, by decide +kernel⟩
theorem fp_Rg_22_St : px_Fp WS CLS "ReplayMachine$Registers" 22 3 4 .int := ⟨"ReplayMachine$Registers", "ReplayMachine$State", T_St, 8, t_St, rfl, in_St, by decide, mw_62, Or.inl rfl, ty_St, nm_St, rfl, by decide +kernel⟩
theorem fp_Rg_25_Nt : px_Fp WS CLS "ReplayMachine$Registers" 25 2 5 .int := ⟨"ReplayMachine$Registers", "ReplayMachine$Note", T_Nt, 10, t_Nt, rfl, in_Nt, by decide, mw_66, Or.inl rfl, ty_Nt, nm_Nt, rfl, by decide +kernel⟩
theorem fp_Rg_25_St : px_Fp WS CLS "ReplayMachine$Registers" 25 3 5 .int := ⟨"ReplayMachine$Registers", "ReplayMachine$State", T_St, 8, t_St, rfl, in_St, by decide, mw_66, Or.inl rfl, ty_St, nm_St, rfl, by decide +kernel⟩
theorem fp_Rg_28_Nt : px_Fp WS CLS "ReplayMachine$Registers" 28 2 6 .int := ⟨"ReplayMachine$Registers", "ReplayMachine$Note", T_Nt, 10, t_Nt, rfl, in_Nt, by decide, mw_72, Or.inl rfl, ty_Nt, nm_Nt, rfl, by decide +kernel⟩
theorem fp_Rg_28_St : px_Fp WS CLS "ReplayMachine$Registers" 28 3 6 .int := ⟨"ReplayMachine$Registers", "ReplayMachine$State", T_St, 8, t_St, rfl, in_St, by decide, mw_72, Or.inl rfl, ty_St, nm_St, rfl, by decide +kernel⟩
theorem fp_Rg_7_Nt : px_Fp WS CLS "ReplayMachine$Registers" 7 2 0 .int := ⟨"ReplayMachine$Registers", "ReplayMachine$Note", T_Nt, 10, t_Nt, rfl, in_Nt, by decide, mw_44, Or.inl rfl, ty_Nt, nm_Nt, rfl, by decide +kernel⟩
theorem fp_Rg_7_St : px_Fp WS CLS "ReplayMachine$Registers" 7 3 0 .int := ⟨"ReplayMachine$Registers", "ReplayMachine$State", T_St, 8, t_St, rfl, in_St, by decide, mw_44, Or.inl rfl, ty_St, nm_St, rfl, by decide +kernel⟩
theorem fp_Un_18_Un : px_Fp WS CLS "ReplayMachine$Undo" 18 4 1 .int := ⟨"ReplayMachine$Undo", "ReplayMachine$Undo", T_Un, 3, t_Un, rfl, in_Un, by decide, mw_125, Or.inl rfl, ty_Un, nm_Un, rfl, by decide +kernel⟩
theorem fp_Un_22_Un : px_Fp WS CLS "ReplayMachine$Undo" 22 4 2 .int := ⟨"ReplayMachine$Undo", "ReplayMachine$Undo", T_Un, 3, t_Un, rfl, in_Un, by decide, mw_126, Or.inl rfl, ty_Un, nm_Un, rfl, by decide +kernel⟩
theorem fp_RM_118_Un : px_Fp WS CLS "ReplayMachine" 118 4 2 .int := ⟨"ReplayMachine$Undo", "ReplayMachine$Undo", T_Un, 3, t_Un, rfl, in_Un, by decide, mw_127, Or.inl rfl, ty_Un, nm_Un, rfl, by decide +kernel⟩
theorem fp_RM_43_RM : px_Fp WS CLS "ReplayMachine" 43 5 4 .int := ⟨"ReplayMachine", "ReplayMachine", T_RM, 6, t_RM, rfl, in_RM, by decide, mw_183, Or.inl rfl, ty_RM, nm_RM, rfl, by decide +kernel⟩
theorem fp_RM_60_RM : px_Fp WS CLS "ReplayMachine" 60 5 5 .int := ⟨"ReplayMachine", "ReplayMachine", T_RM, 6, t_RM, rfl, in_RM, by decide, mw_184, Or.inl rfl, ty_RM, nm_RM, rfl, by decide +kernel⟩
end
section
/-- a name for a value, that opens by an equation -/
def px_let {α β : Type} (a : α) (f : α → β) : β := f a
theorem px_let_eq {α β : Type} {a b : α} {f : α → β} (h : b = a) : px_let a f = f b := by rw [h]; rfl
section PXS
variable {p : Program} {l : Launch} {e : Env} {R : Room} {s : State} {m : MethodId} {args : Array Value} {below : List Frame} {meth : Method} {cd : Code} {Q : State → Prop} {cells slots : Nat}
variable {D : va_G} {A : Nat → Prop} {ad : Nat → Nat} {n nL : Nat} {c : Nat → va_E} {pc : Nat} {L : List (Nat × Value)} {st : List Value} {cl : List vw_C}
theorem j_sub {L' : List (Nat × Value)} (ks : List Nat) (h : lv_pick L ks = L') (kk : px_J p l e R s m args below meth cd D cl A ad n nL cells slots Q c pc L' st) : px_J p l e R s m args below meth cd D cl A ad n nL cells slots Q c pc L st :=
  fun ls H locs h1 h2 h3 => kk ls H locs (lv_sub h1 ks h) h2 h3
end PXS
end
section
/-! a road that throws: new, dup, ldc, the constructor, athrow; nothing was written before; the world stays -/
def NMS : List String := ["java/lang/RuntimeException", "java/lang/Exception"]
def th_in (a : Cond) : Bool := decide (a ∈ WS) || decide (a ∈ DW) || decide (a = .laysStatic "java/lang/Throwable" "UNASSIGNED_STACK" "[Ljava/lang/StackTraceElement;") || decide (a = .laysStatic "java/lang/Throwable" "SUPPRESSED_SENTINEL" "Ljava/util/List;") || decide (a = .isRef (.static "java/lang/Throwable" "UNASSIGNED_STACK" "[Ljava/lang/StackTraceElement;")) || decide (a = .isRef (.static "java/lang/Throwable" "SUPPRESSED_SENTINEL" "Ljava/util/List;"))
theorem th_before {args : Array Value} {s : State} {A : Nat → Prop} (hts : ∀ w ∈ WS, w.before args s = true) (hg : gl_thr A s) {a : Cond} (h : th_in a = true) : a.before args s = true := by
  unfold th_in at h
  simp only [Bool.or_eq_true, decide_eq_true_eq] at h
  rcases h with ((((h | h) | rfl) | rfl) | rfl) | rfl
  · exact hts a h
  · have hk : a.onTables = true := by
      revert h a
      unfold DW
      decide +kernel
    exact va_tabs hk rfl (hg.1 a h)
  · exact hg.2.1.1
  · exact hg.2.2.1.1
  · exact hg.2.1.2.1
  · exact hg.2.2.1.2.1
theorem th_all {l : List Cond} {args : Array Value} {s : State} {A : Nat → Prop} (h : l.all th_in = true) (hts : ∀ w ∈ WS, w.before args s = true) (hg : gl_thr A s) : ∀ a ∈ l, a.before args s = true := fun a ha => th_before hts hg (List.all_eq_true.mp h a ha)
def px_QT (D : va_G) (cl : List vw_C) (ad : Nat → Nat) (n sz : Nat) (Xn : String) (c1 : Nat → va_E) : Array Value → State → Outcome → State → Prop := fun _ st o t =>
  ∃ (x : Nat) (ce : Cell), o = .threw x ∧ t.heap[x]? = some ce ∧ ce.vm = .none ∧ st.vm.findClass Xn = some ce.cls ∧ va_P D cl (px_W ad c1 n) t.heap ∧ va_F (px_A ad n sz) st t ∧ st.WarmedH t.vm ∧ st.sameButNew ({ t with vm := st.vm } : State) [] 1 6
def px_T (l : Launch) (y : MethodName) (ws : List Cond) (rm : Room) (G : (Nat → Prop) → State → Prop) (D : va_G) (cl : List vw_C) (tys : List (ClassId × FieldType)) (As : List Value) (ad : Nat → Nat) (c : Nat → va_E) (n : Nat) (Xn : String) : Prop :=
  ∀ sz : Nat, MetFree l y (headSpec ws rm) (px_Pc G D cl tys As ad c n sz) (fun _ _ _ _ _ => True) (px_QT D cl ad n sz Xn c)
def px_ZT (below : List Frame) (D : va_G) (cl : List vw_C) (ad : Nat → Nat) (n : Nat) (Xn : String) (c : Nat → va_E) (args : Array Value) (s : State) : State → Prop := fun t => ∃ o, t.status = .running ∧ Ended t below o ∧ px_QT D cl ad n s.heap.size Xn c args s o t
section THR
variable {p : Program} {l : Launch} {e : Env} {R : Room} {s : State} {m : MethodId} {args : Array Value} {below : List Frame} {meth : Method} {cd : Code} {Q : State → Prop} {cells slots : Nat}
variable {cc : ByteArray} {Ts : List Cond} {own : String} {G : (Nat → Prop) → State → Prop} {D : va_G} {A : Nat → Prop} {ad : Nat → Nat} {n nL : Nat} {c : Nat → va_E} {pc : Nat} {L : List (Nat × Value)} {st : List Value} {cl : List vw_C} {tys : List (ClassId × FieldType)}
theorem px_startT {y : MethodName} {ret : Option FieldType} {rm : Room} {As : List Value} {Xn : String} (hG : px_Gk G) (hy : plainName y.cls = true) (hlen : (lg_sl As).length ≤ nL)
    (body : ∀ (p : Program) (e : Env) (s : State) (m : MethodId) (args : Array Value) (below : List Frame) (meth : Method) (cd : Code), l.admits e → px_X p s m args cd cc nL Ts y.cls G D cl tys (px_A ad n s.heap.size) ad n → va_P D cl (px_W ad c n) s.heap → (∀ x ∈ cd.exceptionTable.toList, False) → meth.locks = false →
      px_Z p l e rm s m args below meth cd nL (px_ZT below D cl ad n Xn c args s) 0 (lv_args 0 As) []) :
    px_T l y (Cond.code y cc nL ret :: Ts) rm G D cl tys As ad c n Xn := by
  intro sz
  refine MetFree.of_bodyS (code := cc) (maxLocals := nL) (ret := ret) hy ?_ ?_
  · intro args s m h hn
    obtain ⟨meth, c, h1, h2, h3, h4, h5, h6, -, -⟩ := Cond.code_spec hn (atoms_spec (ws := Cond.code y cc nL ret :: Ts) h _ List.mem_cons_self)
    exact ⟨meth, c, h1, h2, h3, h4, h5, h6⟩
  · intro p e s m args below meth cd s₁ B hml hv _
    obtain ⟨rfl, hsz, hP, hK, hI, hg⟩ := hv
    subst hsz
    have hts := atoms_spec (ws := Cond.code y cc nL ret :: Ts) B.pre
    have hl := lv_entry As (n := nL) hlen
    have hh0 : s₁.heap = s.heap := by rw [B.state]; rfl
    obtain ⟨meth', c', q1, q2, -, -, -, -, q3, -⟩ := Cond.code_spec B.named (hts _ List.mem_cons_self)
    cases B.method.symm.trans q1
    cases (Stand.of_body B).code.symm.trans q2
    have hex : ∀ x ∈ cd.exceptionTable.toList, False := fun x hx => by
      have : cd.exceptionTable = #[] := Array.isEmpty_iff.mp q3
      rw [this] at hx
      cases hx
    have K := body p e s m _ below meth cd B.admits ⟨⟨B.exec, B.bytes, hml, findClass_of_methodNamed B.named, fun w h => hts w (List.mem_cons_of_mem _ h)⟩, hK, hI, fun i hi => Or.inl ⟨i, hi, rfl⟩, fun q hq => Or.inr hq, hG, hg⟩ hP hex B.notSynchronized _ hl
    obtain ⟨t, a1, o, b1, b2, b3⟩ := K s₁ hh0 (Stand.of_body B)
    rw [lg_entry_eq]
    exact ⟨t, o, a1, b1, b2, b3⟩
theorem z_get (X : px_X p s m args cd cc nL Ts own G D cl tys A ad n) (hP : va_P D cl (px_W ad c n) s.heap) {index ci k : Nat} (F : px_Fd Ts cl own index ci k) (i : Nat) (hi : i < n) {fs : List Value} (he : c i = .inr (ci, fs)) {v : Value} (hv : fs[k]? = some v) (hd : decode cc pc = .ok (.getfield index, 3))
    (kk : px_Z p l e R s m args below meth cd nL Q (pc + 3) L (v :: st)) : px_Z p l e R s m args below meth cd nL Q pc L (.ref (ad i) :: st) := by
  intro ls h1
  obtain ⟨ref, C, T, N, f1, f2, f3, f4, f5⟩ := F
  exact va_get X.1.1 X.1.2.1 X.1.2.2.2.2 f2 X.1.2.2.2.1 X.2.1 hP i (by rw [px_at hi, he]) f1 k f3 (X.1.2.2.2.2 _ f4) (px_same X.1.2.2.2.2 f5) hv hd (kk ls h1)
theorem z_throw (X : px_X p s m args cd cc nL WS "ReplayMachine" GG D cl tys A ad n) (hadm : l.admits e) (hfl : l.flags = pinnedFlags ++ [noTraceFlag]) (hP : va_P D cl (px_W ad c n) s.heap) (hex : ∀ x ∈ cd.exceptionTable.toList, False) (hk : meth.locks = false)
    {Xn tx : String} {ia ib ic : Nat} (hcl : Cond.classLink "ReplayMachine" ia Xn ∈ WS) (hins : Cond.instantiable Xn 6 ∈ WS) (hini : Cond.initialized Xn ∈ WS) (hfit : Bundle.fit Xn = true) (hat : (Bundle.ownAtoms "ReplayMachine" ic Xn NMS).all th_in = true) (hstr : (ib, tx) ∈ STRS)
    (d0 : decode cc pc = .ok (.new ia, 3)) (d3 : decode cc (pc + 3) = .ok (.dup, 1)) (d4 : decode cc (pc + 3 + 1) = .ok (.ldc ib, 2)) (d6 : decode cc (pc + 3 + 1 + 2) = .ok (.invokespecial ic, 3)) (d9 : decode cc (pc + 3 + 1 + 2 + 3) = .ok (.athrow, 1))
    (hRf : 5 < R.frames) (hRl : 90 ≤ R.locals) (hRc : 1 ≤ R.cells) (hRs : 6 ≤ R.slots) : px_Z p l e R s m args below meth cd nL (px_ZT below D cl ad n Xn c args s) pc L [] := by
  intro ls h1
  have hthr : gl_thr A s := X.2.2.2.2.2.2.2.2.2.2
  obtain ⟨q, hq⟩ := hthr.2.2.2.1 _ hstr
  refine W.newc X.1.1 X.1.2.1 X.1.2.2.2.1 (X.1.2.2.2.2 _ hcl) (X.1.2.2.2.2 _ hins) (X.1.2.2.2.2 _ hini) (g := F0 m pc ls []) rfl d0 (by omega) (by omega) (fun cC kC f1 f2 f3 f4 => ?_)
  refine W.eq (g2 := F0 m (pc + 3) ls [.ref s.heap.size]) rfl ?_
  refine lv_dup X.1.1 X.1.2.1 d3 rfl ?_
  refine va_ldcS X.1.1 X.1.2.1 X.1.2.2.2.1 hq d4 ?_
  intro T hT Y
  have hcell : T.heap[s.heap.size]? = some (freshCell cC kC) := by rw [hT]; simp
  obtain ⟨U, stp, hrun, hend, hWU, hsame, ce, hce, hown⟩ := Y.ctorThrowS (names := NMS) (cls := Xn) X.1.1 (Launch.traces_off hfl hadm) X.1.2.2.2.1 hfit (by decide) (th_all hat X.1.2.2.2.2 hthr) (fun x h => by cases h) f1 f2 hcell (Nat.le_refl _) (msg := .ref q) rfl (g := F0 m (pc + 3 + 1 + 2) ls [.ref q, .ref s.heap.size, .ref s.heap.size]) rfl (h1.1.trans X.1.2.2.1.symm) rfl rfl (rest := []) rfl (by rw [X.1.2.1]; exact d6) (by rw [X.1.2.1]; exact d9) (fun x hx => (hex x hx).elim) hRf (Nat.le_trans (Nat.le_of_ble_eq_true rfl) hRl) hk
  have hold : ∀ a : Nat, a < s.heap.size → U.heap[a]? = s.heap[a]? := fun a ha => by
    have g := State.sameButNew.old_cell hsame (a := a) (c := s.heap[a]) (by simp [ha])
    have g2 : U.heap[a]? = some s.heap[a] := g
    rw [g2]; simp [ha]
  refine ⟨U, stp, .threw s.heap.size, hrun, hend, s.heap.size, ce, rfl, hce, hown.vm, hown.cls, ?_, ⟨hsame.2.1, fun a g1 _ => hold a g1⟩, hWU, hsame⟩
  exact hP.kept (fun k w hk => hold w.1 (hP k w hk).lt)
end THR
abbrev rm_T : Room := { frames := 6, cells := 1, slots := 6, locals := 100 }
end
section
/-! a call that throws, and the handler of the caller that takes it; the handler's class may have to be linked first -/
def ct_F (e : Env) (s : State) (f : JFrame) (a : Addr) (es : List ExceptionTableEntry) (pc : Nat) (vm' : Vm) : Prop :=
  ∀ (Q : Handler → Pre) (E : CtlPost) (d : Bool) (acts : List Action), wp (findHandler.go f a es) Q E e d acts s ↔ Q (.found pc) d acts (s.setVm vm')
theorem ct_hit {e : Env} {s : State} {f : JFrame} {a : Addr} {x : ExceptionTableEntry} {t : List ExceptionTableEntry} {c : ClassId} {cell : Cell} (hx : covers x f.pc = true) (h0 : x.catchType ≠ 0)
    (hl : s.vm.ClassLinks e.platform f.method.cls x.catchType c) (hcell : s.heap[a]? = some cell) (hobj : ∀ k, cell.vm ≠ .statics k)
    (hk : ∃ k, s.vm.classes[cell.cls]? = some k) (hc : ∃ k, s.vm.classes[c]? = some k) (hfit : s.vm.assignable cell.cls c = true) :
    ct_F e s f a (x :: t) x.handlerPc (s.vm.noted f.method.cls x.catchType (.cls c)) := by
  intro Q E d acts
  simp only [covers] at hx
  obtain ⟨ha, ht⟩ := (resolveClass_links e.toSetting hl).op (op := VmOp.resolveClass f.method.cls x.catchType) rfl
  have hal : s.vm.Alike (s.vm.noted f.method.cls x.catchType (.cls c)) := (Vm.Alike.refl s.vm).noted _ _ _
  obtain ⟨k1, hk1⟩ := hk
  obtain ⟨k2, hk2⟩ := hc
  obtain ⟨k1', hk1', -⟩ := hal.2.2 _ _ hk1
  obtain ⟨k2', hk2', -⟩ := hal.2.2 _ _ hk2
  have hfit' : (s.vm.noted f.method.cls x.catchType (.cls c)).assignable cell.cls c = true := by rw [hal.assignable]; exact hfit
  simp [findHandler.go, hx, h0, ha, ht, hcell, hobj, hk1', hk2', hfit', VmOp.dirties, VmOp.acts]
theorem ct_pass {e : Env} {s : State} {f : JFrame} {a : Addr} {x : ExceptionTableEntry} {t : List ExceptionTableEntry} {c : ClassId} {cell : Cell} {pc : Nat} {vm' : Vm} (hx : covers x f.pc = true) (h0 : x.catchType ≠ 0)
    (hl : s.vm.ClassLinks e.platform f.method.cls x.catchType c) (hcell : s.heap[a]? = some cell) (hobj : ∀ k, cell.vm ≠ .statics k)
    (hk : ∃ k, s.vm.classes[cell.cls]? = some k) (hc : ∃ k, s.vm.classes[c]? = some k) (hfit : s.vm.assignable cell.cls c = false)
    (hrest : ct_F e (s.setVm (s.vm.noted f.method.cls x.catchType (.cls c))) f a t pc vm') : ct_F e s f a (x :: t) pc vm' := by
  intro Q E d acts
  simp only [covers] at hx
  obtain ⟨ha, ht⟩ := (resolveClass_links e.toSetting hl).op (op := VmOp.resolveClass f.method.cls x.catchType) rfl
  have hal : s.vm.Alike (s.vm.noted f.method.cls x.catchType (.cls c)) := (Vm.Alike.refl s.vm).noted _ _ _
  obtain ⟨k1, hk1⟩ := hk
  obtain ⟨k2, hk2⟩ := hc
  obtain ⟨k1', hk1', -⟩ := hal.2.2 _ _ hk1
  obtain ⟨k2', hk2', -⟩ := hal.2.2 _ _ hk2
  have hfit' : (s.vm.noted f.method.cls x.catchType (.cls c)).assignable cell.cls c = false := by rw [hal.assignable]; exact hfit
  have r := hrest Q E d acts
  simp [findHandler.go, hx, h0, ha, ht, hcell, hobj, hk1', hk2', hfit', VmOp.dirties, VmOp.acts]
  exact r
theorem ct_step {e : Env} {s : State} {a : Addr} {f : JFrame} {r : List Frame} {pc : Nat} {vm' : Vm} {meth : Method} {code : Code} (hm : s.vm.method? f.method = some meth) (hc : meth.code = some code) (h : ct_F e s f a code.exceptionTable.toList pc vm') :
    (stepThrowing e s a (.java f :: r)).Is ((s.setVm vm').setFrames (.java { f with pc := pc, stack := [.ref a] } :: r)) [] := by
  simp only [stepThrowing, searchFrame, vmDo]
  generalize hr : Sem.go _ e false [] s = res
  obtain ⟨as, rfl, ha⟩ := Sem.eq_ok_of hr (a := Handler.found pc) (s' := s.setVm vm') (acts' := []) (by simp [W.findHandler_eq hm hc, h _ _ _ _])
  exact ⟨rfl, ha⟩
theorem ct_frames (u : State) (vm' : Vm) (F G : List Frame) : ((u.setFrames F).setVm vm').setFrames G = (u.setVm vm').setFrames G := by
  have h1 : (u.setFrames F).setVm vm' = (u.setVm vm').setFrames F := rfl
  rw [h1, State.setFrames_setFrames]
theorem ct_caught {tb : Tables} {e : Env} {s target : State} {g : JFrame} {c : Code} {below : List Frame} {a : Addr} (h : At s g.method c below) {pc : Nat} {vm' : Vm} {meth : Method} (hm : s.vm.method? g.method = some meth) (hc : meth.code = some c)
    (hF : ct_F e ((s.setTop g).pushFrame (.throwing a)) g a c.exceptionTable.toList pc vm') (hrest : Steps tb e below ((s.setVm vm').setTop { g with pc := pc, stack := [.ref a] }) target) :
    Steps tb e below ((s.setTop g).pushFrame (.throwing a)) target := by
  obtain ⟨hgo, hw⟩ := h.throwing a
  refine Steps.head hgo hw ?_
  rw [stepThread_throwing (frames_entered h.top _), (ct_step (s := (s.setTop g).pushFrame (.throwing a)) (by rw [Stand.throwing_vm]; exact hm) hc hF).1]
  obtain ⟨g₀, hg⟩ := Option.isSome_iff_exists.mp h.top
  obtain ⟨r, hr⟩ := State.topJava?_eq_some.mp hg
  have hr' : (s.setVm vm').frames = .java g₀ :: r := hr
  rw [State.setTop_of_frames _ hr'] at hrest
  rw [hr, List.tail_cons, State.pushFrame, ct_frames, State.setTop_of_frames _ hr, ct_frames]
  exact hrest
end
section
section CALLT
variable {p : Program} {l : Launch} {e : Env} {R : Room} {s : State} {m : MethodId} {args : Array Value} {below : List Frame} {meth : Method} {cd : Code} {Q : State → Prop} {cells slots : Nat}
variable {cc : ByteArray} {Ts : List Cond} {own : String} {G : (Nat → Prop) → State → Prop} {D : va_G} {A : Nat → Prop} {ad : Nat → Nat} {n nL : Nat} {c : Nat → va_E} {pc : Nat} {L : List (Nat × Value)} {st : List Value} {cl : List vw_C} {tys : List (ClassId × FieldType)}
/-- a callee that throws: the walk stands at the call, the exception over it; at most one cell of six slots more -/
theorem px_invT {U : State} {locs : List Loc} (X : Stand p l e R s m args below meth cd U locs cells slots) {y : MethodName} {bytes : ByteArray} {maxL : Nat} {ret : Option FieldType} {ws : List Cond} {rm : Room} {Xn : String} {Pc : Array Value → State → Prop} {sz : Nat} {a : Array Value} {mk : MethodId}
    (hM : MetFree l y (headSpec ws rm) Pc (fun _ _ _ _ _ => True) (px_QT D cl ad n sz Xn c)) (hws : ∀ w ∈ ws, w.before a U = true) (hcode : (Cond.code y bytes maxL ret).before a U = true) (hinit : (Cond.initialized y.cls).before a U = true)
    (hrc : rm.cells = 1) (hrs : rm.slots = 6) (hfr : rm.frames + 1 ≤ R.frames) (hlo : 8 + (maxL + 11) + rm.locals ≤ R.locals) (hf : cells + 1 ≤ R.cells ∧ slots + 6 ≤ R.slots)
    {g : JFrame} (hg : g.method = m) (hsize : g.locals.size = cd.maxLocals) {ig : Instr} {len : Nat} (hdg : decode cd.code g.pc = .ok (ig, len)) (hW : 2 * g.monitorRoom + (g.stack.map fun v => v.category).sum ≤ 8) (hn : U.methodNamed? y = some mk) (hP : Pc a (U.calling g mk a)) :
    ∃ (x : Nat) (ce : Cell) (B : State), Stand p l e R s m args below meth cd B locs (cells + 1) (slots + 6) ∧ B.heap[x]? = some ce ∧ ce.vm = .none ∧ U.vm.findClass Xn = some ce.cls ∧ va_P D cl (px_W ad c n) B.heap ∧ U.heap.size ≤ B.heap.size ∧ (∀ q : Nat, q < U.heap.size → B.heap[q]? = U.heap[q]?) ∧ U.WarmedH B.vm ∧
      Steps p.tables e below (doInvoke e (U.setTop g) [] mk a).1 ((B.setTop g).pushFrame (.throwing x)) := by
  obtain ⟨methY, cY, hmY, hcY, -, hlY, -, -, -, -⟩ := Cond.code_spec hn hcode
  obtain ⟨kY, hkY, -⟩ := className_of_methodNamed hn
  have hinitY : kY.init = .initialized := Cond.initialized_spec (findClass_of_methodNamed hn) hkY hinit
  have h : At U g.method cd below := by rw [hg]; exact X.here
  have happ : (headSpec ws rm).appliesLoose y e.platform (U.calling g mk a) = true :=
    Spec.appliesLoose_calling (g := g) h hdg hn hkY hinitY
      (X.room_calling (g := g) (R' := (headSpec ws rm).room) hsize hmY hcY hfr (by rw [hlY]; have : (headSpec ws rm).room.locals = rm.locals := rfl; omega) (by have : (headSpec ws rm).room.cells = rm.cells := rfl; omega) (by have : (headSpec ws rm).room.slots = rm.slots := rfl; omega)) (atoms_intro hws)
  obtain ⟨mid, hmid⟩ := h.above
  have hfr' : (U.setTop g).frames = (.java g :: mid) ++ below := by rw [State.frames_setTop' g h.top, hmid]; rfl
  obtain ⟨o, s₂, hsteps, -, hend, hq⟩ := Steps.callFree hM p X.admits X.cas X.clock (acts := []) hfr' happ hP trivial
  rw [State.frames_setTop' g h.top] at hend
  obtain ⟨x, ce, rfl, hce, hcv, hcc, hPw, hF, hW₂, e2, q2, q3, q4, q5, q6⟩ := (show px_QT D cl ad n sz Xn c a (U.calling g mk a) o s₂ from hq)
  have e3 : s₂ = ({ (U.calling g mk a).setFrames s₂.frames with heap := s₂.heap, slotsUsed := s₂.slotsUsed } : State).setVm s₂.vm := by
    have : s₂ = ({ s₂ with vm := (U.calling g mk a).vm } : State).setVm s₂.vm := rfl
    rw [e2] at this
    exact this
  have hf₂ : s₂.frames = .throwing x :: .java g :: U.frames.tail := hend
  have hW' : U.WarmedH s₂.vm := hW₂
  obtain ⟨g₀, hg0⟩ := Option.isSome_iff_exists.mp h.top
  obtain ⟨r, hr⟩ := State.topJava?_eq_some.mp hg0
  have hs₂ : s₂ = ((({ U with heap := s₂.heap, slotsUsed := s₂.slotsUsed } : State).setVm s₂.vm).setTop g).pushFrame (.throwing x) := by
    have hr' : (({ U with heap := s₂.heap, slotsUsed := s₂.slotsUsed } : State).setVm s₂.vm).frames = .java g₀ :: r := hr
    refine e3.trans ?_
    rw [hf₂, State.calling_eq h.top, State.setFrames_setFrames, State.pushFrame, State.frames_setTop _ hr', State.setTop_of_frames _ hr', State.setFrames_setFrames, hr]
    rfl
  have hsame : U.sameButNew ({ U with heap := s₂.heap, slotsUsed := s₂.slotsUsed } : State) [] 1 6 := by
    refine ⟨?_, q2, q3, q4, q5, q6⟩
    obtain ⟨t, ht, -⟩ := State.frames_cons hr
    show ({ U with heap := s₂.heap, slotsUsed := s₂.slotsUsed } : State) = { U.setFrames U.frames with heap := s₂.heap, slotsUsed := s₂.slotsUsed }
    rw [State.setFrames_self ht]
  have hold : ∀ q : Nat, q < U.heap.size → s₂.heap[q]? = U.heap[q]? := fun q hq => by
    have g1 := State.sameButNew.old_cell hsame (a := q) (c := U.heap[q]) (by simp [hq])
    have g2 : s₂.heap[q]? = some U.heap[q] := g1
    rw [g2]; simp [hq]
  subst hg
  have hXs := X.same.trans (hsame.setVm s.vm)
  rw [List.append_nil] at hXs
  refine ⟨x, ce, (({ U with heap := s₂.heap, slotsUsed := s₂.slotsUsed } : State).setVm s₂.vm),
    ⟨X.admits, X.cas, X.clock, X.frames, X.room, X.hears, X.method, X.code, (X.here.setHeapUsed s₂.heap s₂.slotsUsed).setVm hW'.alike, X.tail, State.WarmedH.trans X.warmed hW', X.limits, X.bytes, hXs⟩,
    hce, hcv, hcc, hPw, q2, hold, hW', ?_⟩
  rw [← hs₂]
  exact hsteps
/-- the handler that takes an exception of the class Xn thrown at pc, whatever is linked on the way -/
def px_Hd (e : Env) (s : State) (m : MethodId) (cd : Code) (pc hpc : Nat) (Xn : String) : Prop := ∀ (B : State) (x : Nat) (ce : Cell) (g : JFrame), s.WarmedH B.vm → B.heap[x]? = some ce → ce.vm = .none → s.vm.findClass Xn = some ce.cls → g.method = m → g.pc = pc → ∃ vm', s.WarmedH vm' ∧ ct_F e ((B.setTop g).pushFrame (.throwing x)) g x cd.exceptionTable.toList hpc vm'
theorem j_callT (X : px_X p s m args cd cc nL Ts own G D cl tys A ad n) {y : MethodName} {bytes : ByteArray} {maxL na index hpc : Nat} {ret : Option FieldType} {rm : Room} {As st0 : List Value} {Xn : String} (hH : px_Hd e s m cd pc hpc Xn) (i : Nat) (hi : i < n) (hY : px_Y Ts y bytes maxL ret na) (hM : px_T l y (Cond.code y bytes maxL ret :: Ts) rm G D cl tys (.ref (ad i) :: As) ad c n Xn) (hl : Cond.methodLink own index y ∈ Ts) (hin : Cond.instanceMethod y ∈ Ts) (hse : Cond.selects y.cls y y ∈ Ts)
    {ci : Nat} {fs : List Value} {T0 : u_T} {N : Nat} (he : c i = .inr (ci, fs)) (hc : cl[ci]? = some (y.cls, T0, N)) (hn : As.length = na) (hst : st0 = As.reverse ++ .ref (ad i) :: st) (hW : (st.map fun v => v.category).sum ≤ 8) (hd : decode cc pc = .ok (.invokevirtual index, 3)) (hrc : rm.cells = 1) (hrs : rm.slots = 6) (hR : rm.frames + 1 ≤ R.frames ∧ 8 + (maxL + 11) + rm.locals ≤ R.locals) (hf : cells + 1 ≤ R.cells ∧ slots + 6 ≤ R.slots)
    (kk : ∀ q : Nat, px_J p l e R s m args below meth cd D cl A ad n nL (cells + 1) (slots + 6) Q c hpc L [.ref q]) : px_J p l e R s m args below meth cd D cl A ad n nL cells slots Q c pc L st0 := by
  intro ls H locs h1 h2 h3 T hT Y
  have hts := X.1.2.2.2.2
  have hcode := hts _ hY.2.1
  have hy : y.cls ≠ "java/lang/invoke/MethodHandle" ∧ y.cls ≠ "java/lang/invoke/VarHandle" := ⟨hY.2.2.2.1, hY.2.2.2.2.1⟩
  obtain ⟨cellB, hcB, hoB, hclB⟩ := va_recv X.2.1 h2 hc (by rw [px_at hi, he])
  obtain ⟨mk, methM, hnamed, hmethM, hstM, habM⟩ := Cond.instanceMethod_spec (hts _ hin)
  obtain ⟨methM', cM, hmethM', -, -, -, -, -, -, hsigM⟩ := Cond.code_spec hnamed hcode
  cases hmethM.symm.trans hmethM'
  obtain ⟨c2, r2, m2, q1, q2, q3, q4, kP, hkP, hkPi⟩ := Cond.selects_spec (hts _ hse)
  cases hclB.symm.trans q1
  cases (State.methodFound?_of_named hnamed hy).symm.trans q2
  cases hnamed.symm.trans q3
  have hselP : selectMethod e.platform s.vm cellB.cls mk = .method mk := by rw [Launch.admits_selectMethod Y.admits]; exact q4
  have hlen : As.length = methM.sig.parameters.length := by
    have h9 := hY.2.2.2.2.2
    rw [hsigM] at h9
    rw [hn]
    exact (Option.some.inj h9).symm
  obtain ⟨vm₁, X₁, hstep₁⟩ := Y.invokevirtual X.1.1 X.1.2.2.2.1 (hts _ hl) hnamed hmethM hstM hkP hkPi hy (a := ad i) (cell := cellB) (by rw [hT]; exact hcB)
    (fun z h => by rw [h] at hoB; cases hoB) hselP hmethM habM hkP hkPi (g := F0 m pc ls st0) rfl (argsL := As) (rest := st) hlen hst (by rw [X.1.2.1]; exact hd)
  have hWU : s.WarmedH (T.setVm vm₁).vm := X₁.warmed
  have hwd : ∀ w ∈ Ts, ∀ a' : Array Value, w.before a' (T.setVm vm₁) = true := fun w hw a' => word_at hWU (hY.1 w hw) (hts w hw)
  obtain ⟨x, ce, B, XB, hce, hcv, hcc, hPw, hz, hold, hWB, hsteps⟩ := px_invT X₁ (g := { F0 m pc ls st0 with stack := st }) (mk := mk) (a := (Value.ref (ad i) :: As).toArray) (hM H.size)
    (fun w hw => by
      rcases List.mem_cons.mp hw with rfl | h
      · exact hwd _ hY.2.1 _
      · exact hwd _ h _) (hwd _ hY.2.1 _) (hwd _ hY.2.2.1 _) hrc hrs hR.1 hR.2 hf rfl (h1.1.trans X.1.2.2.1.symm) (by rw [X.1.2.1]; exact hd) (lv_room (m := m) (pc := pc) (ls := ls) (rest := st0) hW) (X₁.named hnamed)
    (px_blind X.2.2.2.2.2.1 _ _ _ _ (px_pre X h2 h3 (T.setVm vm₁) hT hWU))
  obtain ⟨vm', hW', hF⟩ := hH B x ce { F0 m pc ls st0 with stack := st } XB.warmed hce hcv (by rw [← hWU.alike.findClass]; exact hcc) rfl rfl
  have hT2 : (T.setVm vm₁).heap = H := hT
  rw [hT2] at hz hold
  obtain ⟨t2, a1, b1⟩ := kk x ls B.heap locs h1 hPw ⟨Nat.le_trans h3.1 hz, fun q g1 g2 => by rw [hold q (Nat.lt_of_lt_of_le g1 h3.1)]; exact h3.2.1 q g1 g2, h3.2.2⟩ (B.setVm vm') rfl (XB.noted hW')
  exact ⟨t2, hstep₁ _ fun acts => by rw [doInvoke_state]; exact hsteps.trans (ct_caught XB.here XB.method' XB.code hF a1), b1⟩
/-- the first entry of the table takes it -/
theorem hd_one {own1 name : String} {x0 : ExceptionTableEntry} {rest : List ExceptionTableEntry} (hpl : e.platform.magicAccessors = ({} : Platform).magicAccessors) (hown : s.vm.findClass own1 = some m.cls) (htab : cd.exceptionTable.toList = x0 :: rest) (hx : covers x0 pc = true) (h0 : x0.catchType ≠ 0)
    (hlink : (Cond.classLink own1 x0.catchType name).before args s = true) (hcast : (Cond.castable name name).before args s = true) : px_Hd e s m cd pc x0.handlerPc name := by
  intro B x ce g hWB hce hcv hcc hg hpc
  subst hg
  obtain ⟨c', hc', hcl⟩ := Cond.classLink_spec hown hlink e.platform hpl
  obtain ⟨c3, c4, hc3, hc4, hasg⟩ := Cond.castable_spec hcast
  cases hcc.symm.trans hc'
  cases hcc.symm.trans hc3
  cases hcc.symm.trans hc4
  obtain ⟨dk, _, _, kt, hd, _, _, _, _, hkt, _, hopen⟩ := hcl.here
  have hcl₀ := hWB.classLinks hcl
  have hW' : s.WarmedH (B.vm.noted g.method.cls x0.catchType (.cls ce.cls)) := hWB.noted hd hopen (State.rightAt_cls hcl)
  obtain ⟨kt', hkt', -⟩ := hWB.alike.2.2 _ _ hkt
  refine ⟨_, hW', ?_⟩
  rw [htab]
  exact ct_hit (s := (B.setTop g).pushFrame (.throwing x)) (by rw [hpc]; exact hx) h0 hcl₀ hce (fun k h => by rw [hcv] at h; cases h) ⟨kt', hkt'⟩ ⟨kt', hkt'⟩ (by
    show B.vm.assignable ce.cls ce.cls = true
    rw [hWB.alike.assignable]
    exact hasg)
/-- the first entry is passed, the second takes it -/
theorem hd_two {own1 other name : String} {x0 x1 : ExceptionTableEntry} {rest : List ExceptionTableEntry} (hpl : e.platform.magicAccessors = ({} : Platform).magicAccessors) (hown : s.vm.findClass own1 = some m.cls) (htab : cd.exceptionTable.toList = x0 :: x1 :: rest) (hx0 : covers x0 pc = true) (h00 : x0.catchType ≠ 0) (hx1 : covers x1 pc = true) (h01 : x1.catchType ≠ 0)
    (hlink0 : (Cond.classLink own1 x0.catchType other).before args s = true) (hlink1 : (Cond.classLink own1 x1.catchType name).before args s = true) (hcast : (Cond.castable name name).before args s = true) (hno : ∃ a b, s.vm.findClass name = some a ∧ s.vm.findClass other = some b ∧ s.vm.assignable a b = false) : px_Hd e s m cd pc x1.handlerPc name := by
  intro B x ce g hWB hce hcv hcc hg hpc
  subst hg
  obtain ⟨c0, hc0, hcl0⟩ := Cond.classLink_spec hown hlink0 e.platform hpl
  obtain ⟨c', hc', hcl⟩ := Cond.classLink_spec hown hlink1 e.platform hpl
  obtain ⟨c3, c4, hc3, hc4, hasg⟩ := Cond.castable_spec hcast
  obtain ⟨u, v, hu, hv, hnas⟩ := hno
  cases hcc.symm.trans hc'
  cases hcc.symm.trans hc3
  cases hcc.symm.trans hc4
  cases hcc.symm.trans hu
  cases hc0.symm.trans hv
  obtain ⟨dk, _, _, kt, hd, _, _, _, _, hkt, _, hopen⟩ := hcl.here
  obtain ⟨dk0, _, _, kt0, hd0, _, _, _, _, hkt0, _, hopen0⟩ := hcl0.here
  have hW0 : s.WarmedH (B.vm.noted g.method.cls x0.catchType (.cls c0)) := hWB.noted hd0 hopen0 (State.rightAt_cls hcl0)
  have hW' : s.WarmedH ((B.vm.noted g.method.cls x0.catchType (.cls c0)).noted g.method.cls x1.catchType (.cls ce.cls)) := hW0.noted hd hopen (State.rightAt_cls hcl)
  obtain ⟨kt', hkt', -⟩ := hWB.alike.2.2 _ _ hkt
  obtain ⟨kt0', hkt0', -⟩ := hWB.alike.2.2 _ _ hkt0
  obtain ⟨kt2, hkt2, -⟩ := hW0.alike.2.2 _ _ hkt
  refine ⟨_, hW', ?_⟩
  rw [htab]
  refine ct_pass (s := (B.setTop g).pushFrame (.throwing x)) (by rw [hpc]; exact hx0) h00 (hWB.classLinks hcl0) hce (fun k h => by rw [hcv] at h; cases h) ⟨kt', hkt'⟩ ⟨kt0', hkt0'⟩ (by
    show B.vm.assignable ce.cls c0 = false
    rw [hWB.alike.assignable]
    exact hnas) ?_
  exact ct_hit (by rw [hpc]; exact hx1) h01 (hW0.classLinks hcl) hce (fun k h => by rw [hcv] at h; cases h) ⟨kt2, hkt2⟩ ⟨kt2, hkt2⟩ (by
    show (B.vm.noted g.method.cls x0.catchType (.cls c0)).assignable ce.cls ce.cls = true
    rw [hW0.alike.assignable]
    exact hasg)
end CALLT
end
