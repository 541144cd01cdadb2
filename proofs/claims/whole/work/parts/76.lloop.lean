/-! THE CLAIM OUT OF ONE WALK OF THE LAW'S BODY. Your part is whole_start (and what it stands on); all else here is the same for every law, but numbers. -/
def R_law : String := "ReplayMachineLaw"
def lw_P (b : Addr) (xs : List Int32) (args : Array Value) (s : State) : Prop := args = #[.ref b] ∧ s.IntsAt b xs ∧ xs.length ≤ 1537 ∧ (Jvm.Cond.and given_1 narrow_1).before args s = true
def lw_Q (_ : Array Value) (s : State) (o : Outcome) (t : State) : Prop := o = .returned (some (.int 1)) ∧ Framed s o t [] 601024 7293000
def lw_Z (below : List Frame) (a : Array Value) (s : State) : State → Prop := fun t => ∃ o, t.status = .running ∧ Ended t below o ∧ lw_Q a s o t
/-- the law's own end, with 1 on the stack, nothing written that was there before, its room as the claim has it -/
theorem lw_ret {p : Program} {l : Launch} {e : Env} {s : State} {m : MethodId} {below : List Frame} {meth : Method} {c : Code} {b : Nat} (hx : p.tables.exec = Jvm.exec) (hb : c.code = code) (hr : meth.sig.returnType = ret) (hlocks : meth.locks = false) {pc : Nat} {H : Heap} {ls : Array Slot} (hdg : decode code pc = .ok (.ireturn, 1)) : W p l e room_1 s m #[Value.ref b] below meth c H [] 601024 7293000 (lw_Z below #[Value.ref b] s) (F0 m pc ls [.int 1]) := by
  intro T hT X
  obtain ⟨fs, hret, hrun, hended, hW, hframe⟩ := X.leave (v := some (.int 1)) (hlocks := hlocks) (fun h => by rw [hr] at h; cases h)
  have hmeth' : T.vm.method? m = some meth := X.method'
  refine ⟨T.setFrames fs, ?_, .returned (some (.int 1)), hrun, hended, rfl, ⟨_, rfl⟩, hW, hframe⟩
  jvm_step X.here [X.here.top, hx, hb, hdg, hmeth', hr, ret, narrow_b1]
  (try refine ⟨rfl, ?_⟩); (try refine ⟨rfl, ?_⟩)
  first | (intro acts; rw [hret _ acts rfl rfl rfl]) | rw [hret _ _ rfl rfl rfl]
  exact Steps.refl _
/-- what holds at the law's entry: the machine, the code, the tables' words (any of lw_tbl by 'hts w (by decide +kernel)'), the script of L ints xs at the cell b, what the Statement gives of the start (any of its parts by flat_of_before) -/
def lw_At (p : Program) (s : State) (m : MethodId) (meth : Method) (c : Code) (b L : Nat) (xs : Nat → Int32) : Prop :=
  p.tables.exec = Jvm.exec ∧ c.code = code ∧ meth.sig.returnType = ret ∧ c.maxLocals = 7 ∧ s.vm.findClass R_law = some m.cls ∧ (∀ w ∈ lw_tbl, w.before #[Value.ref b] s = true) ∧ va_X b L xs s s.heap ∧ b < s.heap.size ∧ meth.locks = false ∧ (Jvm.Cond.and given_1 narrow_1).before #[Value.ref b] s = true
section LAWL
variable {p : Program} {l : Launch} {e : Env} {s : State} {m : MethodId} {below : List Frame} {meth : Method} {cd : Code} {D : va_G} {aC : Nat → ClassId} {ad : Nat → Nat} {b N : Nat} {xs : Nat → Int32} {Rl : xS → xS → Prop} {S T : xS} {c0 : Nat → va_E} {f : Nat → Int64} {cells slots : Nat} {i : Int32} {Q : State → Prop}
theorem law_end (X : lwX p s m b cd D aC ad) (hr : meth.sig.returnType = ret) (hlocks : meth.locks = false) {c : Nat → va_E} {L : List (Nat × Value)} (hc : cells ≤ 601024) (hs : slots ≤ 7293000) : lwJ p l e s m b below meth cd D aC ad (lw_Z below #[Value.ref b] s) cells slots c 805 L [] := by
  refine j_iconst X (v := 1) d_law_805 (by decide) ?_
  intro ls H locs h1 h2 h3
  exact va_forget h3.2.2 (W.widen hc hs (lw_ret X.1.1 X.1.2.1 hr hlocks d_law_806))
theorem i32_nat {j : Nat} (h : j < 4000) : (Int32.ofNat j).toInt = (j : Int) := Int32.toInt_ofNat_of_lt (by omega)
theorem i32_add3 (j : Nat) : Int32.ofNat j + 3 = Int32.ofNat (j + 3) := by rw [Int32.ofNat_add]; rfl
theorem i32_in {j : Nat} (h : j < N) (hN : N ≤ 1537) : vp_in (Int32.ofNat j) N := by
  have h1 := i32_nat (j := j) (by omega)
  rintro (h2 | h2)
  · have := Int32.lt_iff_toInt_lt.mp h2
    rw [h1] at this
    simp at this
    omega
  · have : (Int32.ofNat j).toNatClampNeg = (Int32.ofNat j).toInt.toNat := rfl
    rw [this, h1] at h2
    omega
theorem i32_cmp {j : Nat} (hj : j ≤ N + 1) (hN : N ≤ 1537) : (Int32.ofNat N - 3 < Int32.ofNat j) ↔ N < j + 3 := by
  rw [Int32.lt_iff_toInt_lt, Int32.toInt_sub, i32_nat (j := j) (by omega), i32_nat (j := N) (by omega)]
  have h3 : (3 : Int32).toInt = 3 := rfl
  rw [h3, Int.bmod_eq_of_le (by omega) (by omega)]
  omega
theorem sw_out {x : Int32} (h : x ≠ 0 ∧ x ≠ 1 ∧ x ≠ 2 ∧ x ≠ 3 ∧ x ≠ 4 ∧ x ≠ 5 ∧ x ≠ 6 ∧ x ≠ 7 ∧ x ≠ 8 ∧ x ≠ 9 ∧ x ≠ 10 ∧ x ≠ 11 ∧ x ≠ 12 ∧ x ≠ 13) : x.toInt < 0 ∨ 13 < x.toInt := by
  have key : ∀ k : Int32, x ≠ k → x.toInt ≠ k.toInt := fun k h1 h2 => h1 (Int32.toInt_inj.mp h2)
  obtain ⟨a0, a1, a2, a3, a4, a5, a6, a7, a8, a9, a10, a11, a12, a13⟩ := h
  have b0 : x.toInt ≠ 0 := key _ a0
  have b1 : x.toInt ≠ 1 := key _ a1
  have b2 : x.toInt ≠ 2 := key _ a2
  have b3 : x.toInt ≠ 3 := key _ a3
  have b4 : x.toInt ≠ 4 := key _ a4
  have b5 : x.toInt ≠ 5 := key _ a5
  have b6 : x.toInt ≠ 6 := key _ a6
  have b7 : x.toInt ≠ 7 := key _ a7
  have b8 : x.toInt ≠ 8 := key _ a8
  have b9 : x.toInt ≠ 9 := key _ a9
  have b10 : x.toInt ≠ 10 := key _ a10
  have b11 : x.toInt ≠ 11 := key _ a11
  have b12 : x.toInt ≠ 12 := key _ a12
  have b13 : x.toInt ≠ 13 := key _ a13
  omega
set_option maxHeartbeats 4000000 in
theorem law_loop (hfl : l.flags = pinnedFlags ++ [noTraceFlag]) (hS : va_X b N xs s s.heap) (hbl : b < s.heap.size) (X : lwX p s m b cd D aC ad) (hr : meth.sig.returnType = ret) (hlocks : meth.locks = false) (hN : N ≤ 1537) (hLK : LK Rl) : ∀ (k j : Nat) (S T : xS) (c0 : Nat → va_E) (f : Nat → Int64) (cells slots : Nat), N ≤ j + 3 * k → j ≤ N + 1 → cells + k ≤ 601024 → slots + 6 * k ≤ 7293000 → Rl S T → c0 135 = .inl (aC 4, 1, .inr (.inl f)) →
    lwJ p l e s m b below meth cd D aC ad (lw_Z below #[Value.ref b] s) cells slots (lwW aC ad S T c0) 33 (lwL ad b (Int32.ofNat j)) [] := by
  have hbA : ¬ (fun q => s.heap.size ≤ q) b := fun h => Nat.not_le_of_lt hbl h
  intro k
  induction k with
  | zero =>
    intro j S T c0 f cells slots h1 h2 h3 h4 h5 h6
    refine j_iload X d_law_33 0 rfl ?_
    refine j_aload_n X d_law_35 4 rfl ?_
    refine j_slen X hS hbl hbA d_law_36 ?_
    refine j_iconst X (v := 3) d_law_37 (by decide) ?_
    refine j_isub X d_law_38 ?_
    refine j_icmp_gt X (tgt := 805) d_law_39 (by decide) (fun _ => ?_) (fun h => absurd ((i32_cmp h2 hN).mpr (by omega)) h)
    exact law_end X hr hlocks (by omega) (by omega)
  | succ k ih =>
    intro j S T c0 f cells slots h1 h2 h3 h4 h5 h6
    refine j_iload X d_law_33 0 rfl ?_
    refine j_aload_n X d_law_35 4 rfl ?_
    refine j_slen X hS hbl hbA d_law_36 ?_
    refine j_iconst X (v := 3) d_law_37 (by decide) ?_
    refine j_isub X d_law_38 ?_
    refine j_icmp_gt X (tgt := 805) d_law_39 (by decide) (fun _ => law_end X hr hlocks (by omega) (by omega)) (fun h => ?_)
    have hj : j + 3 ≤ N := Nat.le_of_not_lt (fun z => h ((i32_cmp h2 hN).mpr z))
    refine j_aload_n X d_law_42 4 rfl ?_
    refine j_iload X d_law_43 0 rfl ?_
    refine j_sld X hS hbl hbA (i32_in (by omega) hN) d_law_45 ?_
    refine j_bipush X (v := 15) d_law_46 (by decide) ?_
    refine j_iand X d_law_48 ?_
    have e1 : vp_in (Int32.ofNat j + 1) N := by
      have := i32_in (j := j + 1) (N := N) (by omega) hN
      rw [Int32.ofNat_add] at this
      exact this
    have e2 : vp_in (Int32.ofNat j + 2) N := by
      have := i32_in (j := j + 2) (N := N) (by omega) hN
      rw [Int32.ofNat_add] at this
      exact this
    have hRc : cells + 1 ≤ room_1.cells ∧ slots + 6 ≤ room_1.slots := ⟨by show cells + 1 ≤ 601024; omega, by show slots + 6 ≤ 7293000; omega⟩
    have kk : lwK p l e s m b below meth cd D aC ad Rl (lw_Z below #[Value.ref b] s) (Int32.ofNat j) cells slots := by
      intro S' T' c0' f' cells' slots' g1 g2 g3 g4
      refine j_iinc X d_law_799 0 (lwL ad b (Int32.ofNat (j + 3))) rfl (i32_add3 j) (by decide) rfl ?_
      refine j_goto X (tgt := 33) d_law_802 (by decide) ?_
      exact ih (j + 3) S' T' c0' f' cells' slots' (by omega) (by omega) (by omega) (by omega) g1 g2
    generalize (xs (Int32.ofNat j).toNatClampNeg &&& 15) = x
    by_cases g0 : x = 0
    · subst g0
      exact j_tableIn X (tgt := 120) d_law_49 (by decide) (by decide) rfl (by decide) (law_poke hfl hS hbl X e1 e2 h6 hLK.2.1 h5 hRc kk)
    by_cases g1 : x = 1
    · subst g1
      exact j_tableIn X (tgt := 168) d_law_49 (by decide) (by decide) rfl (by decide) (law_input hS hbl X e1 h6 hLK.2.2.1 h5 hRc kk)
    by_cases g2 : x = 2
    · subst g2
      exact j_tableIn X (tgt := 193) d_law_49 (by decide) (by decide) rfl (by decide) (law_step hS hbl X e1 h6 hLK.2.2.2.1 h5 hRc kk)
    by_cases g3 : x = 3
    · subst g3
      exact j_tableIn X (tgt := 206) d_law_49 (by decide) (by decide) rfl (by decide) (law_forth hfl hS hbl X e1 h6 hLK.2.2.2.2.1 h5 hRc kk)
    by_cases g4 : x = 4
    · subst g4
      exact j_tableIn X (tgt := 262) d_law_49 (by decide) (by decide) rfl (by decide) (law_back hfl hS hbl X e1 h6 hLK.2.2.2.2.2.1 h5 hRc kk)
    by_cases g5 : x = 5
    · subst g5
      exact j_tableIn X (tgt := 318) d_law_49 (by decide) (by decide) rfl (by decide) (law_go hfl hS hbl X e1 h6 hLK.2.2.2.2.2.2.1 h5 hRc kk)
    by_cases g6 : x = 6
    · subst g6
      exact j_tableIn X (tgt := 354) d_law_49 (by decide) (by decide) rfl (by decide) (law_setBreak hfl hS hbl X e1 h6 hLK.2.2.2.2.2.2.2.1 h5 hRc kk)
    by_cases g7 : x = 7
    · subst g7
      exact j_tableIn X (tgt := 417) d_law_49 (by decide) (by decide) rfl (by decide) (law_clearBreak hfl hS hbl X e1 h6 hLK.2.2.2.2.2.2.2.2.1 h5 hRc kk)
    by_cases g8 : x = 8
    · subst g8
      exact j_tableIn X (tgt := 480) d_law_49 (by decide) (by decide) rfl (by decide) (law_setWatch hfl hS hbl X e1 h6 hLK.2.2.2.2.2.2.2.2.2.1 h5 hRc kk)
    by_cases g9 : x = 9
    · subst g9
      exact j_tableIn X (tgt := 543) d_law_49 (by decide) (by decide) rfl (by decide) (law_clearWatch hfl hS hbl X e1 h6 hLK.2.2.2.2.2.2.2.2.2.2.1 h5 hRc kk)
    by_cases g10 : x = 10
    · subst g10
      exact j_tableIn X (tgt := 606) d_law_49 (by decide) (by decide) rfl (by decide) (law_state hfl hS hbl X e1 h6 hLK.2.2.2.2.2.2.2.2.2.2.2.1 h5 hRc kk)
    by_cases g11 : x = 11
    · subst g11
      exact j_tableIn X (tgt := 662) d_law_49 (by decide) (by decide) rfl (by decide) (law_cell hS hbl X e1 h6 hLK.2.2.2.2.2.2.2.2.2.2.2.2.1 h5 hRc kk)
    by_cases g12 : x = 12
    · subst g12
      exact j_tableIn X (tgt := 687) d_law_49 (by decide) (by decide) rfl (by decide) (law_stack hfl hS hbl X e1 h6 hLK.2.2.2.2.2.2.2.2.2.2.2.2.2.1 h5 hRc kk)
    by_cases g13 : x = 13
    · subst g13
      exact j_tableIn X (tgt := 743) d_law_49 (by decide) (by decide) rfl (by decide) (law_checkpoint hfl hS hbl X e1 h6 hLK.2.2.2.2.2.2.2.2.2.2.2.2.2.2 h5 hRc kk)
    refine j_tableOut X (tgt := 799) d_law_49 (sw_out ⟨g0, g1, g2, g3, g4, g5, g6, g7, g8, g9, g10, g11, g12, g13⟩) (by decide) ?_
    exact kk S T c0 f cells slots h5 h6 (by omega) (by omega)
end LAWL
