/-! what stands at the law's entry -/
section LST
variable {s : State} {b : Nat}
abbrev lwF : List Cond := flatC (Jvm.Cond.and given_1 narrow_1)
theorem lt_at {w : Cond} (i : Nat) (hts : ∀ w ∈ lw_tbl, w.before #[Value.ref b] s = true) (h : lw_tbl[i]? = some w) : w.before #[Value.ref b] s = true := hts w (List.mem_of_getElem? h)
theorem st_K (hts : ∀ w ∈ lw_tbl, w.before #[Value.ref b] s = true) : ∃ (D : va_G) (aC : Nat → ClassId), va_K D CLS (TYS aC) s := by
  have hw := WS_hts hts
  obtain ⟨c0, i0, k0⟩ := u_known hw in_Cp (hw _ mw_158)
  obtain ⟨c1, i1, k1⟩ := u_known hw in_Ma (hw _ mw_26)
  obtain ⟨c2, i2, k2⟩ := u_known hw in_Nt (hw _ mw_101)
  obtain ⟨c3, i3, k3⟩ := u_known hw in_St (hw _ mw_32)
  obtain ⟨c4, i4, k4⟩ := u_known hw in_Un (hw _ mw_94)
  obtain ⟨c5, i5, k5⟩ := u_known hw in_RM (hw _ mw_18)
  obtain ⟨c6, i6, k6⟩ := u_known hw in_Mo (hw _ mw_561)
  obtain ⟨a0, n0, p0, f0, g0, h0⟩ := Cond.arrayClass_spec (hw _ mw_92)
  obtain ⟨a1, n1, p1, f1, g1, h1⟩ := Cond.arrayClass_spec (hw _ mw_198)
  obtain ⟨a4, n4, p4, f4, g4, h4⟩ := Cond.arrayClass_spec (hw _ mw_782)
  obtain ⟨p2, a2, n2, e2, -, g2, h2, f2⟩ := Cond.arrayOver_spec (lt_at 138 hts (w := .arrayOver (.object "ReplayMachine$Note")) (by decide +kernel))
  obtain ⟨p3, a3, n3, e3, -, g3, h3, f3⟩ := Cond.arrayOver_spec (lt_at 202 hts (w := .arrayOver (.object "ReplayMachine$State")) (by decide +kernel))
  refine ⟨(fun c => match c with | 0 => c0 | 1 => c1 | 2 => c2 | 3 => c3 | 4 => c4 | 5 => c5 | _ => c6, fun c => match c with | 0 => i0 | 1 => i1 | 2 => i2 | 3 => i3 | 4 => i4 | 5 => i5 | _ => i6), (fun t => match t with | 0 => a0 | 1 => a1 | 2 => a2 | 3 => a3 | _ => a4), fun c q hq => ?_, fun k q hq => ?_⟩
  · match c, hq with
    | 0, hq => cases hq; exact k0
    | 1, hq => cases hq; exact k1
    | 2, hq => cases hq; exact k2
    | 3, hq => cases hq; exact k3
    | 4, hq => cases hq; exact k4
    | 5, hq => cases hq; exact k5
    | 6, hq => cases hq; exact k6
    | _ + 7, hq => cases hq
  · match k, hq with
    | 0, hq => cases hq; exact ⟨fun n z => ⟨(fun k h => by cases h), n0, g0, p0, h0⟩, f0⟩
    | 1, hq => cases hq; exact ⟨fun n z => ⟨(fun k h => by cases h), n1, g1, p1, h1⟩, f1⟩
    | 2, hq => cases hq; exact ⟨fun n z => ⟨(fun k h => by cases h), n2, g2, p2, h2⟩, n2, p2, g2, h2, e2, f2⟩
    | 3, hq => cases hq; exact ⟨fun n z => ⟨(fun k h => by cases h), n3, g3, p3, h3⟩, n3, p3, g3, h3, e3, f3⟩
    | 4, hq => cases hq; exact ⟨fun n z => ⟨(fun k h => by cases h), n4, g4, p4, h4⟩, f4⟩
    | _ + 5, hq => cases hq
theorem st_stat {nm : String} {g : Nat → Int32} (hfl : ∀ w ∈ lwF, w.before #[Value.ref b] s = true) (hl : (Cond.laysStatic "ReplayMachine$Machine" nm "[I").before #[Value.ref b] s = true) (hi : (Cond.initialized "ReplayMachine$Machine").before #[Value.ref b] s = true) (h1 : Cond.arrayOf (.static "ReplayMachine$Machine" nm "[I") .int ∈ lwF) (h2 : Cond.eq (.length (.static "ReplayMachine$Machine" nm "[I")) (.int 21) ∈ lwF)
    (h3 : ∀ j, j < 21 → Cond.eq (.elem (.static "ReplayMachine$Machine" nm "[I") (.int (Int32.ofNat j))) (.int (g j)) ∈ lwF) : gl_stat nm g (fun q => s.heap.size ≤ q) s s.heap := by
  have hA : ∀ a : Nat, a < s.heap.size → ¬ (fun q => s.heap.size ≤ q) a := fun a h1 h2 => Nat.not_le_of_lt h1 h2
  obtain ⟨t, ht, hT⟩ := va_Tof (args := #[Value.ref b]) (tm := .static "ReplayMachine$Machine" nm "[I") (ty := .int) (N := 21) (f := fun j => .int (g j)) (A := fun q => s.heap.size ≤ q) (by decide) (hfl _ h1) (va_eqt (hfl _ h2)) (fun j hj => va_eqt (hfl _ (h3 j hj))) hA
  exact ⟨t, va_Zof hl hi ht hA, hT⟩
theorem sx_ls {O f d : String} (hl : (Cond.laysStatic O f d).before #[Value.ref b] s = true) (hr : (Cond.isRef (.static O f d)).before #[Value.ref b] s = true) : gl_ls O f d (fun q => s.heap.size ≤ q) s := by
  refine ⟨hl, hr, fun c k i fd a g1 g2 => ?_⟩
  obtain ⟨c0, k0, i0, f0, a0, cell, hc, hf, hst, hsta, hcell, hiss, hcls, hlt, hty⟩ := Cond.laysStatic_spec hl
  cases hf.symm.trans g1
  cases hsta.symm.trans g2
  have : a < s.heap.size := (Array.getElem?_eq_some_iff.mp hcell).1
  exact ⟨this, fun z => Nat.not_le_of_lt this z⟩
theorem st_str {k : Nat} {tx : String} (h1 : (Cond.stringRef "ReplayMachine" k tx).before #[Value.ref b] s = true) (h2 : (Cond.exactly (.string "ReplayMachine" k) "java/lang/String").before #[Value.ref b] s = true) : ∃ a, vk_R "ReplayMachine" k tx a s := by
  obtain ⟨a, c, cell, k9, he, -⟩ := Cond.exactly_spec h2
  exact ⟨a, h1, he⟩
theorem st_F1 : Cond.not (.castable "java/lang/IllegalStateException" "java/lang/IndexOutOfBoundsException") ∈ lwF := by decide +kernel
theorem st_F2 : ∀ q ∈ STRS, Cond.exactly (.string "ReplayMachine" q.1) "java/lang/String" ∈ lwF := by decide +kernel
theorem st_F3 : ∀ j, j < 21 → Cond.eq (.elem (.static "ReplayMachine$Machine" "NEEDS" "[I") (.int (Int32.ofNat j))) (.int (tNeeds j)) ∈ lwF := by decide +kernel
theorem st_F4 : ∀ j, j < 21 → Cond.eq (.elem (.static "ReplayMachine$Machine" "GROWS" "[I") (.int (Int32.ofNat j))) (.int (tGrows j)) ∈ lwF := by decide +kernel
theorem st_T1 : ∀ q ∈ STRS, Cond.stringRef "ReplayMachine" q.1 q.2 ∈ lw_tbl := by decide +kernel
theorem st_T2 : ∀ w ∈ DW, w ∈ lw_tbl := by decide +kernel
theorem st_G (hts : ∀ w ∈ lw_tbl, w.before #[Value.ref b] s = true) (hgv : (Jvm.Cond.and given_1 narrow_1).before #[Value.ref b] s = true) : GC (fun q => s.heap.size ≤ q) s := by
  have hfl : ∀ w ∈ lwF, w.before #[Value.ref b] s = true := flat_of_before _ hgv
  have hw := WS_hts hts
  refine ⟨⟨va_Nw.of rfl (lt_at 257 hts (by decide +kernel)), va_Nw.of rfl (lt_at 278 hts (by decide +kernel)), ?_, ?_, ?_⟩, va_Nw.of rfl (lt_at 74 hts (by decide +kernel)), va_Nw.of rfl (lt_at 143 hts (by decide +kernel)), va_AO.of (lt_at 138 hts (by decide +kernel)), va_AO.of (lt_at 202 hts (by decide +kernel))⟩
  · exact st_stat hfl (lt_at 269 hts (by decide +kernel)) (hw _ mw_2) (by decide +kernel) (by decide +kernel) st_F3
  · exact st_stat hfl (lt_at 280 hts (by decide +kernel)) (hw _ mw_2) (by decide +kernel) (by decide +kernel) st_F4
  · refine ⟨fun w hw2 => ?_, sx_ls (lt_at 420 hts (by decide +kernel)) (hfl _ (by decide +kernel)), sx_ls (lt_at 422 hts (by decide +kernel)) (hfl _ (by decide +kernel)), fun q hq => st_str (hts _ (st_T1 q hq)) (hfl _ (st_F2 q hq)), ?_⟩
    · have hk : w.onTables = true := by
        revert hw2 w
        unfold DW
        decide +kernel
      exact va_tabs hk rfl (hts w (st_T2 w hw2))
    · obtain ⟨c, -, hc, -, -⟩ := Cond.castable_spec (hts _ (st_T2 (.castable "java/lang/IllegalStateException" "java/lang/IllegalStateException") (by simp [DW])))
      obtain ⟨t, -, ht, -, -⟩ := Cond.castable_spec (hts _ (st_T2 (.castable "java/lang/IndexOutOfBoundsException" "java/lang/IndexOutOfBoundsException") (by simp [DW])))
      refine ⟨c, t, hc, ht, ?_⟩
      have h := hfl _ st_F1
      simpa [Cond.before, Cond.holds, Cond.value, hc, ht] using h
end LST
