section LAWC
variable {p : Program} {l : Launch} {e : Env} {s : State} {m : MethodId} {below : List Frame} {meth : Method} {cd : Code} {D : va_G} {aC : Nat → ClassId} {ad : Nat → Nat} {b N : Nat} {xs : Nat → Int32} {Rl : xS → xS → Prop} {S T : xS} {c0 : Nat → va_E} {f : Nat → Int64} {cells slots : Nat} {i : Int32} {Q : State → Prop}
abbrev lwX (p : Program) (s : State) (m : MethodId) (b : Nat) (cd : Code) (D : va_G) (aC : Nat → ClassId) (ad : Nat → Nat) : Prop := px_X p s m #[Value.ref b] cd code 7 WS "ReplayMachineLaw" GG D CLS (TYS aC) (fun q => s.heap.size ≤ q) ad 136
abbrev lwL (ad : Nat → Nat) (b : Nat) (i : Int32) : List (Nat × Value) := [(4, .int i), (3, .ref (ad 135)), (2, .ref (ad 124)), (1, .ref (ad 0)), (0, .ref b)]
abbrev lwJ (p : Program) (l : Launch) (e : Env) (s : State) (m : MethodId) (b : Nat) (below : List Frame) (meth : Method) (cd : Code) (D : va_G) (aC : Nat → ClassId) (ad : Nat → Nat) (Q : State → Prop) (cells slots : Nat) (c : Nat → va_E) (pc : Nat) (L : List (Nat × Value)) (st : List Value) : Prop := px_J p l e room_1 s m #[Value.ref b] below meth cd D CLS (fun q => s.heap.size ≤ q) ad 136 7 cells slots Q c pc L st
/-- going on behind a case -/
def lwK (p : Program) (l : Launch) (e : Env) (s : State) (m : MethodId) (b : Nat) (below : List Frame) (meth : Method) (cd : Code) (D : va_G) (aC : Nat → ClassId) (ad : Nat → Nat) (Rl : xS → xS → Prop) (Q : State → Prop) (i : Int32) (cells slots : Nat) : Prop :=
  ∀ (S T : xS) (c0 : Nat → va_E) (f : Nat → Int64) (cells' slots' : Nat), Rl S T → c0 135 = .inl (aC 4, 1, .inr (.inl f)) → cells' ≤ cells + 1 → slots' ≤ slots + 6 → lwJ p l e s m b below meth cd D aC ad Q cells' slots' (lwW aC ad S T c0) 799 (lwL ad b i) []
set_option maxHeartbeats 4000000 in
set_option maxRecDepth 100000 in
theorem law_poke (hfl : l.flags = pinnedFlags ++ [noTraceFlag]) (hS : va_X b N xs s s.heap) (hbl : b < s.heap.size) (X : lwX p s m b cd D aC ad) (h1 : vp_in (i + 1) N) (h2 : vp_in (i + 2) N) (ho : c0 135 = .inl (aC 4, 1, .inr (.inl f))) (hK : lk_poke Rl) (hRl : Rl S T) (hRc : cells + 1 ≤ room_1.cells ∧ slots + 6 ≤ room_1.slots) (kk : lwK p l e s m b below meth cd D aC ad Rl Q i cells slots) : lwJ p l e s m b below meth cd D aC ad Q cells slots (lwW aC ad S T c0) 120 (lwL ad b i) [] := by
  have hR : cells ≤ room_1.cells ∧ slots ≤ room_1.slots := ⟨Nat.le_of_succ_le hRc.1, Nat.le_trans (Nat.le_add_right _ _) hRc.2⟩
  obtain ⟨hpM, ⟨ht, hpR, hR2⟩ | ⟨ht, hpR, hR2⟩ | ⟨ht, hpR, hR2⟩⟩ := hK S T (xs (i + 1).toNatClampNeg) (xs (i + 2).toNatClampNeg) hRl
  · refine j_aload_n X d_law_120 3 rfl ?_
    refine j_aload_n X d_law_121 4 rfl ?_
    refine j_iload X d_law_122 0 rfl ?_
    refine j_iconst X (v := 1) d_law_124 (by decide) ?_
    refine j_iadd X d_law_125 ?_
    refine j_sld X hS hbl (fun h => Nat.not_le_of_lt hbl h) h1 d_law_126 ?_
    refine j_aload_n X d_law_127 4 rfl ?_
    refine j_iload X d_law_128 0 rfl ?_
    refine j_iconst X (v := 2) d_law_130 (by decide) ?_
    refine j_iadd X d_law_131 ?_
    refine j_sld X hS hbl (fun h => Nat.not_le_of_lt hbl h) h2 d_law_132 ?_
    refine j_w lwW_x (j_callH (st := []) X hW_La_poke (k_poke l D aC ad 136 (by decide) (ye aC ad T c0) S (xs (i + 1).toNatClampNeg) (xs (i + 2).toNatClampNeg) hpR) mw_346 mw_347 rfl rfl (Nat.le_of_ble_eq_true rfl) d_law_133 rfl rfl ⟨by decide, by decide⟩ hRc (j_w xy_comm (j_st (st' := [.int 0]) rfl ?_)))
    replace hR : cells + 1 ≤ room_1.cells ∧ slots + 6 ≤ room_1.slots := hRc
    refine j_istore X d_law_136 ((5, .int 0) :: lwL ad b i) (by decide) rfl ?_
    refine j_aload_n X d_law_138 3 rfl ?_
    refine j_aload_n X d_law_139 5 rfl ?_
    refine j_iload X d_law_140 1 rfl ?_
    refine j_iconst X (v := 1) d_law_142 (by decide) ?_
    refine j_iadd X d_law_143 ?_
    refine j_sld X hS hbl (fun h => Nat.not_le_of_lt hbl h) h1 d_law_144 ?_
    refine j_aload_n X d_law_145 5 rfl ?_
    refine j_iload X d_law_146 1 rfl ?_
    refine j_iconst X (v := 2) d_law_148 (by decide) ?_
    refine j_iadd X d_law_149 ?_
    refine j_sld X hS hbl (fun h => Nat.not_le_of_lt hbl h) h2 d_law_150 ?_
    refine j_callV (st := []) X 124 (by decide) hY_Mo_poke (c_Mo_poke l D aC ad 136 (by decide) (xe aC ad (f_RM_poke S (xs (i + 1).toNatClampNeg) (xs (i + 2).toNatClampNeg)).2 c0) T (xs (i + 1).toNatClampNeg) (xs (i + 2).toNatClampNeg) hpM) mw_644 hI_Mo_poke hS_Mo_poke y_Mo rfl rfl rfl (Nat.le_of_ble_eq_true rfl) d_law_151 rfl rfl ⟨by decide, by decide⟩ hR (j_st (st' := []) rfl ?_)
    refine j_aload_n X d_law_154 3 rfl ?_
    refine j_callV (st := []) X 124 (by decide) hY_Mo_thrown (c_Mo_thrown l D aC ad 136 (by decide) (xe aC ad (f_RM_poke S (xs (i + 1).toNatClampNeg) (xs (i + 2).toNatClampNeg)).2 c0) (f_Mo_poke T (xs (i + 1).toNatClampNeg) (xs (i + 2).toNatClampNeg)).2  ) mw_640 hI_Mo_thrown hS_Mo_thrown y_Mo rfl rfl rfl (Nat.le_of_ble_eq_true rfl) d_law_155 rfl rfl ⟨by decide, by decide⟩ hR (j_st (st' := [.int (gI (f_Mo_poke T (xs (i + 1).toNatClampNeg) (xs (i + 2).toNatClampNeg)).2 124 10)]) rfl ?_)
    refine j_iload X d_law_158 0 rfl ?_
    refine j_icmp_eq X (tgt := 165) d_law_160 (by decide) (fun _ => ?_) (fun h => absurd ht h)
    refine j_goto X (tgt := 799) d_law_165 (by decide) (j_sub [1, 2, 3, 4, 5] rfl ?_)
    exact kk _ _ _ f _ _ hR2 ho (Nat.le_refl _) (Nat.le_refl _)
  · refine j_aload_n X d_law_120 3 rfl ?_
    refine j_aload_n X d_law_121 4 rfl ?_
    refine j_iload X d_law_122 0 rfl ?_
    refine j_iconst X (v := 1) d_law_124 (by decide) ?_
    refine j_iadd X d_law_125 ?_
    refine j_sld X hS hbl (fun h => Nat.not_le_of_lt hbl h) h1 d_law_126 ?_
    refine j_aload_n X d_law_127 4 rfl ?_
    refine j_iload X d_law_128 0 rfl ?_
    refine j_iconst X (v := 2) d_law_130 (by decide) ?_
    refine j_iadd X d_law_131 ?_
    refine j_sld X hS hbl (fun h => Nat.not_le_of_lt hbl h) h2 d_law_132 ?_
    refine j_w lwW_x (j_callH (st := []) X hW_La_poke (k_poke_IOOBE l hfl D aC ad 136 (by decide) (ye aC ad T c0) S (xs (i + 1).toNatClampNeg) (xs (i + 2).toNatClampNeg) hpR) mw_346 mw_347 rfl rfl (Nat.le_of_ble_eq_true rfl) d_law_133 rfl rfl ⟨by decide, by decide⟩ hRc (j_w xy_comm (j_st (st' := [.int 1]) rfl ?_)))
    replace hR : cells + 1 ≤ room_1.cells ∧ slots + 6 ≤ room_1.slots := hRc
    refine j_istore X d_law_136 ((5, .int 1) :: lwL ad b i) (by decide) rfl ?_
    refine j_aload_n X d_law_138 3 rfl ?_
    refine j_aload_n X d_law_139 5 rfl ?_
    refine j_iload X d_law_140 1 rfl ?_
    refine j_iconst X (v := 1) d_law_142 (by decide) ?_
    refine j_iadd X d_law_143 ?_
    refine j_sld X hS hbl (fun h => Nat.not_le_of_lt hbl h) h1 d_law_144 ?_
    refine j_aload_n X d_law_145 5 rfl ?_
    refine j_iload X d_law_146 1 rfl ?_
    refine j_iconst X (v := 2) d_law_148 (by decide) ?_
    refine j_iadd X d_law_149 ?_
    refine j_sld X hS hbl (fun h => Nat.not_le_of_lt hbl h) h2 d_law_150 ?_
    refine j_callV (st := []) X 124 (by decide) hY_Mo_poke (c_Mo_poke l D aC ad 136 (by decide) (xe aC ad S c0) T (xs (i + 1).toNatClampNeg) (xs (i + 2).toNatClampNeg) hpM) mw_644 hI_Mo_poke hS_Mo_poke y_Mo rfl rfl rfl (Nat.le_of_ble_eq_true rfl) d_law_151 rfl rfl ⟨by decide, by decide⟩ hR (j_st (st' := []) rfl ?_)
    refine j_aload_n X d_law_154 3 rfl ?_
    refine j_callV (st := []) X 124 (by decide) hY_Mo_thrown (c_Mo_thrown l D aC ad 136 (by decide) (xe aC ad S c0) (f_Mo_poke T (xs (i + 1).toNatClampNeg) (xs (i + 2).toNatClampNeg)).2  ) mw_640 hI_Mo_thrown hS_Mo_thrown y_Mo rfl rfl rfl (Nat.le_of_ble_eq_true rfl) d_law_155 rfl rfl ⟨by decide, by decide⟩ hR (j_st (st' := [.int (gI (f_Mo_poke T (xs (i + 1).toNatClampNeg) (xs (i + 2).toNatClampNeg)).2 124 10)]) rfl ?_)
    refine j_iload X d_law_158 0 rfl ?_
    refine j_icmp_eq X (tgt := 165) d_law_160 (by decide) (fun _ => ?_) (fun h => absurd ht h)
    refine j_goto X (tgt := 799) d_law_165 (by decide) (j_sub [1, 2, 3, 4, 5] rfl ?_)
    exact kk _ _ _ f _ _ hR2 ho (Nat.le_refl _) (Nat.le_refl _)
  · refine j_aload_n X d_law_120 3 rfl ?_
    refine j_aload_n X d_law_121 4 rfl ?_
    refine j_iload X d_law_122 0 rfl ?_
    refine j_iconst X (v := 1) d_law_124 (by decide) ?_
    refine j_iadd X d_law_125 ?_
    refine j_sld X hS hbl (fun h => Nat.not_le_of_lt hbl h) h1 d_law_126 ?_
    refine j_aload_n X d_law_127 4 rfl ?_
    refine j_iload X d_law_128 0 rfl ?_
    refine j_iconst X (v := 2) d_law_130 (by decide) ?_
    refine j_iadd X d_law_131 ?_
    refine j_sld X hS hbl (fun h => Nat.not_le_of_lt hbl h) h2 d_law_132 ?_
    refine j_w lwW_x (j_callH (st := []) X hW_La_poke (k_poke_ISE l hfl D aC ad 136 (by decide) (ye aC ad T c0) S (xs (i + 1).toNatClampNeg) (xs (i + 2).toNatClampNeg) hpR) mw_346 mw_347 rfl rfl (Nat.le_of_ble_eq_true rfl) d_law_133 rfl rfl ⟨by decide, by decide⟩ hRc (j_w xy_comm (j_st (st' := [.int 2]) rfl ?_)))
    replace hR : cells + 1 ≤ room_1.cells ∧ slots + 6 ≤ room_1.slots := hRc
    refine j_istore X d_law_136 ((5, .int 2) :: lwL ad b i) (by decide) rfl ?_
    refine j_aload_n X d_law_138 3 rfl ?_
    refine j_aload_n X d_law_139 5 rfl ?_
    refine j_iload X d_law_140 1 rfl ?_
    refine j_iconst X (v := 1) d_law_142 (by decide) ?_
    refine j_iadd X d_law_143 ?_
    refine j_sld X hS hbl (fun h => Nat.not_le_of_lt hbl h) h1 d_law_144 ?_
    refine j_aload_n X d_law_145 5 rfl ?_
    refine j_iload X d_law_146 1 rfl ?_
    refine j_iconst X (v := 2) d_law_148 (by decide) ?_
    refine j_iadd X d_law_149 ?_
    refine j_sld X hS hbl (fun h => Nat.not_le_of_lt hbl h) h2 d_law_150 ?_
    refine j_callV (st := []) X 124 (by decide) hY_Mo_poke (c_Mo_poke l D aC ad 136 (by decide) (xe aC ad S c0) T (xs (i + 1).toNatClampNeg) (xs (i + 2).toNatClampNeg) hpM) mw_644 hI_Mo_poke hS_Mo_poke y_Mo rfl rfl rfl (Nat.le_of_ble_eq_true rfl) d_law_151 rfl rfl ⟨by decide, by decide⟩ hR (j_st (st' := []) rfl ?_)
    refine j_aload_n X d_law_154 3 rfl ?_
    refine j_callV (st := []) X 124 (by decide) hY_Mo_thrown (c_Mo_thrown l D aC ad 136 (by decide) (xe aC ad S c0) (f_Mo_poke T (xs (i + 1).toNatClampNeg) (xs (i + 2).toNatClampNeg)).2  ) mw_640 hI_Mo_thrown hS_Mo_thrown y_Mo rfl rfl rfl (Nat.le_of_ble_eq_true rfl) d_law_155 rfl rfl ⟨by decide, by decide⟩ hR (j_st (st' := [.int (gI (f_Mo_poke T (xs (i + 1).toNatClampNeg) (xs (i + 2).toNatClampNeg)).2 124 10)]) rfl ?_)
    refine j_iload X d_law_158 0 rfl ?_
    refine j_icmp_eq X (tgt := 165) d_law_160 (by decide) (fun _ => ?_) (fun h => absurd ht h)
    refine j_goto X (tgt := 799) d_law_165 (by decide) (j_sub [1, 2, 3, 4, 5] rfl ?_)
    exact kk _ _ _ f _ _ hR2 ho (Nat.le_refl _) (Nat.le_refl _)
set_option maxHeartbeats 4000000 in
set_option maxRecDepth 100000 in
theorem law_input (hS : va_X b N xs s s.heap) (hbl : b < s.heap.size) (X : lwX p s m b cd D aC ad) (h1 : vp_in (i + 1) N) (ho : c0 135 = .inl (aC 4, 1, .inr (.inl f))) (hK : lk_input Rl) (hRl : Rl S T) (hRc : cells + 1 ≤ room_1.cells ∧ slots + 6 ≤ room_1.slots) (kk : lwK p l e s m b below meth cd D aC ad Rl Q i cells slots) : lwJ p l e s m b below meth cd D aC ad Q cells slots (lwW aC ad S T c0) 168 (lwL ad b i) [] := by
  have hR : cells ≤ room_1.cells ∧ slots ≤ room_1.slots := ⟨Nat.le_of_succ_le hRc.1, Nat.le_trans (Nat.le_add_right _ _) hRc.2⟩
  obtain ⟨hpM, hpR, heq, hR2⟩ := hK S T (xs (i + 1).toNatClampNeg) hRl
  refine j_aload_n X d_law_168 3 rfl ?_
  refine j_aload_n X d_law_169 4 rfl ?_
  refine j_iload X d_law_170 0 rfl ?_
  refine j_iconst X (v := 1) d_law_172 (by decide) ?_
  refine j_iadd X d_law_173 ?_
  refine j_sld X hS hbl (fun h => Nat.not_le_of_lt hbl h) h1 d_law_174 ?_
  refine j_w lwW_x (j_callV (st := []) X 0 (by decide) hY_RM_input (c_RM_input l D aC ad 136 (by decide) (ye aC ad T c0) S (xs (i + 1).toNatClampNeg) hpR) mw_199 hI_RM_input hS_RM_input x_RM rfl rfl rfl (Nat.le_of_ble_eq_true rfl) d_law_175 rfl rfl ⟨by decide, by decide⟩ hR (j_w xy_comm (j_st (st' := [.int ((f_RM_input S (xs (i + 1).toNatClampNeg)).1)]) rfl ?_)))
  refine j_aload_n X d_law_178 2 rfl ?_
  refine j_aload_n X d_law_179 4 rfl ?_
  refine j_iload X d_law_180 0 rfl ?_
  refine j_iconst X (v := 1) d_law_182 (by decide) ?_
  refine j_iadd X d_law_183 ?_
  refine j_sld X hS hbl (fun h => Nat.not_le_of_lt hbl h) h1 d_law_184 ?_
  refine j_callV (st := [.int ((f_RM_input S (xs (i + 1).toNatClampNeg)).1)]) X 124 (by decide) hY_Mo_input (c_Mo_input l D aC ad 136 (by decide) (xe aC ad (f_RM_input S (xs (i + 1).toNatClampNeg)).2 c0) T (xs (i + 1).toNatClampNeg) hpM) mw_648 hI_Mo_input hS_Mo_input y_Mo rfl rfl rfl (Nat.le_of_ble_eq_true rfl) d_law_185 rfl rfl ⟨by decide, by decide⟩ hR (j_st (st' := [.int (f_Mo_input T (xs (i + 1).toNatClampNeg)).1, .int ((f_RM_input S (xs (i + 1).toNatClampNeg)).1)]) rfl ?_)
  refine j_icmp_eq X (tgt := 799) d_law_188 (by decide) (fun _ => ?_) (fun h => absurd heq h)
  exact kk _ _ _ f _ _ hR2 ho (Nat.le_succ _) (Nat.le_add_right _ _)
set_option maxHeartbeats 4000000 in
set_option maxRecDepth 100000 in
theorem law_step (hS : va_X b N xs s s.heap) (hbl : b < s.heap.size) (X : lwX p s m b cd D aC ad) (h1 : vp_in (i + 1) N) (ho : c0 135 = .inl (aC 4, 1, .inr (.inl f))) (hK : lk_step Rl) (hRl : Rl S T) (hRc : cells + 1 ≤ room_1.cells ∧ slots + 6 ≤ room_1.slots) (kk : lwK p l e s m b below meth cd D aC ad Rl Q i cells slots) : lwJ p l e s m b below meth cd D aC ad Q cells slots (lwW aC ad S T c0) 193 (lwL ad b i) [] := by
  have hR : cells ≤ room_1.cells ∧ slots ≤ room_1.slots := ⟨Nat.le_of_succ_le hRc.1, Nat.le_trans (Nat.le_add_right _ _) hRc.2⟩
  obtain ⟨hpM, hpR, heq, hR2⟩ := hK S T  hRl
  refine j_aload_n X d_law_193 3 rfl ?_
  refine j_w lwW_x (j_callV (st := []) X 0 (by decide) hY_RM_step (c_RM_step l D aC ad 136 (by decide) (ye aC ad T c0) S  hpR) mw_207 hI_RM_step hS_RM_step x_RM rfl rfl rfl (Nat.le_of_ble_eq_true rfl) d_law_194 rfl rfl ⟨by decide, by decide⟩ hR (j_w xy_comm (j_st (st' := [.int ((f_RM_step S ).1)]) rfl ?_)))
  refine j_aload_n X d_law_197 2 rfl ?_
  refine j_callV (st := [.int ((f_RM_step S ).1)]) X 124 (by decide) hY_Mo_step (c_Mo_step l D aC ad 136 (by decide) (xe aC ad (f_RM_step S ).2 c0) T  hpM) mw_652 hI_Mo_step hS_Mo_step y_Mo rfl rfl rfl (Nat.le_of_ble_eq_true rfl) d_law_198 rfl rfl ⟨by decide, by decide⟩ hR (j_st (st' := [.int (f_Mo_step T ).1, .int ((f_RM_step S ).1)]) rfl ?_)
  refine j_icmp_eq X (tgt := 799) d_law_201 (by decide) (fun _ => ?_) (fun h => absurd heq h)
  exact kk _ _ _ f _ _ hR2 ho (Nat.le_succ _) (Nat.le_add_right _ _)
set_option maxHeartbeats 4000000 in
set_option maxRecDepth 100000 in
theorem law_forth (hfl : l.flags = pinnedFlags ++ [noTraceFlag]) (hS : va_X b N xs s s.heap) (hbl : b < s.heap.size) (X : lwX p s m b cd D aC ad) (h1 : vp_in (i + 1) N) (ho : c0 135 = .inl (aC 4, 1, .inr (.inl f))) (hK : lk_forth Rl) (hRl : Rl S T) (hRc : cells + 1 ≤ room_1.cells ∧ slots + 6 ≤ room_1.slots) (kk : lwK p l e s m b below meth cd D aC ad Rl Q i cells slots) : lwJ p l e s m b below meth cd D aC ad Q cells slots (lwW aC ad S T c0) 206 (lwL ad b i) [] := by
  have hR : cells ≤ room_1.cells ∧ slots ≤ room_1.slots := ⟨Nat.le_of_succ_le hRc.1, Nat.le_trans (Nat.le_add_right _ _) hRc.2⟩
  obtain ⟨hpM, ⟨ht, hpR, heq, hR2⟩ | ⟨ht, hpR, hR2⟩⟩ := hK S T (xs (i + 1).toNatClampNeg) hRl
  · refine j_aload_n X d_law_206 3 rfl ?_
    refine j_aload_n X d_law_207 4 rfl ?_
    refine j_iload X d_law_208 0 rfl ?_
    refine j_iconst X (v := 1) d_law_210 (by decide) ?_
    refine j_iadd X d_law_211 ?_
    refine j_sld X hS hbl (fun h => Nat.not_le_of_lt hbl h) h1 d_law_212 ?_
    refine j_aload_n X d_law_213 1 rfl ?_
    refine j_w lwW_x (j_callH (st := []) X hW_La_forth (k_forth l D aC ad 136 (by decide) (ye aC ad T c0) f (ye_out.trans ho) S (xs (i + 1).toNatClampNeg) hpR) mw_439 mw_440 rfl rfl (Nat.le_of_ble_eq_true rfl) d_law_214 rfl rfl ⟨by decide, by decide⟩ hRc (j_w lwW_up (j_st (st' := [.int 0]) rfl ?_)))
    replace hR : cells + 1 ≤ room_1.cells ∧ slots + 6 ≤ room_1.slots := hRc
    refine j_istore X d_law_217 ((5, .int 0) :: lwL ad b i) (by decide) rfl ?_
    refine j_aload_n X d_law_219 3 rfl ?_
    refine j_aload_n X d_law_220 5 rfl ?_
    refine j_iload X d_law_221 1 rfl ?_
    refine j_iconst X (v := 1) d_law_223 (by decide) ?_
    refine j_iadd X d_law_224 ?_
    refine j_sld X hS hbl (fun h => Nat.not_le_of_lt hbl h) h1 d_law_225 ?_
    refine j_callV (st := []) X 124 (by decide) hY_Mo_forth (c_Mo_forth l D aC ad 136 (by decide) (xe aC ad (f_RM_forth S (xs (i + 1).toNatClampNeg)).2 (va_up c0 135 (.inl (aC 4, 1, .inr (.inl (vp_updL f (0 : Int32).toNatClampNeg ((f_RM_forth S (xs (i + 1).toNatClampNeg)).1).toInt64)))))) T (xs (i + 1).toNatClampNeg) hpM) mw_711 hI_Mo_forth hS_Mo_forth y_Mo rfl rfl rfl (Nat.le_of_ble_eq_true rfl) d_law_226 rfl rfl ⟨by decide, by decide⟩ hR (j_st (st' := [.int (f_Mo_forth T (xs (i + 1).toNatClampNeg)).1]) rfl ?_)
    refine j_istore X d_law_229 ((6, .int (f_Mo_forth T (xs (i + 1).toNatClampNeg)).1) :: (5, .int 0) :: lwL ad b i) (by decide) rfl ?_
    refine j_aload_n X d_law_231 4 rfl ?_
    refine j_callV (st := []) X 124 (by decide) hY_Mo_thrown (c_Mo_thrown l D aC ad 136 (by decide) (xe aC ad (f_RM_forth S (xs (i + 1).toNatClampNeg)).2 (va_up c0 135 (.inl (aC 4, 1, .inr (.inl (vp_updL f (0 : Int32).toNatClampNeg ((f_RM_forth S (xs (i + 1).toNatClampNeg)).1).toInt64)))))) (f_Mo_forth T (xs (i + 1).toNatClampNeg)).2  ) mw_640 hI_Mo_thrown hS_Mo_thrown y_Mo rfl rfl rfl (Nat.le_of_ble_eq_true rfl) d_law_232 rfl rfl ⟨by decide, by decide⟩ hR (j_st (st' := [.int (gI (f_Mo_forth T (xs (i + 1).toNatClampNeg)).2 124 10)]) rfl ?_)
    refine j_iload X d_law_235 1 rfl ?_
    refine j_icmp_eq X (tgt := 242) d_law_237 (by decide) (fun _ => ?_) (fun h => absurd ht h)
    refine j_iload X d_law_242 1 rfl ?_
    refine j_if_ne X (tgt := 259) d_law_244 (by decide) (fun h => absurd rfl h) (fun _ => ?_)
    refine j_aload_n X d_law_247 3 rfl ?_
    refine j_iconst X (v := 0) d_law_248 (by decide) ?_
    refine j_lald X 135 4 (by decide) (cA := aC 4) (len := 1) (f := vp_updL f (0 : Int32).toNatClampNeg ((f_RM_forth S (xs (i + 1).toNatClampNeg)).1).toInt64) (lwW_out.trans (by simp [va_up])) rfl (by unfold vp_in; decide) d_law_249 ?_
    refine j_iload X d_law_250 0 rfl ?_
    refine j_i2l X d_law_252 rfl ?_
    refine j_lcmp X d_law_253 ?_
    refine j_if_eq X (tgt := 259) d_law_254 (by decide) (fun _ => ?_) (fun h => absurd (lg_same (by simp [vp_updL, heq])) h)
    refine j_goto X (tgt := 799) d_law_259 (by decide) (j_sub [2, 3, 4, 5, 6] rfl ?_)
    exact kk _ _ _ _ _ _ hR2 (by simp [va_up]; rfl) (Nat.le_refl _) (Nat.le_refl _)
  · refine j_aload_n X d_law_206 3 rfl ?_
    refine j_aload_n X d_law_207 4 rfl ?_
    refine j_iload X d_law_208 0 rfl ?_
    refine j_iconst X (v := 1) d_law_210 (by decide) ?_
    refine j_iadd X d_law_211 ?_
    refine j_sld X hS hbl (fun h => Nat.not_le_of_lt hbl h) h1 d_law_212 ?_
    refine j_aload_n X d_law_213 1 rfl ?_
    refine j_w lwW_x (j_callH (st := []) X hW_La_forth (k_forth_IAE l hfl D aC ad 136 (by decide) (ye aC ad T c0) S (xs (i + 1).toNatClampNeg) hpR) mw_439 mw_440 rfl rfl (Nat.le_of_ble_eq_true rfl) d_law_214 rfl rfl ⟨by decide, by decide⟩ hRc (j_w xy_comm (j_st (st' := [.int 1]) rfl ?_)))
    replace hR : cells + 1 ≤ room_1.cells ∧ slots + 6 ≤ room_1.slots := hRc
    refine j_istore X d_law_217 ((5, .int 1) :: lwL ad b i) (by decide) rfl ?_
    refine j_aload_n X d_law_219 3 rfl ?_
    refine j_aload_n X d_law_220 5 rfl ?_
    refine j_iload X d_law_221 1 rfl ?_
    refine j_iconst X (v := 1) d_law_223 (by decide) ?_
    refine j_iadd X d_law_224 ?_
    refine j_sld X hS hbl (fun h => Nat.not_le_of_lt hbl h) h1 d_law_225 ?_
    refine j_callV (st := []) X 124 (by decide) hY_Mo_forth (c_Mo_forth l D aC ad 136 (by decide) (xe aC ad S c0) T (xs (i + 1).toNatClampNeg) hpM) mw_711 hI_Mo_forth hS_Mo_forth y_Mo rfl rfl rfl (Nat.le_of_ble_eq_true rfl) d_law_226 rfl rfl ⟨by decide, by decide⟩ hR (j_st (st' := [.int (f_Mo_forth T (xs (i + 1).toNatClampNeg)).1]) rfl ?_)
    refine j_istore X d_law_229 ((6, .int (f_Mo_forth T (xs (i + 1).toNatClampNeg)).1) :: (5, .int 1) :: lwL ad b i) (by decide) rfl ?_
    refine j_aload_n X d_law_231 4 rfl ?_
    refine j_callV (st := []) X 124 (by decide) hY_Mo_thrown (c_Mo_thrown l D aC ad 136 (by decide) (xe aC ad S c0) (f_Mo_forth T (xs (i + 1).toNatClampNeg)).2  ) mw_640 hI_Mo_thrown hS_Mo_thrown y_Mo rfl rfl rfl (Nat.le_of_ble_eq_true rfl) d_law_232 rfl rfl ⟨by decide, by decide⟩ hR (j_st (st' := [.int (gI (f_Mo_forth T (xs (i + 1).toNatClampNeg)).2 124 10)]) rfl ?_)
    refine j_iload X d_law_235 1 rfl ?_
    refine j_icmp_eq X (tgt := 242) d_law_237 (by decide) (fun _ => ?_) (fun h => absurd ht h)
    refine j_iload X d_law_242 1 rfl ?_
    refine j_if_ne X (tgt := 259) d_law_244 (by decide) (fun _ => ?_) (fun h => absurd h (by decide))
    refine j_goto X (tgt := 799) d_law_259 (by decide) (j_sub [2, 3, 4, 5, 6] rfl ?_)
    exact kk _ _ _ f _ _ hR2 ho (Nat.le_refl _) (Nat.le_refl _)
set_option maxHeartbeats 4000000 in
set_option maxRecDepth 100000 in
theorem law_back (hfl : l.flags = pinnedFlags ++ [noTraceFlag]) (hS : va_X b N xs s s.heap) (hbl : b < s.heap.size) (X : lwX p s m b cd D aC ad) (h1 : vp_in (i + 1) N) (ho : c0 135 = .inl (aC 4, 1, .inr (.inl f))) (hK : lk_back Rl) (hRl : Rl S T) (hRc : cells + 1 ≤ room_1.cells ∧ slots + 6 ≤ room_1.slots) (kk : lwK p l e s m b below meth cd D aC ad Rl Q i cells slots) : lwJ p l e s m b below meth cd D aC ad Q cells slots (lwW aC ad S T c0) 262 (lwL ad b i) [] := by
  have hR : cells ≤ room_1.cells ∧ slots ≤ room_1.slots := ⟨Nat.le_of_succ_le hRc.1, Nat.le_trans (Nat.le_add_right _ _) hRc.2⟩
  obtain ⟨hpM, ⟨ht, hpR, heq, hR2⟩ | ⟨ht, hpR, hR2⟩⟩ := hK S T (xs (i + 1).toNatClampNeg) hRl
  · refine j_aload_n X d_law_262 3 rfl ?_
    refine j_aload_n X d_law_263 4 rfl ?_
    refine j_iload X d_law_264 0 rfl ?_
    refine j_iconst X (v := 1) d_law_266 (by decide) ?_
    refine j_iadd X d_law_267 ?_
    refine j_sld X hS hbl (fun h => Nat.not_le_of_lt hbl h) h1 d_law_268 ?_
    refine j_aload_n X d_law_269 1 rfl ?_
    refine j_w lwW_x (j_callH (st := []) X hW_La_back (k_back l D aC ad 136 (by decide) (ye aC ad T c0) f (ye_out.trans ho) S (xs (i + 1).toNatClampNeg) hpR) mw_470 mw_471 rfl rfl (Nat.le_of_ble_eq_true rfl) d_law_270 rfl rfl ⟨by decide, by decide⟩ hRc (j_w lwW_up (j_st (st' := [.int 0]) rfl ?_)))
    replace hR : cells + 1 ≤ room_1.cells ∧ slots + 6 ≤ room_1.slots := hRc
    refine j_istore X d_law_273 ((5, .int 0) :: lwL ad b i) (by decide) rfl ?_
    refine j_aload_n X d_law_275 3 rfl ?_
    refine j_aload_n X d_law_276 5 rfl ?_
    refine j_iload X d_law_277 1 rfl ?_
    refine j_iconst X (v := 1) d_law_279 (by decide) ?_
    refine j_iadd X d_law_280 ?_
    refine j_sld X hS hbl (fun h => Nat.not_le_of_lt hbl h) h1 d_law_281 ?_
    refine j_callV (st := []) X 124 (by decide) hY_Mo_back (c_Mo_back l D aC ad 136 (by decide) (xe aC ad (f_RM_back S (xs (i + 1).toNatClampNeg)).2 (va_up c0 135 (.inl (aC 4, 1, .inr (.inl (vp_updL f (0 : Int32).toNatClampNeg ((f_RM_back S (xs (i + 1).toNatClampNeg)).1).toInt64)))))) T (xs (i + 1).toNatClampNeg) hpM) mw_735 hI_Mo_back hS_Mo_back y_Mo rfl rfl rfl (Nat.le_of_ble_eq_true rfl) d_law_282 rfl rfl ⟨by decide, by decide⟩ hR (j_st (st' := [.int (f_Mo_back T (xs (i + 1).toNatClampNeg)).1]) rfl ?_)
    refine j_istore X d_law_285 ((6, .int (f_Mo_back T (xs (i + 1).toNatClampNeg)).1) :: (5, .int 0) :: lwL ad b i) (by decide) rfl ?_
    refine j_aload_n X d_law_287 4 rfl ?_
    refine j_callV (st := []) X 124 (by decide) hY_Mo_thrown (c_Mo_thrown l D aC ad 136 (by decide) (xe aC ad (f_RM_back S (xs (i + 1).toNatClampNeg)).2 (va_up c0 135 (.inl (aC 4, 1, .inr (.inl (vp_updL f (0 : Int32).toNatClampNeg ((f_RM_back S (xs (i + 1).toNatClampNeg)).1).toInt64)))))) (f_Mo_back T (xs (i + 1).toNatClampNeg)).2  ) mw_640 hI_Mo_thrown hS_Mo_thrown y_Mo rfl rfl rfl (Nat.le_of_ble_eq_true rfl) d_law_288 rfl rfl ⟨by decide, by decide⟩ hR (j_st (st' := [.int (gI (f_Mo_back T (xs (i + 1).toNatClampNeg)).2 124 10)]) rfl ?_)
    refine j_iload X d_law_291 1 rfl ?_
    refine j_icmp_eq X (tgt := 298) d_law_293 (by decide) (fun _ => ?_) (fun h => absurd ht h)
    refine j_iload X d_law_298 1 rfl ?_
    refine j_if_ne X (tgt := 315) d_law_300 (by decide) (fun h => absurd rfl h) (fun _ => ?_)
    refine j_aload_n X d_law_303 3 rfl ?_
    refine j_iconst X (v := 0) d_law_304 (by decide) ?_
    refine j_lald X 135 4 (by decide) (cA := aC 4) (len := 1) (f := vp_updL f (0 : Int32).toNatClampNeg ((f_RM_back S (xs (i + 1).toNatClampNeg)).1).toInt64) (lwW_out.trans (by simp [va_up])) rfl (by unfold vp_in; decide) d_law_305 ?_
    refine j_iload X d_law_306 0 rfl ?_
    refine j_i2l X d_law_308 rfl ?_
    refine j_lcmp X d_law_309 ?_
    refine j_if_eq X (tgt := 315) d_law_310 (by decide) (fun _ => ?_) (fun h => absurd (lg_same (by simp [vp_updL, heq])) h)
    refine j_goto X (tgt := 799) d_law_315 (by decide) (j_sub [2, 3, 4, 5, 6] rfl ?_)
    exact kk _ _ _ _ _ _ hR2 (by simp [va_up]; rfl) (Nat.le_refl _) (Nat.le_refl _)
  · refine j_aload_n X d_law_262 3 rfl ?_
    refine j_aload_n X d_law_263 4 rfl ?_
    refine j_iload X d_law_264 0 rfl ?_
    refine j_iconst X (v := 1) d_law_266 (by decide) ?_
    refine j_iadd X d_law_267 ?_
    refine j_sld X hS hbl (fun h => Nat.not_le_of_lt hbl h) h1 d_law_268 ?_
    refine j_aload_n X d_law_269 1 rfl ?_
    refine j_w lwW_x (j_callH (st := []) X hW_La_back (k_back_IAE l hfl D aC ad 136 (by decide) (ye aC ad T c0) S (xs (i + 1).toNatClampNeg) hpR) mw_470 mw_471 rfl rfl (Nat.le_of_ble_eq_true rfl) d_law_270 rfl rfl ⟨by decide, by decide⟩ hRc (j_w xy_comm (j_st (st' := [.int 1]) rfl ?_)))
    replace hR : cells + 1 ≤ room_1.cells ∧ slots + 6 ≤ room_1.slots := hRc
    refine j_istore X d_law_273 ((5, .int 1) :: lwL ad b i) (by decide) rfl ?_
    refine j_aload_n X d_law_275 3 rfl ?_
    refine j_aload_n X d_law_276 5 rfl ?_
    refine j_iload X d_law_277 1 rfl ?_
    refine j_iconst X (v := 1) d_law_279 (by decide) ?_
    refine j_iadd X d_law_280 ?_
    refine j_sld X hS hbl (fun h => Nat.not_le_of_lt hbl h) h1 d_law_281 ?_
    refine j_callV (st := []) X 124 (by decide) hY_Mo_back (c_Mo_back l D aC ad 136 (by decide) (xe aC ad S c0) T (xs (i + 1).toNatClampNeg) hpM) mw_735 hI_Mo_back hS_Mo_back y_Mo rfl rfl rfl (Nat.le_of_ble_eq_true rfl) d_law_282 rfl rfl ⟨by decide, by decide⟩ hR (j_st (st' := [.int (f_Mo_back T (xs (i + 1).toNatClampNeg)).1]) rfl ?_)
    refine j_istore X d_law_285 ((6, .int (f_Mo_back T (xs (i + 1).toNatClampNeg)).1) :: (5, .int 1) :: lwL ad b i) (by decide) rfl ?_
    refine j_aload_n X d_law_287 4 rfl ?_
    refine j_callV (st := []) X 124 (by decide) hY_Mo_thrown (c_Mo_thrown l D aC ad 136 (by decide) (xe aC ad S c0) (f_Mo_back T (xs (i + 1).toNatClampNeg)).2  ) mw_640 hI_Mo_thrown hS_Mo_thrown y_Mo rfl rfl rfl (Nat.le_of_ble_eq_true rfl) d_law_288 rfl rfl ⟨by decide, by decide⟩ hR (j_st (st' := [.int (gI (f_Mo_back T (xs (i + 1).toNatClampNeg)).2 124 10)]) rfl ?_)
    refine j_iload X d_law_291 1 rfl ?_
    refine j_icmp_eq X (tgt := 298) d_law_293 (by decide) (fun _ => ?_) (fun h => absurd ht h)
    refine j_iload X d_law_298 1 rfl ?_
    refine j_if_ne X (tgt := 315) d_law_300 (by decide) (fun _ => ?_) (fun h => absurd h (by decide))
    refine j_goto X (tgt := 799) d_law_315 (by decide) (j_sub [2, 3, 4, 5, 6] rfl ?_)
    exact kk _ _ _ f _ _ hR2 ho (Nat.le_refl _) (Nat.le_refl _)
set_option maxHeartbeats 4000000 in
set_option maxRecDepth 100000 in
theorem law_go (hfl : l.flags = pinnedFlags ++ [noTraceFlag]) (hS : va_X b N xs s s.heap) (hbl : b < s.heap.size) (X : lwX p s m b cd D aC ad) (h1 : vp_in (i + 1) N) (ho : c0 135 = .inl (aC 4, 1, .inr (.inl f))) (hK : lk_go Rl) (hRl : Rl S T) (hRc : cells + 1 ≤ room_1.cells ∧ slots + 6 ≤ room_1.slots) (kk : lwK p l e s m b below meth cd D aC ad Rl Q i cells slots) : lwJ p l e s m b below meth cd D aC ad Q cells slots (lwW aC ad S T c0) 318 (lwL ad b i) [] := by
  have hR : cells ≤ room_1.cells ∧ slots ≤ room_1.slots := ⟨Nat.le_of_succ_le hRc.1, Nat.le_trans (Nat.le_add_right _ _) hRc.2⟩
  obtain ⟨hpM, ⟨ht, hpR, hR2⟩ | ⟨ht, hpR, hR2⟩⟩ := hK S T (xs (i + 1).toNatClampNeg) hRl
  · refine j_aload_n X d_law_318 3 rfl ?_
    refine j_aload_n X d_law_319 4 rfl ?_
    refine j_iload X d_law_320 0 rfl ?_
    refine j_iconst X (v := 1) d_law_322 (by decide) ?_
    refine j_iadd X d_law_323 ?_
    refine j_sld X hS hbl (fun h => Nat.not_le_of_lt hbl h) h1 d_law_324 ?_
    refine j_w lwW_x (j_callH (st := []) X hW_La_go (k_go l D aC ad 136 (by decide) (ye aC ad T c0) S (xs (i + 1).toNatClampNeg) hpR) mw_495 mw_496 rfl rfl (Nat.le_of_ble_eq_true rfl) d_law_325 rfl rfl ⟨by decide, by decide⟩ hRc (j_w xy_comm (j_st (st' := [.int 0]) rfl ?_)))
    replace hR : cells + 1 ≤ room_1.cells ∧ slots + 6 ≤ room_1.slots := hRc
    refine j_istore X d_law_328 ((5, .int 0) :: lwL ad b i) (by decide) rfl ?_
    refine j_aload_n X d_law_330 3 rfl ?_
    refine j_aload_n X d_law_331 5 rfl ?_
    refine j_iload X d_law_332 1 rfl ?_
    refine j_iconst X (v := 1) d_law_334 (by decide) ?_
    refine j_iadd X d_law_335 ?_
    refine j_sld X hS hbl (fun h => Nat.not_le_of_lt hbl h) h1 d_law_336 ?_
    refine j_callV (st := []) X 124 (by decide) hY_Mo_go (c_Mo_go l D aC ad 136 (by decide) (xe aC ad (f_RM_go S (xs (i + 1).toNatClampNeg)).2 c0) T (xs (i + 1).toNatClampNeg) hpM) mw_723 hI_Mo_go hS_Mo_go y_Mo rfl rfl rfl (Nat.le_of_ble_eq_true rfl) d_law_337 rfl rfl ⟨by decide, by decide⟩ hR (j_st (st' := []) rfl ?_)
    refine j_aload_n X d_law_340 3 rfl ?_
    refine j_callV (st := []) X 124 (by decide) hY_Mo_thrown (c_Mo_thrown l D aC ad 136 (by decide) (xe aC ad (f_RM_go S (xs (i + 1).toNatClampNeg)).2 c0) (f_Mo_go T (xs (i + 1).toNatClampNeg)).2  ) mw_640 hI_Mo_thrown hS_Mo_thrown y_Mo rfl rfl rfl (Nat.le_of_ble_eq_true rfl) d_law_341 rfl rfl ⟨by decide, by decide⟩ hR (j_st (st' := [.int (gI (f_Mo_go T (xs (i + 1).toNatClampNeg)).2 124 10)]) rfl ?_)
    refine j_iload X d_law_344 0 rfl ?_
    refine j_icmp_eq X (tgt := 351) d_law_346 (by decide) (fun _ => ?_) (fun h => absurd ht h)
    refine j_goto X (tgt := 799) d_law_351 (by decide) (j_sub [1, 2, 3, 4, 5] rfl ?_)
    exact kk _ _ _ f _ _ hR2 ho (Nat.le_refl _) (Nat.le_refl _)
  · refine j_aload_n X d_law_318 3 rfl ?_
    refine j_aload_n X d_law_319 4 rfl ?_
    refine j_iload X d_law_320 0 rfl ?_
    refine j_iconst X (v := 1) d_law_322 (by decide) ?_
    refine j_iadd X d_law_323 ?_
    refine j_sld X hS hbl (fun h => Nat.not_le_of_lt hbl h) h1 d_law_324 ?_
    refine j_w lwW_x (j_callH (st := []) X hW_La_go (k_go_IAE l hfl D aC ad 136 (by decide) (ye aC ad T c0) S (xs (i + 1).toNatClampNeg) hpR) mw_495 mw_496 rfl rfl (Nat.le_of_ble_eq_true rfl) d_law_325 rfl rfl ⟨by decide, by decide⟩ hRc (j_w xy_comm (j_st (st' := [.int 1]) rfl ?_)))
    replace hR : cells + 1 ≤ room_1.cells ∧ slots + 6 ≤ room_1.slots := hRc
    refine j_istore X d_law_328 ((5, .int 1) :: lwL ad b i) (by decide) rfl ?_
    refine j_aload_n X d_law_330 3 rfl ?_
    refine j_aload_n X d_law_331 5 rfl ?_
    refine j_iload X d_law_332 1 rfl ?_
    refine j_iconst X (v := 1) d_law_334 (by decide) ?_
    refine j_iadd X d_law_335 ?_
    refine j_sld X hS hbl (fun h => Nat.not_le_of_lt hbl h) h1 d_law_336 ?_
    refine j_callV (st := []) X 124 (by decide) hY_Mo_go (c_Mo_go l D aC ad 136 (by decide) (xe aC ad S c0) T (xs (i + 1).toNatClampNeg) hpM) mw_723 hI_Mo_go hS_Mo_go y_Mo rfl rfl rfl (Nat.le_of_ble_eq_true rfl) d_law_337 rfl rfl ⟨by decide, by decide⟩ hR (j_st (st' := []) rfl ?_)
    refine j_aload_n X d_law_340 3 rfl ?_
    refine j_callV (st := []) X 124 (by decide) hY_Mo_thrown (c_Mo_thrown l D aC ad 136 (by decide) (xe aC ad S c0) (f_Mo_go T (xs (i + 1).toNatClampNeg)).2  ) mw_640 hI_Mo_thrown hS_Mo_thrown y_Mo rfl rfl rfl (Nat.le_of_ble_eq_true rfl) d_law_341 rfl rfl ⟨by decide, by decide⟩ hR (j_st (st' := [.int (gI (f_Mo_go T (xs (i + 1).toNatClampNeg)).2 124 10)]) rfl ?_)
    refine j_iload X d_law_344 0 rfl ?_
    refine j_icmp_eq X (tgt := 351) d_law_346 (by decide) (fun _ => ?_) (fun h => absurd ht h)
    refine j_goto X (tgt := 799) d_law_351 (by decide) (j_sub [1, 2, 3, 4, 5] rfl ?_)
    exact kk _ _ _ f _ _ hR2 ho (Nat.le_refl _) (Nat.le_refl _)
set_option maxHeartbeats 4000000 in
set_option maxRecDepth 100000 in
theorem law_setBreak (hfl : l.flags = pinnedFlags ++ [noTraceFlag]) (hS : va_X b N xs s s.heap) (hbl : b < s.heap.size) (X : lwX p s m b cd D aC ad) (h1 : vp_in (i + 1) N) (ho : c0 135 = .inl (aC 4, 1, .inr (.inl f))) (hK : lk_setBreak Rl) (hRl : Rl S T) (hRc : cells + 1 ≤ room_1.cells ∧ slots + 6 ≤ room_1.slots) (kk : lwK p l e s m b below meth cd D aC ad Rl Q i cells slots) : lwJ p l e s m b below meth cd D aC ad Q cells slots (lwW aC ad S T c0) 354 (lwL ad b i) [] := by
  have hR : cells ≤ room_1.cells ∧ slots ≤ room_1.slots := ⟨Nat.le_of_succ_le hRc.1, Nat.le_trans (Nat.le_add_right _ _) hRc.2⟩
  obtain ⟨hpM, ⟨ht, hpR, heq, hR2⟩ | ⟨ht, hpR, hR2⟩⟩ := hK S T (xs (i + 1).toNatClampNeg) hRl
  · refine j_aload_n X d_law_354 3 rfl ?_
    refine j_aload_n X d_law_355 4 rfl ?_
    refine j_iload X d_law_356 0 rfl ?_
    refine j_iconst X (v := 1) d_law_358 (by decide) ?_
    refine j_iadd X d_law_359 ?_
    refine j_sld X hS hbl (fun h => Nat.not_le_of_lt hbl h) h1 d_law_360 ?_
    refine j_aload_n X d_law_361 1 rfl ?_
    refine j_w lwW_x (j_callH (st := []) X hW_La_setBreak (k_setBreak l D aC ad 136 (by decide) (ye aC ad T c0) f (ye_out.trans ho) S (xs (i + 1).toNatClampNeg) hpR) mw_503 mw_504 rfl rfl (Nat.le_of_ble_eq_true rfl) d_law_362 rfl rfl ⟨by decide, by decide⟩ hRc (j_w lwW_up (j_st (st' := [.int 0]) rfl ?_)))
    replace hR : cells + 1 ≤ room_1.cells ∧ slots + 6 ≤ room_1.slots := hRc
    refine j_istore X d_law_365 ((5, .int 0) :: lwL ad b i) (by decide) rfl ?_
    refine j_aload_n X d_law_367 3 rfl ?_
    refine j_aload_n X d_law_368 5 rfl ?_
    refine j_iload X d_law_369 1 rfl ?_
    refine j_iconst X (v := 1) d_law_371 (by decide) ?_
    refine j_iadd X d_law_372 ?_
    refine j_sld X hS hbl (fun h => Nat.not_le_of_lt hbl h) h1 d_law_373 ?_
    refine j_callV (st := []) X 124 (by decide) hY_Mo_setBreak (c_Mo_setBreak l D aC ad 136 (by decide) (xe aC ad (f_RM_setBreak S (xs (i + 1).toNatClampNeg)).2 (va_up c0 135 (.inl (aC 4, 1, .inr (.inl (vp_updL f (0 : Int32).toNatClampNeg (if (f_RM_setBreak S (xs (i + 1).toNatClampNeg)).1 = 0 then (0 : Int64) else 1))))))) T (xs (i + 1).toNatClampNeg) hpM) mw_743 hI_Mo_setBreak hS_Mo_setBreak y_Mo rfl rfl rfl (Nat.le_of_ble_eq_true rfl) d_law_374 rfl rfl ⟨by decide, by decide⟩ hR (j_st (st' := [.int (f_Mo_setBreak T (xs (i + 1).toNatClampNeg)).1]) rfl ?_)
    refine j_istore X d_law_377 ((6, .int (f_Mo_setBreak T (xs (i + 1).toNatClampNeg)).1) :: (5, .int 0) :: lwL ad b i) (by decide) rfl ?_
    refine j_aload_n X d_law_379 4 rfl ?_
    refine j_callV (st := []) X 124 (by decide) hY_Mo_thrown (c_Mo_thrown l D aC ad 136 (by decide) (xe aC ad (f_RM_setBreak S (xs (i + 1).toNatClampNeg)).2 (va_up c0 135 (.inl (aC 4, 1, .inr (.inl (vp_updL f (0 : Int32).toNatClampNeg (if (f_RM_setBreak S (xs (i + 1).toNatClampNeg)).1 = 0 then (0 : Int64) else 1))))))) (f_Mo_setBreak T (xs (i + 1).toNatClampNeg)).2  ) mw_640 hI_Mo_thrown hS_Mo_thrown y_Mo rfl rfl rfl (Nat.le_of_ble_eq_true rfl) d_law_380 rfl rfl ⟨by decide, by decide⟩ hR (j_st (st' := [.int (gI (f_Mo_setBreak T (xs (i + 1).toNatClampNeg)).2 124 10)]) rfl ?_)
    refine j_iload X d_law_383 1 rfl ?_
    refine j_icmp_eq X (tgt := 390) d_law_385 (by decide) (fun _ => ?_) (fun h => absurd ht h)
    refine j_iload X d_law_390 1 rfl ?_
    refine j_if_ne X (tgt := 414) d_law_392 (by decide) (fun h => absurd rfl h) (fun _ => ?_)
    refine j_aload_n X d_law_395 3 rfl ?_
    refine j_iconst X (v := 0) d_law_396 (by decide) ?_
    refine j_lald X 135 4 (by decide) (cA := aC 4) (len := 1) (f := vp_updL f (0 : Int32).toNatClampNeg (if (f_RM_setBreak S (xs (i + 1).toNatClampNeg)).1 = 0 then (0 : Int64) else 1)) (lwW_out.trans (by simp [va_up])) rfl (by unfold vp_in; decide) d_law_397 ?_
    refine j_iload X d_law_398 0 rfl ?_
    refine j_if_eq X (tgt := 407) d_law_400 (by decide) (fun hb => ?_) (fun hb => ?_)
    · refine j_lconst X (v := 0) d_law_407 rfl ?_
      refine j_lcmp X d_law_408 ?_
      refine j_if_eq X (tgt := 414) d_law_409 (by decide) (fun _ => ?_) (fun h => absurd (lg_same (by simp [vp_updL, heq, hb])) h)
      refine j_goto X (tgt := 799) d_law_414 (by decide) (j_sub [2, 3, 4, 5, 6] rfl ?_)
      exact kk _ _ _ _ _ _ hR2 (by simp [va_up]; rfl) (Nat.le_refl _) (Nat.le_refl _)
    · refine j_lconst X (v := 1) d_law_403 rfl ?_
      refine j_goto X (tgt := 408) d_law_404 (by decide) ?_
      refine j_lcmp X d_law_408 ?_
      refine j_if_eq X (tgt := 414) d_law_409 (by decide) (fun _ => ?_) (fun h => absurd (lg_same (by simp [vp_updL, heq, hb])) h)
      refine j_goto X (tgt := 799) d_law_414 (by decide) (j_sub [2, 3, 4, 5, 6] rfl ?_)
      exact kk _ _ _ _ _ _ hR2 (by simp [va_up]; rfl) (Nat.le_refl _) (Nat.le_refl _)
  · refine j_aload_n X d_law_354 3 rfl ?_
    refine j_aload_n X d_law_355 4 rfl ?_
    refine j_iload X d_law_356 0 rfl ?_
    refine j_iconst X (v := 1) d_law_358 (by decide) ?_
    refine j_iadd X d_law_359 ?_
    refine j_sld X hS hbl (fun h => Nat.not_le_of_lt hbl h) h1 d_law_360 ?_
    refine j_aload_n X d_law_361 1 rfl ?_
    refine j_w lwW_x (j_callH (st := []) X hW_La_setBreak (k_setBreak_IOOBE l hfl D aC ad 136 (by decide) (ye aC ad T c0) S (xs (i + 1).toNatClampNeg) hpR) mw_503 mw_504 rfl rfl (Nat.le_of_ble_eq_true rfl) d_law_362 rfl rfl ⟨by decide, by decide⟩ hRc (j_w xy_comm (j_st (st' := [.int 1]) rfl ?_)))
    replace hR : cells + 1 ≤ room_1.cells ∧ slots + 6 ≤ room_1.slots := hRc
    refine j_istore X d_law_365 ((5, .int 1) :: lwL ad b i) (by decide) rfl ?_
    refine j_aload_n X d_law_367 3 rfl ?_
    refine j_aload_n X d_law_368 5 rfl ?_
    refine j_iload X d_law_369 1 rfl ?_
    refine j_iconst X (v := 1) d_law_371 (by decide) ?_
    refine j_iadd X d_law_372 ?_
    refine j_sld X hS hbl (fun h => Nat.not_le_of_lt hbl h) h1 d_law_373 ?_
    refine j_callV (st := []) X 124 (by decide) hY_Mo_setBreak (c_Mo_setBreak l D aC ad 136 (by decide) (xe aC ad S c0) T (xs (i + 1).toNatClampNeg) hpM) mw_743 hI_Mo_setBreak hS_Mo_setBreak y_Mo rfl rfl rfl (Nat.le_of_ble_eq_true rfl) d_law_374 rfl rfl ⟨by decide, by decide⟩ hR (j_st (st' := [.int (f_Mo_setBreak T (xs (i + 1).toNatClampNeg)).1]) rfl ?_)
    refine j_istore X d_law_377 ((6, .int (f_Mo_setBreak T (xs (i + 1).toNatClampNeg)).1) :: (5, .int 1) :: lwL ad b i) (by decide) rfl ?_
    refine j_aload_n X d_law_379 4 rfl ?_
    refine j_callV (st := []) X 124 (by decide) hY_Mo_thrown (c_Mo_thrown l D aC ad 136 (by decide) (xe aC ad S c0) (f_Mo_setBreak T (xs (i + 1).toNatClampNeg)).2  ) mw_640 hI_Mo_thrown hS_Mo_thrown y_Mo rfl rfl rfl (Nat.le_of_ble_eq_true rfl) d_law_380 rfl rfl ⟨by decide, by decide⟩ hR (j_st (st' := [.int (gI (f_Mo_setBreak T (xs (i + 1).toNatClampNeg)).2 124 10)]) rfl ?_)
    refine j_iload X d_law_383 1 rfl ?_
    refine j_icmp_eq X (tgt := 390) d_law_385 (by decide) (fun _ => ?_) (fun h => absurd ht h)
    refine j_iload X d_law_390 1 rfl ?_
    refine j_if_ne X (tgt := 414) d_law_392 (by decide) (fun _ => ?_) (fun h => absurd h (by decide))
    refine j_goto X (tgt := 799) d_law_414 (by decide) (j_sub [2, 3, 4, 5, 6] rfl ?_)
    exact kk _ _ _ f _ _ hR2 ho (Nat.le_refl _) (Nat.le_refl _)
set_option maxHeartbeats 4000000 in
set_option maxRecDepth 100000 in
theorem law_clearBreak (hfl : l.flags = pinnedFlags ++ [noTraceFlag]) (hS : va_X b N xs s s.heap) (hbl : b < s.heap.size) (X : lwX p s m b cd D aC ad) (h1 : vp_in (i + 1) N) (ho : c0 135 = .inl (aC 4, 1, .inr (.inl f))) (hK : lk_clearBreak Rl) (hRl : Rl S T) (hRc : cells + 1 ≤ room_1.cells ∧ slots + 6 ≤ room_1.slots) (kk : lwK p l e s m b below meth cd D aC ad Rl Q i cells slots) : lwJ p l e s m b below meth cd D aC ad Q cells slots (lwW aC ad S T c0) 417 (lwL ad b i) [] := by
  have hR : cells ≤ room_1.cells ∧ slots ≤ room_1.slots := ⟨Nat.le_of_succ_le hRc.1, Nat.le_trans (Nat.le_add_right _ _) hRc.2⟩
  obtain ⟨hpM, ⟨ht, hpR, heq, hR2⟩ | ⟨ht, hpR, hR2⟩⟩ := hK S T (xs (i + 1).toNatClampNeg) hRl
  · refine j_aload_n X d_law_417 3 rfl ?_
    refine j_aload_n X d_law_418 4 rfl ?_
    refine j_iload X d_law_419 0 rfl ?_
    refine j_iconst X (v := 1) d_law_421 (by decide) ?_
    refine j_iadd X d_law_422 ?_
    refine j_sld X hS hbl (fun h => Nat.not_le_of_lt hbl h) h1 d_law_423 ?_
    refine j_aload_n X d_law_424 1 rfl ?_
    refine j_w lwW_x (j_callH (st := []) X hW_La_clearBreak (k_clearBreak l D aC ad 136 (by decide) (ye aC ad T c0) f (ye_out.trans ho) S (xs (i + 1).toNatClampNeg) hpR) mw_513 mw_514 rfl rfl (Nat.le_of_ble_eq_true rfl) d_law_425 rfl rfl ⟨by decide, by decide⟩ hRc (j_w lwW_up (j_st (st' := [.int 0]) rfl ?_)))
    replace hR : cells + 1 ≤ room_1.cells ∧ slots + 6 ≤ room_1.slots := hRc
    refine j_istore X d_law_428 ((5, .int 0) :: lwL ad b i) (by decide) rfl ?_
    refine j_aload_n X d_law_430 3 rfl ?_
    refine j_aload_n X d_law_431 5 rfl ?_
    refine j_iload X d_law_432 1 rfl ?_
    refine j_iconst X (v := 1) d_law_434 (by decide) ?_
    refine j_iadd X d_law_435 ?_
    refine j_sld X hS hbl (fun h => Nat.not_le_of_lt hbl h) h1 d_law_436 ?_
    refine j_callV (st := []) X 124 (by decide) hY_Mo_clearBreak (c_Mo_clearBreak l D aC ad 136 (by decide) (xe aC ad (f_RM_clearBreak S (xs (i + 1).toNatClampNeg)).2 (va_up c0 135 (.inl (aC 4, 1, .inr (.inl (vp_updL f (0 : Int32).toNatClampNeg (if (f_RM_clearBreak S (xs (i + 1).toNatClampNeg)).1 = 0 then (0 : Int64) else 1))))))) T (xs (i + 1).toNatClampNeg) hpM) mw_750 hI_Mo_clearBreak hS_Mo_clearBreak y_Mo rfl rfl rfl (Nat.le_of_ble_eq_true rfl) d_law_437 rfl rfl ⟨by decide, by decide⟩ hR (j_st (st' := [.int (f_Mo_clearBreak T (xs (i + 1).toNatClampNeg)).1]) rfl ?_)
    refine j_istore X d_law_440 ((6, .int (f_Mo_clearBreak T (xs (i + 1).toNatClampNeg)).1) :: (5, .int 0) :: lwL ad b i) (by decide) rfl ?_
    refine j_aload_n X d_law_442 4 rfl ?_
    refine j_callV (st := []) X 124 (by decide) hY_Mo_thrown (c_Mo_thrown l D aC ad 136 (by decide) (xe aC ad (f_RM_clearBreak S (xs (i + 1).toNatClampNeg)).2 (va_up c0 135 (.inl (aC 4, 1, .inr (.inl (vp_updL f (0 : Int32).toNatClampNeg (if (f_RM_clearBreak S (xs (i + 1).toNatClampNeg)).1 = 0 then (0 : Int64) else 1))))))) (f_Mo_clearBreak T (xs (i + 1).toNatClampNeg)).2  ) mw_640 hI_Mo_thrown hS_Mo_thrown y_Mo rfl rfl rfl (Nat.le_of_ble_eq_true rfl) d_law_443 rfl rfl ⟨by decide, by decide⟩ hR (j_st (st' := [.int (gI (f_Mo_clearBreak T (xs (i + 1).toNatClampNeg)).2 124 10)]) rfl ?_)
    refine j_iload X d_law_446 1 rfl ?_
    refine j_icmp_eq X (tgt := 453) d_law_448 (by decide) (fun _ => ?_) (fun h => absurd ht h)
    refine j_iload X d_law_453 1 rfl ?_
    refine j_if_ne X (tgt := 477) d_law_455 (by decide) (fun h => absurd rfl h) (fun _ => ?_)
    refine j_aload_n X d_law_458 3 rfl ?_
    refine j_iconst X (v := 0) d_law_459 (by decide) ?_
    refine j_lald X 135 4 (by decide) (cA := aC 4) (len := 1) (f := vp_updL f (0 : Int32).toNatClampNeg (if (f_RM_clearBreak S (xs (i + 1).toNatClampNeg)).1 = 0 then (0 : Int64) else 1)) (lwW_out.trans (by simp [va_up])) rfl (by unfold vp_in; decide) d_law_460 ?_
    refine j_iload X d_law_461 0 rfl ?_
    refine j_if_eq X (tgt := 470) d_law_463 (by decide) (fun hb => ?_) (fun hb => ?_)
    · refine j_lconst X (v := 0) d_law_470 rfl ?_
      refine j_lcmp X d_law_471 ?_
      refine j_if_eq X (tgt := 477) d_law_472 (by decide) (fun _ => ?_) (fun h => absurd (lg_same (by simp [vp_updL, heq, hb])) h)
      refine j_goto X (tgt := 799) d_law_477 (by decide) (j_sub [2, 3, 4, 5, 6] rfl ?_)
      exact kk _ _ _ _ _ _ hR2 (by simp [va_up]; rfl) (Nat.le_refl _) (Nat.le_refl _)
    · refine j_lconst X (v := 1) d_law_466 rfl ?_
      refine j_goto X (tgt := 471) d_law_467 (by decide) ?_
      refine j_lcmp X d_law_471 ?_
      refine j_if_eq X (tgt := 477) d_law_472 (by decide) (fun _ => ?_) (fun h => absurd (lg_same (by simp [vp_updL, heq, hb])) h)
      refine j_goto X (tgt := 799) d_law_477 (by decide) (j_sub [2, 3, 4, 5, 6] rfl ?_)
      exact kk _ _ _ _ _ _ hR2 (by simp [va_up]; rfl) (Nat.le_refl _) (Nat.le_refl _)
  · refine j_aload_n X d_law_417 3 rfl ?_
    refine j_aload_n X d_law_418 4 rfl ?_
    refine j_iload X d_law_419 0 rfl ?_
    refine j_iconst X (v := 1) d_law_421 (by decide) ?_
    refine j_iadd X d_law_422 ?_
    refine j_sld X hS hbl (fun h => Nat.not_le_of_lt hbl h) h1 d_law_423 ?_
    refine j_aload_n X d_law_424 1 rfl ?_
    refine j_w lwW_x (j_callH (st := []) X hW_La_clearBreak (k_clearBreak_IOOBE l hfl D aC ad 136 (by decide) (ye aC ad T c0) S (xs (i + 1).toNatClampNeg) hpR) mw_513 mw_514 rfl rfl (Nat.le_of_ble_eq_true rfl) d_law_425 rfl rfl ⟨by decide, by decide⟩ hRc (j_w xy_comm (j_st (st' := [.int 1]) rfl ?_)))
    replace hR : cells + 1 ≤ room_1.cells ∧ slots + 6 ≤ room_1.slots := hRc
    refine j_istore X d_law_428 ((5, .int 1) :: lwL ad b i) (by decide) rfl ?_
    refine j_aload_n X d_law_430 3 rfl ?_
    refine j_aload_n X d_law_431 5 rfl ?_
    refine j_iload X d_law_432 1 rfl ?_
    refine j_iconst X (v := 1) d_law_434 (by decide) ?_
    refine j_iadd X d_law_435 ?_
    refine j_sld X hS hbl (fun h => Nat.not_le_of_lt hbl h) h1 d_law_436 ?_
    refine j_callV (st := []) X 124 (by decide) hY_Mo_clearBreak (c_Mo_clearBreak l D aC ad 136 (by decide) (xe aC ad S c0) T (xs (i + 1).toNatClampNeg) hpM) mw_750 hI_Mo_clearBreak hS_Mo_clearBreak y_Mo rfl rfl rfl (Nat.le_of_ble_eq_true rfl) d_law_437 rfl rfl ⟨by decide, by decide⟩ hR (j_st (st' := [.int (f_Mo_clearBreak T (xs (i + 1).toNatClampNeg)).1]) rfl ?_)
    refine j_istore X d_law_440 ((6, .int (f_Mo_clearBreak T (xs (i + 1).toNatClampNeg)).1) :: (5, .int 1) :: lwL ad b i) (by decide) rfl ?_
    refine j_aload_n X d_law_442 4 rfl ?_
    refine j_callV (st := []) X 124 (by decide) hY_Mo_thrown (c_Mo_thrown l D aC ad 136 (by decide) (xe aC ad S c0) (f_Mo_clearBreak T (xs (i + 1).toNatClampNeg)).2  ) mw_640 hI_Mo_thrown hS_Mo_thrown y_Mo rfl rfl rfl (Nat.le_of_ble_eq_true rfl) d_law_443 rfl rfl ⟨by decide, by decide⟩ hR (j_st (st' := [.int (gI (f_Mo_clearBreak T (xs (i + 1).toNatClampNeg)).2 124 10)]) rfl ?_)
    refine j_iload X d_law_446 1 rfl ?_
    refine j_icmp_eq X (tgt := 453) d_law_448 (by decide) (fun _ => ?_) (fun h => absurd ht h)
    refine j_iload X d_law_453 1 rfl ?_
    refine j_if_ne X (tgt := 477) d_law_455 (by decide) (fun _ => ?_) (fun h => absurd h (by decide))
    refine j_goto X (tgt := 799) d_law_477 (by decide) (j_sub [2, 3, 4, 5, 6] rfl ?_)
    exact kk _ _ _ f _ _ hR2 ho (Nat.le_refl _) (Nat.le_refl _)
set_option maxHeartbeats 4000000 in
set_option maxRecDepth 100000 in
theorem law_setWatch (hfl : l.flags = pinnedFlags ++ [noTraceFlag]) (hS : va_X b N xs s s.heap) (hbl : b < s.heap.size) (X : lwX p s m b cd D aC ad) (h1 : vp_in (i + 1) N) (ho : c0 135 = .inl (aC 4, 1, .inr (.inl f))) (hK : lk_setWatch Rl) (hRl : Rl S T) (hRc : cells + 1 ≤ room_1.cells ∧ slots + 6 ≤ room_1.slots) (kk : lwK p l e s m b below meth cd D aC ad Rl Q i cells slots) : lwJ p l e s m b below meth cd D aC ad Q cells slots (lwW aC ad S T c0) 480 (lwL ad b i) [] := by
  have hR : cells ≤ room_1.cells ∧ slots ≤ room_1.slots := ⟨Nat.le_of_succ_le hRc.1, Nat.le_trans (Nat.le_add_right _ _) hRc.2⟩
  obtain ⟨hpM, ⟨ht, hpR, heq, hR2⟩ | ⟨ht, hpR, hR2⟩⟩ := hK S T (xs (i + 1).toNatClampNeg) hRl
  · refine j_aload_n X d_law_480 3 rfl ?_
    refine j_aload_n X d_law_481 4 rfl ?_
    refine j_iload X d_law_482 0 rfl ?_
    refine j_iconst X (v := 1) d_law_484 (by decide) ?_
    refine j_iadd X d_law_485 ?_
    refine j_sld X hS hbl (fun h => Nat.not_le_of_lt hbl h) h1 d_law_486 ?_
    refine j_aload_n X d_law_487 1 rfl ?_
    refine j_w lwW_x (j_callH (st := []) X hW_La_setWatch (k_setWatch l D aC ad 136 (by decide) (ye aC ad T c0) f (ye_out.trans ho) S (xs (i + 1).toNatClampNeg) hpR) mw_520 mw_521 rfl rfl (Nat.le_of_ble_eq_true rfl) d_law_488 rfl rfl ⟨by decide, by decide⟩ hRc (j_w lwW_up (j_st (st' := [.int 0]) rfl ?_)))
    replace hR : cells + 1 ≤ room_1.cells ∧ slots + 6 ≤ room_1.slots := hRc
    refine j_istore X d_law_491 ((5, .int 0) :: lwL ad b i) (by decide) rfl ?_
    refine j_aload_n X d_law_493 3 rfl ?_
    refine j_aload_n X d_law_494 5 rfl ?_
    refine j_iload X d_law_495 1 rfl ?_
    refine j_iconst X (v := 1) d_law_497 (by decide) ?_
    refine j_iadd X d_law_498 ?_
    refine j_sld X hS hbl (fun h => Nat.not_le_of_lt hbl h) h1 d_law_499 ?_
    refine j_callV (st := []) X 124 (by decide) hY_Mo_setWatch (c_Mo_setWatch l D aC ad 136 (by decide) (xe aC ad (f_RM_setWatch S (xs (i + 1).toNatClampNeg)).2 (va_up c0 135 (.inl (aC 4, 1, .inr (.inl (vp_updL f (0 : Int32).toNatClampNeg (if (f_RM_setWatch S (xs (i + 1).toNatClampNeg)).1 = 0 then (0 : Int64) else 1))))))) T (xs (i + 1).toNatClampNeg) hpM) mw_754 hI_Mo_setWatch hS_Mo_setWatch y_Mo rfl rfl rfl (Nat.le_of_ble_eq_true rfl) d_law_500 rfl rfl ⟨by decide, by decide⟩ hR (j_st (st' := [.int (f_Mo_setWatch T (xs (i + 1).toNatClampNeg)).1]) rfl ?_)
    refine j_istore X d_law_503 ((6, .int (f_Mo_setWatch T (xs (i + 1).toNatClampNeg)).1) :: (5, .int 0) :: lwL ad b i) (by decide) rfl ?_
    refine j_aload_n X d_law_505 4 rfl ?_
    refine j_callV (st := []) X 124 (by decide) hY_Mo_thrown (c_Mo_thrown l D aC ad 136 (by decide) (xe aC ad (f_RM_setWatch S (xs (i + 1).toNatClampNeg)).2 (va_up c0 135 (.inl (aC 4, 1, .inr (.inl (vp_updL f (0 : Int32).toNatClampNeg (if (f_RM_setWatch S (xs (i + 1).toNatClampNeg)).1 = 0 then (0 : Int64) else 1))))))) (f_Mo_setWatch T (xs (i + 1).toNatClampNeg)).2  ) mw_640 hI_Mo_thrown hS_Mo_thrown y_Mo rfl rfl rfl (Nat.le_of_ble_eq_true rfl) d_law_506 rfl rfl ⟨by decide, by decide⟩ hR (j_st (st' := [.int (gI (f_Mo_setWatch T (xs (i + 1).toNatClampNeg)).2 124 10)]) rfl ?_)
    refine j_iload X d_law_509 1 rfl ?_
    refine j_icmp_eq X (tgt := 516) d_law_511 (by decide) (fun _ => ?_) (fun h => absurd ht h)
    refine j_iload X d_law_516 1 rfl ?_
    refine j_if_ne X (tgt := 540) d_law_518 (by decide) (fun h => absurd rfl h) (fun _ => ?_)
    refine j_aload_n X d_law_521 3 rfl ?_
    refine j_iconst X (v := 0) d_law_522 (by decide) ?_
    refine j_lald X 135 4 (by decide) (cA := aC 4) (len := 1) (f := vp_updL f (0 : Int32).toNatClampNeg (if (f_RM_setWatch S (xs (i + 1).toNatClampNeg)).1 = 0 then (0 : Int64) else 1)) (lwW_out.trans (by simp [va_up])) rfl (by unfold vp_in; decide) d_law_523 ?_
    refine j_iload X d_law_524 0 rfl ?_
    refine j_if_eq X (tgt := 533) d_law_526 (by decide) (fun hb => ?_) (fun hb => ?_)
    · refine j_lconst X (v := 0) d_law_533 rfl ?_
      refine j_lcmp X d_law_534 ?_
      refine j_if_eq X (tgt := 540) d_law_535 (by decide) (fun _ => ?_) (fun h => absurd (lg_same (by simp [vp_updL, heq, hb])) h)
      refine j_goto X (tgt := 799) d_law_540 (by decide) (j_sub [2, 3, 4, 5, 6] rfl ?_)
      exact kk _ _ _ _ _ _ hR2 (by simp [va_up]; rfl) (Nat.le_refl _) (Nat.le_refl _)
    · refine j_lconst X (v := 1) d_law_529 rfl ?_
      refine j_goto X (tgt := 534) d_law_530 (by decide) ?_
      refine j_lcmp X d_law_534 ?_
      refine j_if_eq X (tgt := 540) d_law_535 (by decide) (fun _ => ?_) (fun h => absurd (lg_same (by simp [vp_updL, heq, hb])) h)
      refine j_goto X (tgt := 799) d_law_540 (by decide) (j_sub [2, 3, 4, 5, 6] rfl ?_)
      exact kk _ _ _ _ _ _ hR2 (by simp [va_up]; rfl) (Nat.le_refl _) (Nat.le_refl _)
  · refine j_aload_n X d_law_480 3 rfl ?_
    refine j_aload_n X d_law_481 4 rfl ?_
    refine j_iload X d_law_482 0 rfl ?_
    refine j_iconst X (v := 1) d_law_484 (by decide) ?_
    refine j_iadd X d_law_485 ?_
    refine j_sld X hS hbl (fun h => Nat.not_le_of_lt hbl h) h1 d_law_486 ?_
    refine j_aload_n X d_law_487 1 rfl ?_
    refine j_w lwW_x (j_callH (st := []) X hW_La_setWatch (k_setWatch_IOOBE l hfl D aC ad 136 (by decide) (ye aC ad T c0) S (xs (i + 1).toNatClampNeg) hpR) mw_520 mw_521 rfl rfl (Nat.le_of_ble_eq_true rfl) d_law_488 rfl rfl ⟨by decide, by decide⟩ hRc (j_w xy_comm (j_st (st' := [.int 1]) rfl ?_)))
    replace hR : cells + 1 ≤ room_1.cells ∧ slots + 6 ≤ room_1.slots := hRc
    refine j_istore X d_law_491 ((5, .int 1) :: lwL ad b i) (by decide) rfl ?_
    refine j_aload_n X d_law_493 3 rfl ?_
    refine j_aload_n X d_law_494 5 rfl ?_
    refine j_iload X d_law_495 1 rfl ?_
    refine j_iconst X (v := 1) d_law_497 (by decide) ?_
    refine j_iadd X d_law_498 ?_
    refine j_sld X hS hbl (fun h => Nat.not_le_of_lt hbl h) h1 d_law_499 ?_
    refine j_callV (st := []) X 124 (by decide) hY_Mo_setWatch (c_Mo_setWatch l D aC ad 136 (by decide) (xe aC ad S c0) T (xs (i + 1).toNatClampNeg) hpM) mw_754 hI_Mo_setWatch hS_Mo_setWatch y_Mo rfl rfl rfl (Nat.le_of_ble_eq_true rfl) d_law_500 rfl rfl ⟨by decide, by decide⟩ hR (j_st (st' := [.int (f_Mo_setWatch T (xs (i + 1).toNatClampNeg)).1]) rfl ?_)
    refine j_istore X d_law_503 ((6, .int (f_Mo_setWatch T (xs (i + 1).toNatClampNeg)).1) :: (5, .int 1) :: lwL ad b i) (by decide) rfl ?_
    refine j_aload_n X d_law_505 4 rfl ?_
    refine j_callV (st := []) X 124 (by decide) hY_Mo_thrown (c_Mo_thrown l D aC ad 136 (by decide) (xe aC ad S c0) (f_Mo_setWatch T (xs (i + 1).toNatClampNeg)).2  ) mw_640 hI_Mo_thrown hS_Mo_thrown y_Mo rfl rfl rfl (Nat.le_of_ble_eq_true rfl) d_law_506 rfl rfl ⟨by decide, by decide⟩ hR (j_st (st' := [.int (gI (f_Mo_setWatch T (xs (i + 1).toNatClampNeg)).2 124 10)]) rfl ?_)
    refine j_iload X d_law_509 1 rfl ?_
    refine j_icmp_eq X (tgt := 516) d_law_511 (by decide) (fun _ => ?_) (fun h => absurd ht h)
    refine j_iload X d_law_516 1 rfl ?_
    refine j_if_ne X (tgt := 540) d_law_518 (by decide) (fun _ => ?_) (fun h => absurd h (by decide))
    refine j_goto X (tgt := 799) d_law_540 (by decide) (j_sub [2, 3, 4, 5, 6] rfl ?_)
    exact kk _ _ _ f _ _ hR2 ho (Nat.le_refl _) (Nat.le_refl _)
set_option maxHeartbeats 4000000 in
set_option maxRecDepth 100000 in
theorem law_clearWatch (hfl : l.flags = pinnedFlags ++ [noTraceFlag]) (hS : va_X b N xs s s.heap) (hbl : b < s.heap.size) (X : lwX p s m b cd D aC ad) (h1 : vp_in (i + 1) N) (ho : c0 135 = .inl (aC 4, 1, .inr (.inl f))) (hK : lk_clearWatch Rl) (hRl : Rl S T) (hRc : cells + 1 ≤ room_1.cells ∧ slots + 6 ≤ room_1.slots) (kk : lwK p l e s m b below meth cd D aC ad Rl Q i cells slots) : lwJ p l e s m b below meth cd D aC ad Q cells slots (lwW aC ad S T c0) 543 (lwL ad b i) [] := by
  have hR : cells ≤ room_1.cells ∧ slots ≤ room_1.slots := ⟨Nat.le_of_succ_le hRc.1, Nat.le_trans (Nat.le_add_right _ _) hRc.2⟩
  obtain ⟨hpM, ⟨ht, hpR, heq, hR2⟩ | ⟨ht, hpR, hR2⟩⟩ := hK S T (xs (i + 1).toNatClampNeg) hRl
  · refine j_aload_n X d_law_543 3 rfl ?_
    refine j_aload_n X d_law_544 4 rfl ?_
    refine j_iload X d_law_545 0 rfl ?_
    refine j_iconst X (v := 1) d_law_547 (by decide) ?_
    refine j_iadd X d_law_548 ?_
    refine j_sld X hS hbl (fun h => Nat.not_le_of_lt hbl h) h1 d_law_549 ?_
    refine j_aload_n X d_law_550 1 rfl ?_
    refine j_w lwW_x (j_callH (st := []) X hW_La_clearWatch (k_clearWatch l D aC ad 136 (by decide) (ye aC ad T c0) f (ye_out.trans ho) S (xs (i + 1).toNatClampNeg) hpR) mw_528 mw_529 rfl rfl (Nat.le_of_ble_eq_true rfl) d_law_551 rfl rfl ⟨by decide, by decide⟩ hRc (j_w lwW_up (j_st (st' := [.int 0]) rfl ?_)))
    replace hR : cells + 1 ≤ room_1.cells ∧ slots + 6 ≤ room_1.slots := hRc
    refine j_istore X d_law_554 ((5, .int 0) :: lwL ad b i) (by decide) rfl ?_
    refine j_aload_n X d_law_556 3 rfl ?_
    refine j_aload_n X d_law_557 5 rfl ?_
    refine j_iload X d_law_558 1 rfl ?_
    refine j_iconst X (v := 1) d_law_560 (by decide) ?_
    refine j_iadd X d_law_561 ?_
    refine j_sld X hS hbl (fun h => Nat.not_le_of_lt hbl h) h1 d_law_562 ?_
    refine j_callV (st := []) X 124 (by decide) hY_Mo_clearWatch (c_Mo_clearWatch l D aC ad 136 (by decide) (xe aC ad (f_RM_clearWatch S (xs (i + 1).toNatClampNeg)).2 (va_up c0 135 (.inl (aC 4, 1, .inr (.inl (vp_updL f (0 : Int32).toNatClampNeg (if (f_RM_clearWatch S (xs (i + 1).toNatClampNeg)).1 = 0 then (0 : Int64) else 1))))))) T (xs (i + 1).toNatClampNeg) hpM) mw_758 hI_Mo_clearWatch hS_Mo_clearWatch y_Mo rfl rfl rfl (Nat.le_of_ble_eq_true rfl) d_law_563 rfl rfl ⟨by decide, by decide⟩ hR (j_st (st' := [.int (f_Mo_clearWatch T (xs (i + 1).toNatClampNeg)).1]) rfl ?_)
    refine j_istore X d_law_566 ((6, .int (f_Mo_clearWatch T (xs (i + 1).toNatClampNeg)).1) :: (5, .int 0) :: lwL ad b i) (by decide) rfl ?_
    refine j_aload_n X d_law_568 4 rfl ?_
    refine j_callV (st := []) X 124 (by decide) hY_Mo_thrown (c_Mo_thrown l D aC ad 136 (by decide) (xe aC ad (f_RM_clearWatch S (xs (i + 1).toNatClampNeg)).2 (va_up c0 135 (.inl (aC 4, 1, .inr (.inl (vp_updL f (0 : Int32).toNatClampNeg (if (f_RM_clearWatch S (xs (i + 1).toNatClampNeg)).1 = 0 then (0 : Int64) else 1))))))) (f_Mo_clearWatch T (xs (i + 1).toNatClampNeg)).2  ) mw_640 hI_Mo_thrown hS_Mo_thrown y_Mo rfl rfl rfl (Nat.le_of_ble_eq_true rfl) d_law_569 rfl rfl ⟨by decide, by decide⟩ hR (j_st (st' := [.int (gI (f_Mo_clearWatch T (xs (i + 1).toNatClampNeg)).2 124 10)]) rfl ?_)
    refine j_iload X d_law_572 1 rfl ?_
    refine j_icmp_eq X (tgt := 579) d_law_574 (by decide) (fun _ => ?_) (fun h => absurd ht h)
    refine j_iload X d_law_579 1 rfl ?_
    refine j_if_ne X (tgt := 603) d_law_581 (by decide) (fun h => absurd rfl h) (fun _ => ?_)
    refine j_aload_n X d_law_584 3 rfl ?_
    refine j_iconst X (v := 0) d_law_585 (by decide) ?_
    refine j_lald X 135 4 (by decide) (cA := aC 4) (len := 1) (f := vp_updL f (0 : Int32).toNatClampNeg (if (f_RM_clearWatch S (xs (i + 1).toNatClampNeg)).1 = 0 then (0 : Int64) else 1)) (lwW_out.trans (by simp [va_up])) rfl (by unfold vp_in; decide) d_law_586 ?_
    refine j_iload X d_law_587 0 rfl ?_
    refine j_if_eq X (tgt := 596) d_law_589 (by decide) (fun hb => ?_) (fun hb => ?_)
    · refine j_lconst X (v := 0) d_law_596 rfl ?_
      refine j_lcmp X d_law_597 ?_
      refine j_if_eq X (tgt := 603) d_law_598 (by decide) (fun _ => ?_) (fun h => absurd (lg_same (by simp [vp_updL, heq, hb])) h)
      refine j_goto X (tgt := 799) d_law_603 (by decide) (j_sub [2, 3, 4, 5, 6] rfl ?_)
      exact kk _ _ _ _ _ _ hR2 (by simp [va_up]; rfl) (Nat.le_refl _) (Nat.le_refl _)
    · refine j_lconst X (v := 1) d_law_592 rfl ?_
      refine j_goto X (tgt := 597) d_law_593 (by decide) ?_
      refine j_lcmp X d_law_597 ?_
      refine j_if_eq X (tgt := 603) d_law_598 (by decide) (fun _ => ?_) (fun h => absurd (lg_same (by simp [vp_updL, heq, hb])) h)
      refine j_goto X (tgt := 799) d_law_603 (by decide) (j_sub [2, 3, 4, 5, 6] rfl ?_)
      exact kk _ _ _ _ _ _ hR2 (by simp [va_up]; rfl) (Nat.le_refl _) (Nat.le_refl _)
  · refine j_aload_n X d_law_543 3 rfl ?_
    refine j_aload_n X d_law_544 4 rfl ?_
    refine j_iload X d_law_545 0 rfl ?_
    refine j_iconst X (v := 1) d_law_547 (by decide) ?_
    refine j_iadd X d_law_548 ?_
    refine j_sld X hS hbl (fun h => Nat.not_le_of_lt hbl h) h1 d_law_549 ?_
    refine j_aload_n X d_law_550 1 rfl ?_
    refine j_w lwW_x (j_callH (st := []) X hW_La_clearWatch (k_clearWatch_IOOBE l hfl D aC ad 136 (by decide) (ye aC ad T c0) S (xs (i + 1).toNatClampNeg) hpR) mw_528 mw_529 rfl rfl (Nat.le_of_ble_eq_true rfl) d_law_551 rfl rfl ⟨by decide, by decide⟩ hRc (j_w xy_comm (j_st (st' := [.int 1]) rfl ?_)))
    replace hR : cells + 1 ≤ room_1.cells ∧ slots + 6 ≤ room_1.slots := hRc
    refine j_istore X d_law_554 ((5, .int 1) :: lwL ad b i) (by decide) rfl ?_
    refine j_aload_n X d_law_556 3 rfl ?_
    refine j_aload_n X d_law_557 5 rfl ?_
    refine j_iload X d_law_558 1 rfl ?_
    refine j_iconst X (v := 1) d_law_560 (by decide) ?_
    refine j_iadd X d_law_561 ?_
    refine j_sld X hS hbl (fun h => Nat.not_le_of_lt hbl h) h1 d_law_562 ?_
    refine j_callV (st := []) X 124 (by decide) hY_Mo_clearWatch (c_Mo_clearWatch l D aC ad 136 (by decide) (xe aC ad S c0) T (xs (i + 1).toNatClampNeg) hpM) mw_758 hI_Mo_clearWatch hS_Mo_clearWatch y_Mo rfl rfl rfl (Nat.le_of_ble_eq_true rfl) d_law_563 rfl rfl ⟨by decide, by decide⟩ hR (j_st (st' := [.int (f_Mo_clearWatch T (xs (i + 1).toNatClampNeg)).1]) rfl ?_)
    refine j_istore X d_law_566 ((6, .int (f_Mo_clearWatch T (xs (i + 1).toNatClampNeg)).1) :: (5, .int 1) :: lwL ad b i) (by decide) rfl ?_
    refine j_aload_n X d_law_568 4 rfl ?_
    refine j_callV (st := []) X 124 (by decide) hY_Mo_thrown (c_Mo_thrown l D aC ad 136 (by decide) (xe aC ad S c0) (f_Mo_clearWatch T (xs (i + 1).toNatClampNeg)).2  ) mw_640 hI_Mo_thrown hS_Mo_thrown y_Mo rfl rfl rfl (Nat.le_of_ble_eq_true rfl) d_law_569 rfl rfl ⟨by decide, by decide⟩ hR (j_st (st' := [.int (gI (f_Mo_clearWatch T (xs (i + 1).toNatClampNeg)).2 124 10)]) rfl ?_)
    refine j_iload X d_law_572 1 rfl ?_
    refine j_icmp_eq X (tgt := 579) d_law_574 (by decide) (fun _ => ?_) (fun h => absurd ht h)
    refine j_iload X d_law_579 1 rfl ?_
    refine j_if_ne X (tgt := 603) d_law_581 (by decide) (fun _ => ?_) (fun h => absurd h (by decide))
    refine j_goto X (tgt := 799) d_law_603 (by decide) (j_sub [2, 3, 4, 5, 6] rfl ?_)
    exact kk _ _ _ f _ _ hR2 ho (Nat.le_refl _) (Nat.le_refl _)
set_option maxHeartbeats 4000000 in
set_option maxRecDepth 100000 in
theorem law_state (hfl : l.flags = pinnedFlags ++ [noTraceFlag]) (hS : va_X b N xs s s.heap) (hbl : b < s.heap.size) (X : lwX p s m b cd D aC ad) (h1 : vp_in (i + 1) N) (ho : c0 135 = .inl (aC 4, 1, .inr (.inl f))) (hK : lk_state Rl) (hRl : Rl S T) (hRc : cells + 1 ≤ room_1.cells ∧ slots + 6 ≤ room_1.slots) (kk : lwK p l e s m b below meth cd D aC ad Rl Q i cells slots) : lwJ p l e s m b below meth cd D aC ad Q cells slots (lwW aC ad S T c0) 606 (lwL ad b i) [] := by
  have hR : cells ≤ room_1.cells ∧ slots ≤ room_1.slots := ⟨Nat.le_of_succ_le hRc.1, Nat.le_trans (Nat.le_add_right _ _) hRc.2⟩
  obtain ⟨hpM, ⟨ht, hpR, heq, hR2⟩ | ⟨ht, hpR, hR2⟩⟩ := hK S T (xs (i + 1).toNatClampNeg) hRl
  · refine j_aload_n X d_law_606 3 rfl ?_
    refine j_aload_n X d_law_607 4 rfl ?_
    refine j_iload X d_law_608 0 rfl ?_
    refine j_iconst X (v := 1) d_law_610 (by decide) ?_
    refine j_iadd X d_law_611 ?_
    refine j_sld X hS hbl (fun h => Nat.not_le_of_lt hbl h) h1 d_law_612 ?_
    refine j_aload_n X d_law_613 1 rfl ?_
    refine j_w lwW_x (j_callH (st := []) X hW_La_state (k_state l D aC ad 136 (by decide) (ye aC ad T c0) f (ye_out.trans ho) S (xs (i + 1).toNatClampNeg) hpR) mw_535 mw_536 rfl rfl (Nat.le_of_ble_eq_true rfl) d_law_614 rfl rfl ⟨by decide, by decide⟩ hRc (j_w lwW_up (j_st (st' := [.int 0]) rfl ?_)))
    replace hR : cells + 1 ≤ room_1.cells ∧ slots + 6 ≤ room_1.slots := hRc
    refine j_istore X d_law_617 ((5, .int 0) :: lwL ad b i) (by decide) rfl ?_
    refine j_aload_n X d_law_619 3 rfl ?_
    refine j_aload_n X d_law_620 5 rfl ?_
    refine j_iload X d_law_621 1 rfl ?_
    refine j_iconst X (v := 1) d_law_623 (by decide) ?_
    refine j_iadd X d_law_624 ?_
    refine j_sld X hS hbl (fun h => Nat.not_le_of_lt hbl h) h1 d_law_625 ?_
    refine j_callV (st := []) X 124 (by decide) hY_Mo_state (c_Mo_state l D aC ad 136 (by decide) (xe aC ad S (va_up c0 135 (.inl (aC 4, 1, .inr (.inl (vp_updL f (0 : Int32).toNatClampNeg (f_RM_state S (xs (i + 1).toNatClampNeg)).toInt64)))))) T (xs (i + 1).toNatClampNeg) ) mw_762 hI_Mo_state hS_Mo_state y_Mo rfl rfl rfl (Nat.le_of_ble_eq_true rfl) d_law_626 rfl rfl ⟨by decide, by decide⟩ hR (j_st (st' := [.int (f_Mo_state T (xs (i + 1).toNatClampNeg)).1]) rfl ?_)
    refine j_istore X d_law_629 ((6, .int (f_Mo_state T (xs (i + 1).toNatClampNeg)).1) :: (5, .int 0) :: lwL ad b i) (by decide) rfl ?_
    refine j_aload_n X d_law_631 4 rfl ?_
    refine j_callV (st := []) X 124 (by decide) hY_Mo_thrown (c_Mo_thrown l D aC ad 136 (by decide) (xe aC ad S (va_up c0 135 (.inl (aC 4, 1, .inr (.inl (vp_updL f (0 : Int32).toNatClampNeg (f_RM_state S (xs (i + 1).toNatClampNeg)).toInt64)))))) (f_Mo_state T (xs (i + 1).toNatClampNeg)).2  ) mw_640 hI_Mo_thrown hS_Mo_thrown y_Mo rfl rfl rfl (Nat.le_of_ble_eq_true rfl) d_law_632 rfl rfl ⟨by decide, by decide⟩ hR (j_st (st' := [.int (gI (f_Mo_state T (xs (i + 1).toNatClampNeg)).2 124 10)]) rfl ?_)
    refine j_iload X d_law_635 1 rfl ?_
    refine j_icmp_eq X (tgt := 642) d_law_637 (by decide) (fun _ => ?_) (fun h => absurd ht h)
    refine j_iload X d_law_642 1 rfl ?_
    refine j_if_ne X (tgt := 659) d_law_644 (by decide) (fun h => absurd rfl h) (fun _ => ?_)
    refine j_aload_n X d_law_647 3 rfl ?_
    refine j_iconst X (v := 0) d_law_648 (by decide) ?_
    refine j_lald X 135 4 (by decide) (cA := aC 4) (len := 1) (f := vp_updL f (0 : Int32).toNatClampNeg (f_RM_state S (xs (i + 1).toNatClampNeg)).toInt64) (lwW_out.trans (by simp [va_up])) rfl (by unfold vp_in; decide) d_law_649 ?_
    refine j_iload X d_law_650 0 rfl ?_
    refine j_i2l X d_law_652 rfl ?_
    refine j_lcmp X d_law_653 ?_
    refine j_if_eq X (tgt := 659) d_law_654 (by decide) (fun _ => ?_) (fun h => absurd (lg_same (by simp [vp_updL, heq])) h)
    refine j_goto X (tgt := 799) d_law_659 (by decide) (j_sub [2, 3, 4, 5, 6] rfl ?_)
    exact kk _ _ _ _ _ _ hR2 (by simp [va_up]; rfl) (Nat.le_refl _) (Nat.le_refl _)
  · refine j_aload_n X d_law_606 3 rfl ?_
    refine j_aload_n X d_law_607 4 rfl ?_
    refine j_iload X d_law_608 0 rfl ?_
    refine j_iconst X (v := 1) d_law_610 (by decide) ?_
    refine j_iadd X d_law_611 ?_
    refine j_sld X hS hbl (fun h => Nat.not_le_of_lt hbl h) h1 d_law_612 ?_
    refine j_aload_n X d_law_613 1 rfl ?_
    refine j_w lwW_x (j_callH (st := []) X hW_La_state (k_state_IOOBE l hfl D aC ad 136 (by decide) (ye aC ad T c0) S (xs (i + 1).toNatClampNeg) hpR) mw_535 mw_536 rfl rfl (Nat.le_of_ble_eq_true rfl) d_law_614 rfl rfl ⟨by decide, by decide⟩ hRc (j_w xy_comm (j_st (st' := [.int 1]) rfl ?_)))
    replace hR : cells + 1 ≤ room_1.cells ∧ slots + 6 ≤ room_1.slots := hRc
    refine j_istore X d_law_617 ((5, .int 1) :: lwL ad b i) (by decide) rfl ?_
    refine j_aload_n X d_law_619 3 rfl ?_
    refine j_aload_n X d_law_620 5 rfl ?_
    refine j_iload X d_law_621 1 rfl ?_
    refine j_iconst X (v := 1) d_law_623 (by decide) ?_
    refine j_iadd X d_law_624 ?_
    refine j_sld X hS hbl (fun h => Nat.not_le_of_lt hbl h) h1 d_law_625 ?_
    refine j_callV (st := []) X 124 (by decide) hY_Mo_state (c_Mo_state l D aC ad 136 (by decide) (xe aC ad S c0) T (xs (i + 1).toNatClampNeg) ) mw_762 hI_Mo_state hS_Mo_state y_Mo rfl rfl rfl (Nat.le_of_ble_eq_true rfl) d_law_626 rfl rfl ⟨by decide, by decide⟩ hR (j_st (st' := [.int (f_Mo_state T (xs (i + 1).toNatClampNeg)).1]) rfl ?_)
    refine j_istore X d_law_629 ((6, .int (f_Mo_state T (xs (i + 1).toNatClampNeg)).1) :: (5, .int 1) :: lwL ad b i) (by decide) rfl ?_
    refine j_aload_n X d_law_631 4 rfl ?_
    refine j_callV (st := []) X 124 (by decide) hY_Mo_thrown (c_Mo_thrown l D aC ad 136 (by decide) (xe aC ad S c0) (f_Mo_state T (xs (i + 1).toNatClampNeg)).2  ) mw_640 hI_Mo_thrown hS_Mo_thrown y_Mo rfl rfl rfl (Nat.le_of_ble_eq_true rfl) d_law_632 rfl rfl ⟨by decide, by decide⟩ hR (j_st (st' := [.int (gI (f_Mo_state T (xs (i + 1).toNatClampNeg)).2 124 10)]) rfl ?_)
    refine j_iload X d_law_635 1 rfl ?_
    refine j_icmp_eq X (tgt := 642) d_law_637 (by decide) (fun _ => ?_) (fun h => absurd ht h)
    refine j_iload X d_law_642 1 rfl ?_
    refine j_if_ne X (tgt := 659) d_law_644 (by decide) (fun _ => ?_) (fun h => absurd h (by decide))
    refine j_goto X (tgt := 799) d_law_659 (by decide) (j_sub [2, 3, 4, 5, 6] rfl ?_)
    exact kk _ _ _ f _ _ hR2 ho (Nat.le_refl _) (Nat.le_refl _)
set_option maxHeartbeats 4000000 in
set_option maxRecDepth 100000 in
theorem law_cell (hS : va_X b N xs s s.heap) (hbl : b < s.heap.size) (X : lwX p s m b cd D aC ad) (h1 : vp_in (i + 1) N) (ho : c0 135 = .inl (aC 4, 1, .inr (.inl f))) (hK : lk_cell Rl) (hRl : Rl S T) (hRc : cells + 1 ≤ room_1.cells ∧ slots + 6 ≤ room_1.slots) (kk : lwK p l e s m b below meth cd D aC ad Rl Q i cells slots) : lwJ p l e s m b below meth cd D aC ad Q cells slots (lwW aC ad S T c0) 662 (lwL ad b i) [] := by
  have hR : cells ≤ room_1.cells ∧ slots ≤ room_1.slots := ⟨Nat.le_of_succ_le hRc.1, Nat.le_trans (Nat.le_add_right _ _) hRc.2⟩
  obtain ⟨hpM, hpR, heq, hR2⟩ := hK S T (xs (i + 1).toNatClampNeg) hRl
  refine j_aload_n X d_law_662 3 rfl ?_
  refine j_aload_n X d_law_663 4 rfl ?_
  refine j_iload X d_law_664 0 rfl ?_
  refine j_iconst X (v := 1) d_law_666 (by decide) ?_
  refine j_iadd X d_law_667 ?_
  refine j_sld X hS hbl (fun h => Nat.not_le_of_lt hbl h) h1 d_law_668 ?_
  refine j_w lwW_x (j_callV (st := []) X 0 (by decide) hY_RM_cell (c_RM_cell l D aC ad 136 (by decide) (ye aC ad T c0) S (xs (i + 1).toNatClampNeg) hpR) mw_338 hI_RM_cell hS_RM_cell x_RM rfl rfl rfl (Nat.le_of_ble_eq_true rfl) d_law_669 rfl rfl ⟨by decide, by decide⟩ hR (j_w xy_comm (j_st (st' := [.int (f_RM_cell S (xs (i + 1).toNatClampNeg))]) rfl ?_)))
  refine j_aload_n X d_law_672 2 rfl ?_
  refine j_aload_n X d_law_673 4 rfl ?_
  refine j_iload X d_law_674 0 rfl ?_
  refine j_iconst X (v := 1) d_law_676 (by decide) ?_
  refine j_iadd X d_law_677 ?_
  refine j_sld X hS hbl (fun h => Nat.not_le_of_lt hbl h) h1 d_law_678 ?_
  refine j_callV (st := [.int (f_RM_cell S (xs (i + 1).toNatClampNeg))]) X 124 (by decide) hY_Mo_cell (c_Mo_cell l D aC ad 136 (by decide) (xe aC ad S c0) T (xs (i + 1).toNatClampNeg) hpM) mw_770 hI_Mo_cell hS_Mo_cell y_Mo rfl rfl rfl (Nat.le_of_ble_eq_true rfl) d_law_679 rfl rfl ⟨by decide, by decide⟩ hR (j_st (st' := [.int (f_Mo_cell T (xs (i + 1).toNatClampNeg)).1, .int (f_RM_cell S (xs (i + 1).toNatClampNeg))]) rfl ?_)
  refine j_icmp_eq X (tgt := 799) d_law_682 (by decide) (fun _ => ?_) (fun h => absurd heq h)
  exact kk _ _ _ f _ _ hR2 ho (Nat.le_succ _) (Nat.le_add_right _ _)
set_option maxHeartbeats 4000000 in
set_option maxRecDepth 100000 in
theorem law_stack (hfl : l.flags = pinnedFlags ++ [noTraceFlag]) (hS : va_X b N xs s s.heap) (hbl : b < s.heap.size) (X : lwX p s m b cd D aC ad) (h1 : vp_in (i + 1) N) (ho : c0 135 = .inl (aC 4, 1, .inr (.inl f))) (hK : lk_stack Rl) (hRl : Rl S T) (hRc : cells + 1 ≤ room_1.cells ∧ slots + 6 ≤ room_1.slots) (kk : lwK p l e s m b below meth cd D aC ad Rl Q i cells slots) : lwJ p l e s m b below meth cd D aC ad Q cells slots (lwW aC ad S T c0) 687 (lwL ad b i) [] := by
  have hR : cells ≤ room_1.cells ∧ slots ≤ room_1.slots := ⟨Nat.le_of_succ_le hRc.1, Nat.le_trans (Nat.le_add_right _ _) hRc.2⟩
  obtain ⟨hpM, ⟨ht, hpR, heq, hR2⟩ | ⟨ht, hpR, hR2⟩⟩ := hK S T (xs (i + 1).toNatClampNeg) hRl
  · refine j_aload_n X d_law_687 3 rfl ?_
    refine j_aload_n X d_law_688 4 rfl ?_
    refine j_iload X d_law_689 0 rfl ?_
    refine j_iconst X (v := 1) d_law_691 (by decide) ?_
    refine j_iadd X d_law_692 ?_
    refine j_sld X hS hbl (fun h => Nat.not_le_of_lt hbl h) h1 d_law_693 ?_
    refine j_aload_n X d_law_694 1 rfl ?_
    refine j_w lwW_x (j_callH (st := []) X hW_La_stack (k_stack l D aC ad 136 (by decide) (ye aC ad T c0) f (ye_out.trans ho) S (xs (i + 1).toNatClampNeg) hpR) mw_543 mw_544 rfl rfl (Nat.le_of_ble_eq_true rfl) d_law_695 rfl rfl ⟨by decide, by decide⟩ hRc (j_w lwW_up (j_st (st' := [.int 0]) rfl ?_)))
    replace hR : cells + 1 ≤ room_1.cells ∧ slots + 6 ≤ room_1.slots := hRc
    refine j_istore X d_law_698 ((5, .int 0) :: lwL ad b i) (by decide) rfl ?_
    refine j_aload_n X d_law_700 3 rfl ?_
    refine j_aload_n X d_law_701 5 rfl ?_
    refine j_iload X d_law_702 1 rfl ?_
    refine j_iconst X (v := 1) d_law_704 (by decide) ?_
    refine j_iadd X d_law_705 ?_
    refine j_sld X hS hbl (fun h => Nat.not_le_of_lt hbl h) h1 d_law_706 ?_
    refine j_callV (st := []) X 124 (by decide) hY_Mo_stack (c_Mo_stack l D aC ad 136 (by decide) (xe aC ad S (va_up c0 135 (.inl (aC 4, 1, .inr (.inl (vp_updL f (0 : Int32).toNatClampNeg (f_RM_stack S (xs (i + 1).toNatClampNeg)).toInt64)))))) T (xs (i + 1).toNatClampNeg) hpM) mw_774 hI_Mo_stack hS_Mo_stack y_Mo rfl rfl rfl (Nat.le_of_ble_eq_true rfl) d_law_707 rfl rfl ⟨by decide, by decide⟩ hR (j_st (st' := [.int (f_Mo_stack T (xs (i + 1).toNatClampNeg)).1]) rfl ?_)
    refine j_istore X d_law_710 ((6, .int (f_Mo_stack T (xs (i + 1).toNatClampNeg)).1) :: (5, .int 0) :: lwL ad b i) (by decide) rfl ?_
    refine j_aload_n X d_law_712 4 rfl ?_
    refine j_callV (st := []) X 124 (by decide) hY_Mo_thrown (c_Mo_thrown l D aC ad 136 (by decide) (xe aC ad S (va_up c0 135 (.inl (aC 4, 1, .inr (.inl (vp_updL f (0 : Int32).toNatClampNeg (f_RM_stack S (xs (i + 1).toNatClampNeg)).toInt64)))))) (f_Mo_stack T (xs (i + 1).toNatClampNeg)).2  ) mw_640 hI_Mo_thrown hS_Mo_thrown y_Mo rfl rfl rfl (Nat.le_of_ble_eq_true rfl) d_law_713 rfl rfl ⟨by decide, by decide⟩ hR (j_st (st' := [.int (gI (f_Mo_stack T (xs (i + 1).toNatClampNeg)).2 124 10)]) rfl ?_)
    refine j_iload X d_law_716 1 rfl ?_
    refine j_icmp_eq X (tgt := 723) d_law_718 (by decide) (fun _ => ?_) (fun h => absurd ht h)
    refine j_iload X d_law_723 1 rfl ?_
    refine j_if_ne X (tgt := 740) d_law_725 (by decide) (fun h => absurd rfl h) (fun _ => ?_)
    refine j_aload_n X d_law_728 3 rfl ?_
    refine j_iconst X (v := 0) d_law_729 (by decide) ?_
    refine j_lald X 135 4 (by decide) (cA := aC 4) (len := 1) (f := vp_updL f (0 : Int32).toNatClampNeg (f_RM_stack S (xs (i + 1).toNatClampNeg)).toInt64) (lwW_out.trans (by simp [va_up])) rfl (by unfold vp_in; decide) d_law_730 ?_
    refine j_iload X d_law_731 0 rfl ?_
    refine j_i2l X d_law_733 rfl ?_
    refine j_lcmp X d_law_734 ?_
    refine j_if_eq X (tgt := 740) d_law_735 (by decide) (fun _ => ?_) (fun h => absurd (lg_same (by simp [vp_updL, heq])) h)
    refine j_goto X (tgt := 799) d_law_740 (by decide) (j_sub [2, 3, 4, 5, 6] rfl ?_)
    exact kk _ _ _ _ _ _ hR2 (by simp [va_up]; rfl) (Nat.le_refl _) (Nat.le_refl _)
  · refine j_aload_n X d_law_687 3 rfl ?_
    refine j_aload_n X d_law_688 4 rfl ?_
    refine j_iload X d_law_689 0 rfl ?_
    refine j_iconst X (v := 1) d_law_691 (by decide) ?_
    refine j_iadd X d_law_692 ?_
    refine j_sld X hS hbl (fun h => Nat.not_le_of_lt hbl h) h1 d_law_693 ?_
    refine j_aload_n X d_law_694 1 rfl ?_
    refine j_w lwW_x (j_callH (st := []) X hW_La_stack (k_stack_IOOBE l hfl D aC ad 136 (by decide) (ye aC ad T c0) S (xs (i + 1).toNatClampNeg) hpR) mw_543 mw_544 rfl rfl (Nat.le_of_ble_eq_true rfl) d_law_695 rfl rfl ⟨by decide, by decide⟩ hRc (j_w xy_comm (j_st (st' := [.int 1]) rfl ?_)))
    replace hR : cells + 1 ≤ room_1.cells ∧ slots + 6 ≤ room_1.slots := hRc
    refine j_istore X d_law_698 ((5, .int 1) :: lwL ad b i) (by decide) rfl ?_
    refine j_aload_n X d_law_700 3 rfl ?_
    refine j_aload_n X d_law_701 5 rfl ?_
    refine j_iload X d_law_702 1 rfl ?_
    refine j_iconst X (v := 1) d_law_704 (by decide) ?_
    refine j_iadd X d_law_705 ?_
    refine j_sld X hS hbl (fun h => Nat.not_le_of_lt hbl h) h1 d_law_706 ?_
    refine j_callV (st := []) X 124 (by decide) hY_Mo_stack (c_Mo_stack l D aC ad 136 (by decide) (xe aC ad S c0) T (xs (i + 1).toNatClampNeg) hpM) mw_774 hI_Mo_stack hS_Mo_stack y_Mo rfl rfl rfl (Nat.le_of_ble_eq_true rfl) d_law_707 rfl rfl ⟨by decide, by decide⟩ hR (j_st (st' := [.int (f_Mo_stack T (xs (i + 1).toNatClampNeg)).1]) rfl ?_)
    refine j_istore X d_law_710 ((6, .int (f_Mo_stack T (xs (i + 1).toNatClampNeg)).1) :: (5, .int 1) :: lwL ad b i) (by decide) rfl ?_
    refine j_aload_n X d_law_712 4 rfl ?_
    refine j_callV (st := []) X 124 (by decide) hY_Mo_thrown (c_Mo_thrown l D aC ad 136 (by decide) (xe aC ad S c0) (f_Mo_stack T (xs (i + 1).toNatClampNeg)).2  ) mw_640 hI_Mo_thrown hS_Mo_thrown y_Mo rfl rfl rfl (Nat.le_of_ble_eq_true rfl) d_law_713 rfl rfl ⟨by decide, by decide⟩ hR (j_st (st' := [.int (gI (f_Mo_stack T (xs (i + 1).toNatClampNeg)).2 124 10)]) rfl ?_)
    refine j_iload X d_law_716 1 rfl ?_
    refine j_icmp_eq X (tgt := 723) d_law_718 (by decide) (fun _ => ?_) (fun h => absurd ht h)
    refine j_iload X d_law_723 1 rfl ?_
    refine j_if_ne X (tgt := 740) d_law_725 (by decide) (fun _ => ?_) (fun h => absurd h (by decide))
    refine j_goto X (tgt := 799) d_law_740 (by decide) (j_sub [2, 3, 4, 5, 6] rfl ?_)
    exact kk _ _ _ f _ _ hR2 ho (Nat.le_refl _) (Nat.le_refl _)
set_option maxHeartbeats 4000000 in
set_option maxRecDepth 100000 in
theorem law_checkpoint (hfl : l.flags = pinnedFlags ++ [noTraceFlag]) (hS : va_X b N xs s s.heap) (hbl : b < s.heap.size) (X : lwX p s m b cd D aC ad) (h1 : vp_in (i + 1) N) (ho : c0 135 = .inl (aC 4, 1, .inr (.inl f))) (hK : lk_checkpoint Rl) (hRl : Rl S T) (hRc : cells + 1 ≤ room_1.cells ∧ slots + 6 ≤ room_1.slots) (kk : lwK p l e s m b below meth cd D aC ad Rl Q i cells slots) : lwJ p l e s m b below meth cd D aC ad Q cells slots (lwW aC ad S T c0) 743 (lwL ad b i) [] := by
  have hR : cells ≤ room_1.cells ∧ slots ≤ room_1.slots := ⟨Nat.le_of_succ_le hRc.1, Nat.le_trans (Nat.le_add_right _ _) hRc.2⟩
  obtain ⟨hpM, ⟨ht, hpR, heq, hR2⟩ | ⟨ht, hpR, hR2⟩⟩ := hK S T (xs (i + 1).toNatClampNeg) hRl
  · refine j_aload_n X d_law_743 3 rfl ?_
    refine j_aload_n X d_law_744 4 rfl ?_
    refine j_iload X d_law_745 0 rfl ?_
    refine j_iconst X (v := 1) d_law_747 (by decide) ?_
    refine j_iadd X d_law_748 ?_
    refine j_sld X hS hbl (fun h => Nat.not_le_of_lt hbl h) h1 d_law_749 ?_
    refine j_aload_n X d_law_750 1 rfl ?_
    refine j_w lwW_x (j_callH (st := []) X hW_La_checkpoint (k_checkpoint l D aC ad 136 (by decide) (ye aC ad T c0) f (ye_out.trans ho) S (xs (i + 1).toNatClampNeg) hpR) mw_552 mw_553 rfl rfl (Nat.le_of_ble_eq_true rfl) d_law_751 rfl rfl ⟨by decide, by decide⟩ hRc (j_w lwW_up (j_st (st' := [.int 0]) rfl ?_)))
    replace hR : cells + 1 ≤ room_1.cells ∧ slots + 6 ≤ room_1.slots := hRc
    refine j_istore X d_law_754 ((5, .int 0) :: lwL ad b i) (by decide) rfl ?_
    refine j_aload_n X d_law_756 3 rfl ?_
    refine j_aload_n X d_law_757 5 rfl ?_
    refine j_iload X d_law_758 1 rfl ?_
    refine j_iconst X (v := 1) d_law_760 (by decide) ?_
    refine j_iadd X d_law_761 ?_
    refine j_sld X hS hbl (fun h => Nat.not_le_of_lt hbl h) h1 d_law_762 ?_
    refine j_callV (st := []) X 124 (by decide) hY_Mo_checkpoint (c_Mo_checkpoint l D aC ad 136 (by decide) (xe aC ad S (va_up c0 135 (.inl (aC 4, 1, .inr (.inl (vp_updL f (0 : Int32).toNatClampNeg (f_RM_checkpoint S (xs (i + 1).toNatClampNeg)).toInt64)))))) T (xs (i + 1).toNatClampNeg) hpM) mw_778 hI_Mo_checkpoint hS_Mo_checkpoint y_Mo rfl rfl rfl (Nat.le_of_ble_eq_true rfl) d_law_763 rfl rfl ⟨by decide, by decide⟩ hR (j_st (st' := [.int (f_Mo_checkpoint T (xs (i + 1).toNatClampNeg)).1]) rfl ?_)
    refine j_istore X d_law_766 ((6, .int (f_Mo_checkpoint T (xs (i + 1).toNatClampNeg)).1) :: (5, .int 0) :: lwL ad b i) (by decide) rfl ?_
    refine j_aload_n X d_law_768 4 rfl ?_
    refine j_callV (st := []) X 124 (by decide) hY_Mo_thrown (c_Mo_thrown l D aC ad 136 (by decide) (xe aC ad S (va_up c0 135 (.inl (aC 4, 1, .inr (.inl (vp_updL f (0 : Int32).toNatClampNeg (f_RM_checkpoint S (xs (i + 1).toNatClampNeg)).toInt64)))))) (f_Mo_checkpoint T (xs (i + 1).toNatClampNeg)).2  ) mw_640 hI_Mo_thrown hS_Mo_thrown y_Mo rfl rfl rfl (Nat.le_of_ble_eq_true rfl) d_law_769 rfl rfl ⟨by decide, by decide⟩ hR (j_st (st' := [.int (gI (f_Mo_checkpoint T (xs (i + 1).toNatClampNeg)).2 124 10)]) rfl ?_)
    refine j_iload X d_law_772 1 rfl ?_
    refine j_icmp_eq X (tgt := 779) d_law_774 (by decide) (fun _ => ?_) (fun h => absurd ht h)
    refine j_iload X d_law_779 1 rfl ?_
    refine j_if_ne X (tgt := 796) d_law_781 (by decide) (fun h => absurd rfl h) (fun _ => ?_)
    refine j_aload_n X d_law_784 3 rfl ?_
    refine j_iconst X (v := 0) d_law_785 (by decide) ?_
    refine j_lald X 135 4 (by decide) (cA := aC 4) (len := 1) (f := vp_updL f (0 : Int32).toNatClampNeg (f_RM_checkpoint S (xs (i + 1).toNatClampNeg)).toInt64) (lwW_out.trans (by simp [va_up])) rfl (by unfold vp_in; decide) d_law_786 ?_
    refine j_iload X d_law_787 0 rfl ?_
    refine j_i2l X d_law_789 rfl ?_
    refine j_lcmp X d_law_790 ?_
    refine j_if_eq X (tgt := 796) d_law_791 (by decide) (fun _ => ?_) (fun h => absurd (lg_same (by simp [vp_updL, heq])) h)
    refine j_goto X (tgt := 799) d_law_796 (by decide) (j_sub [2, 3, 4, 5, 6] rfl ?_)
    exact kk _ _ _ _ _ _ hR2 (by simp [va_up]; rfl) (Nat.le_refl _) (Nat.le_refl _)
  · refine j_aload_n X d_law_743 3 rfl ?_
    refine j_aload_n X d_law_744 4 rfl ?_
    refine j_iload X d_law_745 0 rfl ?_
    refine j_iconst X (v := 1) d_law_747 (by decide) ?_
    refine j_iadd X d_law_748 ?_
    refine j_sld X hS hbl (fun h => Nat.not_le_of_lt hbl h) h1 d_law_749 ?_
    refine j_aload_n X d_law_750 1 rfl ?_
    refine j_w lwW_x (j_callH (st := []) X hW_La_checkpoint (k_checkpoint_IOOBE l hfl D aC ad 136 (by decide) (ye aC ad T c0) S (xs (i + 1).toNatClampNeg) hpR) mw_552 mw_553 rfl rfl (Nat.le_of_ble_eq_true rfl) d_law_751 rfl rfl ⟨by decide, by decide⟩ hRc (j_w xy_comm (j_st (st' := [.int 1]) rfl ?_)))
    replace hR : cells + 1 ≤ room_1.cells ∧ slots + 6 ≤ room_1.slots := hRc
    refine j_istore X d_law_754 ((5, .int 1) :: lwL ad b i) (by decide) rfl ?_
    refine j_aload_n X d_law_756 3 rfl ?_
    refine j_aload_n X d_law_757 5 rfl ?_
    refine j_iload X d_law_758 1 rfl ?_
    refine j_iconst X (v := 1) d_law_760 (by decide) ?_
    refine j_iadd X d_law_761 ?_
    refine j_sld X hS hbl (fun h => Nat.not_le_of_lt hbl h) h1 d_law_762 ?_
    refine j_callV (st := []) X 124 (by decide) hY_Mo_checkpoint (c_Mo_checkpoint l D aC ad 136 (by decide) (xe aC ad S c0) T (xs (i + 1).toNatClampNeg) hpM) mw_778 hI_Mo_checkpoint hS_Mo_checkpoint y_Mo rfl rfl rfl (Nat.le_of_ble_eq_true rfl) d_law_763 rfl rfl ⟨by decide, by decide⟩ hR (j_st (st' := [.int (f_Mo_checkpoint T (xs (i + 1).toNatClampNeg)).1]) rfl ?_)
    refine j_istore X d_law_766 ((6, .int (f_Mo_checkpoint T (xs (i + 1).toNatClampNeg)).1) :: (5, .int 1) :: lwL ad b i) (by decide) rfl ?_
    refine j_aload_n X d_law_768 4 rfl ?_
    refine j_callV (st := []) X 124 (by decide) hY_Mo_thrown (c_Mo_thrown l D aC ad 136 (by decide) (xe aC ad S c0) (f_Mo_checkpoint T (xs (i + 1).toNatClampNeg)).2  ) mw_640 hI_Mo_thrown hS_Mo_thrown y_Mo rfl rfl rfl (Nat.le_of_ble_eq_true rfl) d_law_769 rfl rfl ⟨by decide, by decide⟩ hR (j_st (st' := [.int (gI (f_Mo_checkpoint T (xs (i + 1).toNatClampNeg)).2 124 10)]) rfl ?_)
    refine j_iload X d_law_772 1 rfl ?_
    refine j_icmp_eq X (tgt := 779) d_law_774 (by decide) (fun _ => ?_) (fun h => absurd ht h)
    refine j_iload X d_law_779 1 rfl ?_
    refine j_if_ne X (tgt := 796) d_law_781 (by decide) (fun _ => ?_) (fun h => absurd h (by decide))
    refine j_goto X (tgt := 799) d_law_796 (by decide) (j_sub [2, 3, 4, 5, 6] rfl ?_)
    exact kk _ _ _ f _ _ hR2 ho (Nat.le_refl _) (Nat.le_refl _)
end LAWC
