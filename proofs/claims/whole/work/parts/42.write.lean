def f_Nt_keepWord (S : xS) (i : Nat) (a : Int32) (w : Int32) : Int32 × xS := if 2 ≤ (gI S i 9) then ((0 : Int32), S) else px_let (sR S (i + 1) (upd (gR S (i + 1)) (gI S i 9).toNatClampNeg a)) (fun S2 : xS => px_let (sR S2 (i + 2) (upd (gR S2 (i + 2)) (gI S2 i 9).toNatClampNeg w)) (fun S5 : xS => px_let (sI S5 i 9 ((gI S5 i 9) + 1)) (fun S8 : xS => ((0 : Int32), S8))))
def p_Nt_keepWord (S : xS) (i : Nat) (a : Int32) (w : Int32) : Prop := (2 ≤ (gI S i 9) → True) ∧ (¬ 2 ≤ (gI S i 9) → (vp_in (gI S i 9) 2) ∧ ((∀ S2 : xS, S2 = sR S (i + 1) (upd (gR S (i + 1)) (gI S i 9).toNatClampNeg a) → (vp_in (gI S2 i 9) 2) ∧ ((∀ S5 : xS, S5 = sR S2 (i + 2) (upd (gR S2 (i + 2)) (gI S2 i 9).toNatClampNeg w) → (∀ S8 : xS, S8 = sI S5 i 9 ((gI S5 i 9) + 1) → True))))))
abbrev rm_Nt_keepWord : Room := { frames := 0, cells := 0, slots := 0, locals := 0 }
set_option maxHeartbeats 4000000 in
set_option maxRecDepth 100000 in
theorem c_Nt_keepWord (l : Launch) (D : va_G) (aC : Nat → ClassId) (ad : Nat → Nat) (n : Nat) (hn : 124 ≤ n) (c0 : Nat → va_E) (S : xS) (i : Nat) (a : Int32) (w : Int32) (hi : kNt i) (hp : p_Nt_keepWord S i a w) : px_M l y_Nt_keepWord (Cond.code y_Nt_keepWord b_Nt_keepWord 3 none :: WS) rm_Nt_keepWord GG D CLS (TYS aC) [.ref (ad i), .int a, .int w] ad (xe aC ad S c0) n none (xe aC ad (f_Nt_keepWord S i a w).2 c0) := by
  obtain ⟨F, hF⟩ : ∃ F, F = f_Nt_keepWord S i a w := ⟨_, rfl⟩
  rw [← hF]
  unfold f_Nt_keepWord at hF
  refine px_start GG_k (by decide) (Nat.le_of_ble_eq_true rfl) ?_
  intro p e s m args below meth cd X hr hk
  refine j_L (L' := [(0, .ref (ad i)), (1, .int a), (2, .int w)]) rfl ?_
  unfold p_Nt_keepWord at hp
  refine j_aload_n X d_Nt_keepWord_0 0 rfl ?_
  refine j_get X fd_Nt_20_Nt i (k_ltN hi hn) (x_Nt hi) rfl d_Nt_keepWord_1 ?_
  refine j_iconst X (v := 2) d_Nt_keepWord_4 (by decide) ?_
  refine j_icmp_ge X (tgt := 38) d_Nt_keepWord_5 (by decide) (fun h1 => ?_) (fun h1 => ?_)
  · replace hp := hp.1 h1
    replace hF := hF.trans (if_pos h1)
    exact j_vret X hr hk rfl (by rw [hF]) d_Nt_keepWord_38
  · replace hp := hp.2 h1
    replace hF := hF.trans (if_neg h1)
    refine j_aload_n X d_Nt_keepWord_8 0 rfl ?_
    refine j_get X fd_Nt_9_Nt i (k_ltN hi hn) (x_Nt hi) rfl d_Nt_keepWord_9 ?_
    refine j_aload_n X d_Nt_keepWord_12 0 rfl ?_
    refine j_get X fd_Nt_20_Nt i (k_ltN hi hn) (x_Nt hi) rfl d_Nt_keepWord_13 ?_
    refine j_iload_n X d_Nt_keepWord_16 1 rfl ?_
    obtain ⟨o4, hp⟩ := hp
    refine j_iast X (i + 1) 0 (k_ltN1 hi hn) (x_pl hi) rfl o4 d_Nt_keepWord_17 (j_w (x_ast_pl hi) ?_)
    refine x_gen (fun S2 e3 => ?_)
    replace hp := hp S2 e3
    replace hF := hF.trans (px_let_eq e3)
    refine j_aload_n X d_Nt_keepWord_18 0 rfl ?_
    refine j_get X fd_Nt_13_Nt i (k_ltN hi hn) (x_Nt hi) rfl d_Nt_keepWord_19 ?_
    refine j_aload_n X d_Nt_keepWord_22 0 rfl ?_
    refine j_get X fd_Nt_20_Nt i (k_ltN hi hn) (x_Nt hi) rfl d_Nt_keepWord_23 ?_
    refine j_iload_n X d_Nt_keepWord_26 2 rfl ?_
    obtain ⟨o7, hp⟩ := hp
    refine j_iast X (i + 2) 0 (k_ltN2 hi hn) (x_wd hi) rfl o7 d_Nt_keepWord_27 (j_w (x_ast_wd hi) ?_)
    refine x_gen (fun S5 e6 => ?_)
    replace hp := hp S5 e6
    replace hF := hF.trans (px_let_eq e6)
    refine j_aload_n X d_Nt_keepWord_28 0 rfl ?_
    refine j_dup X d_Nt_keepWord_29 rfl ?_
    refine j_get X fd_Nt_20_Nt i (k_ltN hi hn) (x_Nt hi) rfl d_Nt_keepWord_30 ?_
    refine j_iconst X (v := 1) d_Nt_keepWord_33 (by decide) ?_
    refine j_iadd X d_Nt_keepWord_34 ?_
    refine j_put X fp_Nt_20_Nt i (k_ltN hi hn) (x_Nt hi) (Nat.le_of_ble_eq_true rfl) rfl rfl d_Nt_keepWord_35 (j_w (x_putNt_9 hi) ?_)
    refine x_gen (fun S8 e9 => ?_)
    replace hp := hp S8 e9
    replace hF := hF.trans (px_let_eq e9)
    exact j_vret X hr hk rfl (by rw [hF]) d_Nt_keepWord_38
def f_Ma_put (S : xS) (a : Int32) (w : Int32) : Int32 × xS := px_let (f_RM_within a 56) (fun r1 : Int32 => if r1 = 0 then ((0 : Int32), S) else px_let ((f_Nt_keepWord S (iN (gN S)) a (gR S (4 + 1) a.toNatClampNeg)).2) (fun S6 : xS => px_let (sR S6 (4 + 1) (upd (gR S6 (4 + 1)) a.toNatClampNeg w)) (fun S8 : xS => ((0 : Int32), S8))))
def p_Ma_put (S : xS) (a : Int32) (w : Int32) : Prop := (∀ r1 : Int32, r1 = (f_RM_within a 56) → (r1 = 0 → True) ∧ (¬ r1 = 0 → (vp_in a 56) ∧ ((p_Nt_keepWord S (iN (gN S)) a (gR S (4 + 1) a.toNatClampNeg)) ∧ ((∀ S6 : xS, S6 = (f_Nt_keepWord S (iN (gN S)) a (gR S (4 + 1) a.toNatClampNeg)).2 → (vp_in a 56) ∧ ((∀ S8 : xS, S8 = sR S6 (4 + 1) (upd (gR S6 (4 + 1)) a.toNatClampNeg w) → True)))))))
abbrev rm_Ma_put : Room := { frames := 1, cells := 0, slots := 0, locals := 22 }
set_option maxHeartbeats 4000000 in
set_option maxRecDepth 100000 in
theorem c_Ma_put (l : Launch) (D : va_G) (aC : Nat → ClassId) (ad : Nat → Nat) (n : Nat) (hn : 124 ≤ n) (c0 : Nat → va_E) (S : xS) (a : Int32) (w : Int32)  (hp : p_Ma_put S a w) : px_M l y_Ma_put (Cond.code y_Ma_put b_Ma_put 3 none :: WS) rm_Ma_put GG D CLS (TYS aC) [.ref (ad 1), .int a, .int w] ad (xe aC ad S c0) n none (xe aC ad (f_Ma_put S a w).2 c0) := by
  obtain ⟨F, hF⟩ : ∃ F, F = f_Ma_put S a w := ⟨_, rfl⟩
  rw [← hF]
  unfold f_Ma_put at hF
  refine px_start GG_k (by decide) (Nat.le_of_ble_eq_true rfl) ?_
  intro p e s m args below meth cd X hr hk
  refine j_L (L' := [(0, .ref (ad 1)), (1, .int a), (2, .int w)]) rfl ?_
  unfold p_Ma_put at hp
  refine j_iload_n X d_Ma_put_0 1 rfl ?_
  refine j_bipush X (v := 56) d_Ma_put_1 (by decide) ?_
  refine j_callPN (st := []) X hY_RM_within (c_RM_within l a 56 ) X.2.2.2.2.2.2.1 hT_RM_within rfl rfl (Nat.le_of_ble_eq_true rfl) d_Ma_put_3 rfl rfl ⟨by decide, by decide⟩ ⟨Nat.zero_le _, Nat.zero_le _⟩ (j_st (st' := [.int (f_RM_within a 56)]) rfl ?_)
  refine j_topi (fun r1 e2 => ?_)
  replace hp := hp r1 e2
  replace hF := hF.trans (px_let_eq e2)
  refine j_if_eq X (tgt := 36) d_Ma_put_6 (by decide) (fun h3 => ?_) (fun h3 => ?_)
  · replace hp := hp.1 h3
    replace hF := hF.trans (if_pos h3)
    exact j_vret X hr hk rfl (by rw [hF]) d_Ma_put_36
  · replace hp := hp.2 h3
    replace hF := hF.trans (if_neg h3)
    refine j_aload_n X d_Ma_put_9 0 rfl ?_
    refine j_get X fd_Ma_38_Ma 1 (by omega) x_Ma rfl d_Ma_put_10 ?_
    refine j_iload_n X d_Ma_put_13 1 rfl ?_
    refine j_aload_n X d_Ma_put_14 0 rfl ?_
    refine j_get X fd_Ma_23_Ma 1 (by omega) x_Ma rfl d_Ma_put_15 ?_
    refine j_get X fd_Ma_126_St 4 (k_lt k_4 hn) (x_St k_4) rfl d_Ma_put_18 ?_
    refine j_iload_n X d_Ma_put_21 1 rfl ?_
    obtain ⟨o4, hp⟩ := hp
    refine j_iald X (4 + 1) 0 (k_lt1 k_4 hn) (x_mem k_4) rfl o4 d_Ma_put_22 ?_
    obtain ⟨o5, hp⟩ := hp
    refine j_callV (st := []) X (iN (gN S)) (k_ltN (k_N _) hn) hY_Nt_keepWord (c_Nt_keepWord l D aC ad n hn c0 S (iN (gN S)) a (gR S (4 + 1) a.toNatClampNeg) (k_N _) o5) mw_272 hI_Nt_keepWord hS_Nt_keepWord (x_Nt (k_N _)) rfl rfl rfl (Nat.le_of_ble_eq_true rfl) d_Ma_put_23 rfl rfl ⟨by decide, by decide⟩ ⟨Nat.zero_le _, Nat.zero_le _⟩ (j_st (st' := []) rfl ?_)
    refine x_gen (fun S6 e7 => ?_)
    replace hp := hp S6 e7
    replace hF := hF.trans (px_let_eq e7)
    refine j_aload_n X d_Ma_put_26 0 rfl ?_
    refine j_get X fd_Ma_23_Ma 1 (by omega) x_Ma rfl d_Ma_put_27 ?_
    refine j_get X fd_Ma_126_St 4 (k_lt k_4 hn) (x_St k_4) rfl d_Ma_put_30 ?_
    refine j_iload_n X d_Ma_put_33 1 rfl ?_
    refine j_iload_n X d_Ma_put_34 2 rfl ?_
    obtain ⟨o10, hp⟩ := hp
    refine j_iast X (4 + 1) 0 (k_lt1 k_4 hn) (x_mem k_4) rfl o10 d_Ma_put_35 (j_w (x_ast_mem k_4) ?_)
    refine x_gen (fun S8 e9 => ?_)
    replace hp := hp S8 e9
    replace hF := hF.trans (px_let_eq e9)
    exact j_vret X hr hk rfl (by rw [hF]) d_Ma_put_36
def f_Ma_push (S : xS) (w : Int32) : Int32 × xS := px_let ((f_Ma_put S (32 + (gI S 4 5)) w).2) (fun S2 : xS => px_let (sI S2 4 5 ((gI S2 4 5) + 1)) (fun S4 : xS => ((0 : Int32), S4)))
def p_Ma_push (S : xS) (w : Int32) : Prop := (p_Ma_put S (32 + (gI S 4 5)) w) ∧ ((∀ S2 : xS, S2 = (f_Ma_put S (32 + (gI S 4 5)) w).2 → (∀ S4 : xS, S4 = sI S2 4 5 ((gI S2 4 5) + 1) → True)))
abbrev rm_Ma_push : Room := { frames := 2, cells := 0, slots := 0, locals := 44 }
set_option maxHeartbeats 4000000 in
set_option maxRecDepth 100000 in
theorem c_Ma_push (l : Launch) (D : va_G) (aC : Nat → ClassId) (ad : Nat → Nat) (n : Nat) (hn : 124 ≤ n) (c0 : Nat → va_E) (S : xS) (w : Int32)  (hp : p_Ma_push S w) : px_M l y_Ma_push (Cond.code y_Ma_push b_Ma_push 2 none :: WS) rm_Ma_push GG D CLS (TYS aC) [.ref (ad 1), .int w] ad (xe aC ad S c0) n none (xe aC ad (f_Ma_push S w).2 c0) := by
  obtain ⟨F, hF⟩ : ∃ F, F = f_Ma_push S w := ⟨_, rfl⟩
  rw [← hF]
  unfold f_Ma_push at hF
  refine px_start GG_k (by decide) (Nat.le_of_ble_eq_true rfl) ?_
  intro p e s m args below meth cd X hr hk
  refine j_L (L' := [(0, .ref (ad 1)), (1, .int w)]) rfl ?_
  unfold p_Ma_push at hp
  refine j_aload_n X d_Ma_push_0 0 rfl ?_
  refine j_bipush X (v := 32) d_Ma_push_1 (by decide) ?_
  refine j_aload_n X d_Ma_push_3 0 rfl ?_
  refine j_get X fd_Ma_23_Ma 1 (by omega) x_Ma rfl d_Ma_push_4 ?_
  refine j_get X fd_Ma_63_St 4 (k_lt k_4 hn) (x_St k_4) rfl d_Ma_push_7 ?_
  refine j_iadd X d_Ma_push_10 ?_
  refine j_iload_n X d_Ma_push_11 1 rfl ?_
  obtain ⟨o1, hp⟩ := hp
  refine j_callV (st := []) X 1 (by omega) hY_Ma_put (c_Ma_put l D aC ad n hn c0 S (32 + (gI S 4 5)) w  o1) mw_268 hI_Ma_put hS_Ma_put x_Ma rfl rfl rfl (Nat.le_of_ble_eq_true rfl) d_Ma_push_12 rfl rfl ⟨by decide, by decide⟩ ⟨Nat.zero_le _, Nat.zero_le _⟩ (j_st (st' := []) rfl ?_)
  refine x_gen (fun S2 e3 => ?_)
  replace hp := hp S2 e3
  replace hF := hF.trans (px_let_eq e3)
  refine j_aload_n X d_Ma_push_15 0 rfl ?_
  refine j_get X fd_Ma_23_Ma 1 (by omega) x_Ma rfl d_Ma_push_16 ?_
  refine j_dup X d_Ma_push_19 rfl ?_
  refine j_get X fd_Ma_63_St 4 (k_lt k_4 hn) (x_St k_4) rfl d_Ma_push_20 ?_
  refine j_iconst X (v := 1) d_Ma_push_23 (by decide) ?_
  refine j_iadd X d_Ma_push_24 ?_
  refine j_put X fp_Ma_63_St 4 (k_lt k_4 hn) (x_St k_4) (Nat.le_of_ble_eq_true rfl) rfl rfl d_Ma_push_25 (j_w (x_putSt_5 k_4) ?_)
  refine x_gen (fun S4 e5 => ?_)
  replace hp := hp S4 e5
  replace hF := hF.trans (px_let_eq e5)
  exact j_vret X hr hk rfl (by rw [hF]) d_Ma_push_28
def f_Ma_replaceTwo (S : xS) (w : Int32) : Int32 × xS := px_let (sI S 4 5 ((gI S 4 5) - 2)) (fun S1 : xS => px_let ((f_Ma_push S1 w).2) (fun S4 : xS => ((0 : Int32), S4)))
def p_Ma_replaceTwo (S : xS) (w : Int32) : Prop := (∀ S1 : xS, S1 = sI S 4 5 ((gI S 4 5) - 2) → (p_Ma_push S1 w) ∧ ((∀ S4 : xS, S4 = (f_Ma_push S1 w).2 → True)))
abbrev rm_Ma_replaceTwo : Room := { frames := 3, cells := 0, slots := 0, locals := 65 }
set_option maxHeartbeats 4000000 in
set_option maxRecDepth 100000 in
theorem c_Ma_replaceTwo (l : Launch) (D : va_G) (aC : Nat → ClassId) (ad : Nat → Nat) (n : Nat) (hn : 124 ≤ n) (c0 : Nat → va_E) (S : xS) (w : Int32)  (hp : p_Ma_replaceTwo S w) : px_M l y_Ma_replaceTwo (Cond.code y_Ma_replaceTwo b_Ma_replaceTwo 2 none :: WS) rm_Ma_replaceTwo GG D CLS (TYS aC) [.ref (ad 1), .int w] ad (xe aC ad S c0) n none (xe aC ad (f_Ma_replaceTwo S w).2 c0) := by
  obtain ⟨F, hF⟩ : ∃ F, F = f_Ma_replaceTwo S w := ⟨_, rfl⟩
  rw [← hF]
  unfold f_Ma_replaceTwo at hF
  refine px_start GG_k (by decide) (Nat.le_of_ble_eq_true rfl) ?_
  intro p e s m args below meth cd X hr hk
  refine j_L (L' := [(0, .ref (ad 1)), (1, .int w)]) rfl ?_
  unfold p_Ma_replaceTwo at hp
  refine j_aload_n X d_Ma_replaceTwo_0 0 rfl ?_
  refine j_get X fd_Ma_23_Ma 1 (by omega) x_Ma rfl d_Ma_replaceTwo_1 ?_
  refine j_dup X d_Ma_replaceTwo_4 rfl ?_
  refine j_get X fd_Ma_63_St 4 (k_lt k_4 hn) (x_St k_4) rfl d_Ma_replaceTwo_5 ?_
  refine j_iconst X (v := 2) d_Ma_replaceTwo_8 (by decide) ?_
  refine j_isub X d_Ma_replaceTwo_9 ?_
  refine j_put X fp_Ma_63_St 4 (k_lt k_4 hn) (x_St k_4) (Nat.le_of_ble_eq_true rfl) rfl rfl d_Ma_replaceTwo_10 (j_w (x_putSt_5 k_4) ?_)
  refine x_gen (fun S1 e2 => ?_)
  replace hp := hp S1 e2
  replace hF := hF.trans (px_let_eq e2)
  refine j_aload_n X d_Ma_replaceTwo_13 0 rfl ?_
  refine j_iload_n X d_Ma_replaceTwo_14 1 rfl ?_
  obtain ⟨o3, hp⟩ := hp
  refine j_callV (st := []) X 1 (by omega) hY_Ma_push (c_Ma_push l D aC ad n hn c0 S1 w  o3) mw_264 hI_Ma_push hS_Ma_push x_Ma rfl rfl rfl (Nat.le_of_ble_eq_true rfl) d_Ma_replaceTwo_15 rfl rfl ⟨by decide, by decide⟩ ⟨Nat.zero_le _, Nat.zero_le _⟩ (j_st (st' := []) rfl ?_)
  refine x_gen (fun S4 e5 => ?_)
  replace hp := hp S4 e5
  replace hF := hF.trans (px_let_eq e5)
  exact j_vret X hr hk rfl (by rw [hF]) d_Ma_replaceTwo_18
def f_Ma_exchange (S : xS)  : Int32 × xS := px_let (f_Ma_fromTop S 1) (fun r2 : Int32 => px_let (f_Ma_fromTop S 0) (fun r5 : Int32 => px_let ((f_Ma_put S ((32 + (gI S 4 5)) - 2) r5).2) (fun S8 : xS => px_let ((f_Ma_put S8 ((32 + (gI S8 4 5)) - 1) r2).2) (fun S11 : xS => ((0 : Int32), S11)))))
def p_Ma_exchange (S : xS)  : Prop := (p_Ma_fromTop S 1) ∧ ((∀ r2 : Int32, r2 = (f_Ma_fromTop S 1) → (p_Ma_fromTop S 0) ∧ ((∀ r5 : Int32, r5 = (f_Ma_fromTop S 0) → (p_Ma_put S ((32 + (gI S 4 5)) - 2) r5) ∧ ((∀ S8 : xS, S8 = (f_Ma_put S ((32 + (gI S 4 5)) - 2) r5).2 → (p_Ma_put S8 ((32 + (gI S8 4 5)) - 1) r2) ∧ ((∀ S11 : xS, S11 = (f_Ma_put S8 ((32 + (gI S8 4 5)) - 1) r2).2 → True))))))))
abbrev rm_Ma_exchange : Room := { frames := 3, cells := 0, slots := 0, locals := 63 }
set_option maxHeartbeats 4000000 in
set_option maxRecDepth 100000 in
theorem c_Ma_exchange (l : Launch) (D : va_G) (aC : Nat → ClassId) (ad : Nat → Nat) (n : Nat) (hn : 124 ≤ n) (c0 : Nat → va_E) (S : xS)   (hp : p_Ma_exchange S ) : px_M l y_Ma_exchange (Cond.code y_Ma_exchange b_Ma_exchange 3 none :: WS) rm_Ma_exchange GG D CLS (TYS aC) [.ref (ad 1)] ad (xe aC ad S c0) n none (xe aC ad (f_Ma_exchange S).2 c0) := by
  obtain ⟨F, hF⟩ : ∃ F, F = f_Ma_exchange S := ⟨_, rfl⟩
  rw [← hF]
  unfold f_Ma_exchange at hF
  refine px_start GG_k (by decide) (Nat.le_of_ble_eq_true rfl) ?_
  intro p e s m args below meth cd X hr hk
  refine j_L (L' := [(0, .ref (ad 1))]) rfl ?_
  unfold p_Ma_exchange at hp
  refine j_aload_n X d_Ma_exchange_0 0 rfl ?_
  refine j_iconst X (v := 1) d_Ma_exchange_1 (by decide) ?_
  obtain ⟨o1, hp⟩ := hp
  refine j_callV (st := []) X 1 (by omega) hY_Ma_fromTop (c_Ma_fromTop l D aC ad n hn c0 S 1  o1) mw_232 hI_Ma_fromTop hS_Ma_fromTop x_Ma rfl rfl rfl (Nat.le_of_ble_eq_true rfl) d_Ma_exchange_2 rfl rfl ⟨by decide, by decide⟩ ⟨Nat.zero_le _, Nat.zero_le _⟩ (j_st (st' := [.int (f_Ma_fromTop S 1)]) rfl ?_)
  refine j_topi (fun r2 e3 => ?_)
  replace hp := hp r2 e3
  replace hF := hF.trans (px_let_eq e3)
  refine j_istore_n X d_Ma_exchange_5 [(1, .int r2), (0, .ref (ad 1))] (by decide) rfl ?_
  refine j_aload_n X d_Ma_exchange_6 1 rfl ?_
  refine j_iconst X (v := 0) d_Ma_exchange_7 (by decide) ?_
  obtain ⟨o4, hp⟩ := hp
  refine j_callV (st := []) X 1 (by omega) hY_Ma_fromTop (c_Ma_fromTop l D aC ad n hn c0 S 0  o4) mw_232 hI_Ma_fromTop hS_Ma_fromTop x_Ma rfl rfl rfl (Nat.le_of_ble_eq_true rfl) d_Ma_exchange_8 rfl rfl ⟨by decide, by decide⟩ ⟨Nat.zero_le _, Nat.zero_le _⟩ (j_st (st' := [.int (f_Ma_fromTop S 0)]) rfl ?_)
  refine j_topi (fun r5 e6 => ?_)
  replace hp := hp r5 e6
  replace hF := hF.trans (px_let_eq e6)
  refine j_istore_n X d_Ma_exchange_11 [(2, .int r5), (1, .int r2), (0, .ref (ad 1))] (by decide) rfl ?_
  refine j_aload_n X d_Ma_exchange_12 2 rfl ?_
  refine j_bipush X (v := 32) d_Ma_exchange_13 (by decide) ?_
  refine j_aload_n X d_Ma_exchange_15 2 rfl ?_
  refine j_get X fd_Ma_23_Ma 1 (by omega) x_Ma rfl d_Ma_exchange_16 ?_
  refine j_get X fd_Ma_63_St 4 (k_lt k_4 hn) (x_St k_4) rfl d_Ma_exchange_19 ?_
  refine j_iadd X d_Ma_exchange_22 ?_
  refine j_iconst X (v := 2) d_Ma_exchange_23 (by decide) ?_
  refine j_isub X d_Ma_exchange_24 ?_
  refine j_iload_n X d_Ma_exchange_25 0 rfl ?_
  obtain ⟨o7, hp⟩ := hp
  refine j_callV (st := []) X 1 (by omega) hY_Ma_put (c_Ma_put l D aC ad n hn c0 S ((32 + (gI S 4 5)) - 2) r5  o7) mw_268 hI_Ma_put hS_Ma_put x_Ma rfl rfl rfl (Nat.le_of_ble_eq_true rfl) d_Ma_exchange_26 rfl rfl ⟨by decide, by decide⟩ ⟨Nat.zero_le _, Nat.zero_le _⟩ (j_st (st' := []) rfl ?_)
  refine x_gen (fun S8 e9 => ?_)
  replace hp := hp S8 e9
  replace hF := hF.trans (px_let_eq e9)
  refine j_aload_n X d_Ma_exchange_29 2 rfl ?_
  refine j_bipush X (v := 32) d_Ma_exchange_30 (by decide) ?_
  refine j_aload_n X d_Ma_exchange_32 2 rfl ?_
  refine j_get X fd_Ma_23_Ma 1 (by omega) x_Ma rfl d_Ma_exchange_33 ?_
  refine j_get X fd_Ma_63_St 4 (k_lt k_4 hn) (x_St k_4) rfl d_Ma_exchange_36 ?_
  refine j_iadd X d_Ma_exchange_39 ?_
  refine j_iconst X (v := 1) d_Ma_exchange_40 (by decide) ?_
  refine j_isub X d_Ma_exchange_41 ?_
  refine j_iload_n X d_Ma_exchange_42 1 rfl ?_
  obtain ⟨o10, hp⟩ := hp
  refine j_callV (st := []) X 1 (by omega) hY_Ma_put (c_Ma_put l D aC ad n hn c0 S8 ((32 + (gI S8 4 5)) - 1) r2  o10) mw_268 hI_Ma_put hS_Ma_put x_Ma rfl rfl rfl (Nat.le_of_ble_eq_true rfl) d_Ma_exchange_43 rfl rfl ⟨by decide, by decide⟩ ⟨Nat.zero_le _, Nat.zero_le _⟩ (j_st (st' := []) rfl ?_)
  refine x_gen (fun S11 e12 => ?_)
  replace hp := hp S11 e12
  replace hF := hF.trans (px_let_eq e12)
  exact j_vret X hr hk rfl (by rw [hF]) d_Ma_exchange_46
def f_Ma_load (S : xS)  : Int32 × xS := px_let (f_Ma_fromTop S 0) (fun r2 : Int32 => px_let (f_RM_within r2 32) (fun r4 : Int32 => if r4 = 0 then ((0 : Int32), S) else px_let (sI S 4 5 ((gI S 4 5) - 1)) (fun S7 : xS => px_let ((f_Ma_push S7 (gR S7 (4 + 1) r2.toNatClampNeg)).2) (fun S11 : xS => ((0 : Int32), S11)))))
def p_Ma_load (S : xS)  : Prop := (p_Ma_fromTop S 0) ∧ ((∀ r2 : Int32, r2 = (f_Ma_fromTop S 0) → (∀ r4 : Int32, r4 = (f_RM_within r2 32) → (r4 = 0 → True) ∧ (¬ r4 = 0 → (∀ S7 : xS, S7 = sI S 4 5 ((gI S 4 5) - 1) → (vp_in r2 56) ∧ ((p_Ma_push S7 (gR S7 (4 + 1) r2.toNatClampNeg)) ∧ ((∀ S11 : xS, S11 = (f_Ma_push S7 (gR S7 (4 + 1) r2.toNatClampNeg)).2 → True))))))))
abbrev rm_Ma_load : Room := { frames := 3, cells := 0, slots := 0, locals := 65 }
set_option maxHeartbeats 4000000 in
set_option maxRecDepth 100000 in
theorem c_Ma_load (l : Launch) (D : va_G) (aC : Nat → ClassId) (ad : Nat → Nat) (n : Nat) (hn : 124 ≤ n) (c0 : Nat → va_E) (S : xS)   (hp : p_Ma_load S ) : px_M l y_Ma_load (Cond.code y_Ma_load b_Ma_load 2 none :: WS) rm_Ma_load GG D CLS (TYS aC) [.ref (ad 1)] ad (xe aC ad S c0) n none (xe aC ad (f_Ma_load S).2 c0) := by
  obtain ⟨F, hF⟩ : ∃ F, F = f_Ma_load S := ⟨_, rfl⟩
  rw [← hF]
  unfold f_Ma_load at hF
  refine px_start GG_k (by decide) (Nat.le_of_ble_eq_true rfl) ?_
  intro p e s m args below meth cd X hr hk
  refine j_L (L' := [(0, .ref (ad 1))]) rfl ?_
  unfold p_Ma_load at hp
  refine j_aload_n X d_Ma_load_0 0 rfl ?_
  refine j_iconst X (v := 0) d_Ma_load_1 (by decide) ?_
  obtain ⟨o1, hp⟩ := hp
  refine j_callV (st := []) X 1 (by omega) hY_Ma_fromTop (c_Ma_fromTop l D aC ad n hn c0 S 0  o1) mw_232 hI_Ma_fromTop hS_Ma_fromTop x_Ma rfl rfl rfl (Nat.le_of_ble_eq_true rfl) d_Ma_load_2 rfl rfl ⟨by decide, by decide⟩ ⟨Nat.zero_le _, Nat.zero_le _⟩ (j_st (st' := [.int (f_Ma_fromTop S 0)]) rfl ?_)
  refine j_topi (fun r2 e3 => ?_)
  replace hp := hp r2 e3
  replace hF := hF.trans (px_let_eq e3)
  refine j_istore_n X d_Ma_load_5 [(1, .int r2), (0, .ref (ad 1))] (by decide) rfl ?_
  refine j_iload_n X d_Ma_load_6 0 rfl ?_
  refine j_bipush X (v := 32) d_Ma_load_7 (by decide) ?_
  refine j_callPN (st := []) X hY_RM_within (c_RM_within l r2 32 ) X.2.2.2.2.2.2.1 hT_RM_within rfl rfl (Nat.le_of_ble_eq_true rfl) d_Ma_load_9 rfl rfl ⟨by decide, by decide⟩ ⟨Nat.zero_le _, Nat.zero_le _⟩ (j_st (st' := [.int (f_RM_within r2 32)]) rfl ?_)
  refine j_topi (fun r4 e5 => ?_)
  replace hp := hp r4 e5
  replace hF := hF.trans (px_let_eq e5)
  refine j_if_eq X (tgt := 41) d_Ma_load_12 (by decide) (fun h6 => ?_) (fun h6 => ?_)
  · replace hp := hp.1 h6
    replace hF := hF.trans (if_pos h6)
    exact j_vret X hr hk rfl (by rw [hF]) d_Ma_load_41
  · replace hp := hp.2 h6
    replace hF := hF.trans (if_neg h6)
    refine j_aload_n X d_Ma_load_15 1 rfl ?_
    refine j_get X fd_Ma_23_Ma 1 (by omega) x_Ma rfl d_Ma_load_16 ?_
    refine j_dup X d_Ma_load_19 rfl ?_
    refine j_get X fd_Ma_63_St 4 (k_lt k_4 hn) (x_St k_4) rfl d_Ma_load_20 ?_
    refine j_iconst X (v := 1) d_Ma_load_23 (by decide) ?_
    refine j_isub X d_Ma_load_24 ?_
    refine j_put X fp_Ma_63_St 4 (k_lt k_4 hn) (x_St k_4) (Nat.le_of_ble_eq_true rfl) rfl rfl d_Ma_load_25 (j_w (x_putSt_5 k_4) ?_)
    refine x_gen (fun S7 e8 => ?_)
    replace hp := hp S7 e8
    replace hF := hF.trans (px_let_eq e8)
    refine j_aload_n X d_Ma_load_28 1 rfl ?_
    refine j_aload_n X d_Ma_load_29 1 rfl ?_
    refine j_get X fd_Ma_23_Ma 1 (by omega) x_Ma rfl d_Ma_load_30 ?_
    refine j_get X fd_Ma_126_St 4 (k_lt k_4 hn) (x_St k_4) rfl d_Ma_load_33 ?_
    refine j_iload_n X d_Ma_load_36 0 rfl ?_
    obtain ⟨o9, hp⟩ := hp
    refine j_iald X (4 + 1) 0 (k_lt1 k_4 hn) (x_mem k_4) rfl o9 d_Ma_load_37 ?_
    obtain ⟨o10, hp⟩ := hp
    refine j_callV (st := []) X 1 (by omega) hY_Ma_push (c_Ma_push l D aC ad n hn c0 S7 (gR S7 (4 + 1) r2.toNatClampNeg)  o10) mw_264 hI_Ma_push hS_Ma_push x_Ma rfl rfl rfl (Nat.le_of_ble_eq_true rfl) d_Ma_load_38 rfl rfl ⟨by decide, by decide⟩ ⟨Nat.zero_le _, Nat.zero_le _⟩ (j_st (st' := []) rfl ?_)
    refine x_gen (fun S11 e12 => ?_)
    replace hp := hp S11 e12
    replace hF := hF.trans (px_let_eq e12)
    exact j_vret X hr hk rfl (by rw [hF]) d_Ma_load_41
def f_Ma_store (S : xS)  : Int32 × xS := px_let (f_Ma_fromTop S 0) (fun r2 : Int32 => px_let (f_Ma_fromTop S 1) (fun r5 : Int32 => px_let (f_RM_within r2 32) (fun r7 : Int32 => if r7 = 0 then ((0 : Int32), S) else if (gR S (4 + 1) r2.toNatClampNeg) = r5 then px_let (sI S 4 6 (-1)) (fun S12 : xS => px_let ((f_Ma_put S12 r2 r5).2) (fun S15 : xS => px_let (sI S15 4 5 ((gI S15 4 5) - 2)) (fun S17 : xS => ((0 : Int32), S17)))) else px_let (sI S 4 6 r2) (fun S19 : xS => px_let ((f_Ma_put S19 r2 r5).2) (fun S22 : xS => px_let (sI S22 4 5 ((gI S22 4 5) - 2)) (fun S24 : xS => ((0 : Int32), S24)))))))
def p_Ma_store (S : xS)  : Prop := (p_Ma_fromTop S 0) ∧ ((∀ r2 : Int32, r2 = (f_Ma_fromTop S 0) → (p_Ma_fromTop S 1) ∧ ((∀ r5 : Int32, r5 = (f_Ma_fromTop S 1) → (∀ r7 : Int32, r7 = (f_RM_within r2 32) → (r7 = 0 → True) ∧ (¬ r7 = 0 → (vp_in r2 56) ∧ (((gR S (4 + 1) r2.toNatClampNeg) = r5 → (∀ S12 : xS, S12 = sI S 4 6 (-1) → (p_Ma_put S12 r2 r5) ∧ ((∀ S15 : xS, S15 = (f_Ma_put S12 r2 r5).2 → (∀ S17 : xS, S17 = sI S15 4 5 ((gI S15 4 5) - 2) → True))))) ∧ (¬ (gR S (4 + 1) r2.toNatClampNeg) = r5 → (∀ S19 : xS, S19 = sI S 4 6 r2 → (p_Ma_put S19 r2 r5) ∧ ((∀ S22 : xS, S22 = (f_Ma_put S19 r2 r5).2 → (∀ S24 : xS, S24 = sI S22 4 5 ((gI S22 4 5) - 2) → True))))))))))))
abbrev rm_Ma_store : Room := { frames := 3, cells := 0, slots := 0, locals := 63 }
set_option maxHeartbeats 4000000 in
set_option maxRecDepth 100000 in
theorem c_Ma_store (l : Launch) (D : va_G) (aC : Nat → ClassId) (ad : Nat → Nat) (n : Nat) (hn : 124 ≤ n) (c0 : Nat → va_E) (S : xS)   (hp : p_Ma_store S ) : px_M l y_Ma_store (Cond.code y_Ma_store b_Ma_store 3 none :: WS) rm_Ma_store GG D CLS (TYS aC) [.ref (ad 1)] ad (xe aC ad S c0) n none (xe aC ad (f_Ma_store S).2 c0) := by
  obtain ⟨F, hF⟩ : ∃ F, F = f_Ma_store S := ⟨_, rfl⟩
  rw [← hF]
  unfold f_Ma_store at hF
  refine px_start GG_k (by decide) (Nat.le_of_ble_eq_true rfl) ?_
  intro p e s m args below meth cd X hr hk
  refine j_L (L' := [(0, .ref (ad 1))]) rfl ?_
  unfold p_Ma_store at hp
  refine j_aload_n X d_Ma_store_0 0 rfl ?_
  refine j_iconst X (v := 0) d_Ma_store_1 (by decide) ?_
  obtain ⟨o1, hp⟩ := hp
  refine j_callV (st := []) X 1 (by omega) hY_Ma_fromTop (c_Ma_fromTop l D aC ad n hn c0 S 0  o1) mw_232 hI_Ma_fromTop hS_Ma_fromTop x_Ma rfl rfl rfl (Nat.le_of_ble_eq_true rfl) d_Ma_store_2 rfl rfl ⟨by decide, by decide⟩ ⟨Nat.zero_le _, Nat.zero_le _⟩ (j_st (st' := [.int (f_Ma_fromTop S 0)]) rfl ?_)
  refine j_topi (fun r2 e3 => ?_)
  replace hp := hp r2 e3
  replace hF := hF.trans (px_let_eq e3)
  refine j_istore_n X d_Ma_store_5 [(1, .int r2), (0, .ref (ad 1))] (by decide) rfl ?_
  refine j_aload_n X d_Ma_store_6 1 rfl ?_
  refine j_iconst X (v := 1) d_Ma_store_7 (by decide) ?_
  obtain ⟨o4, hp⟩ := hp
  refine j_callV (st := []) X 1 (by omega) hY_Ma_fromTop (c_Ma_fromTop l D aC ad n hn c0 S 1  o4) mw_232 hI_Ma_fromTop hS_Ma_fromTop x_Ma rfl rfl rfl (Nat.le_of_ble_eq_true rfl) d_Ma_store_8 rfl rfl ⟨by decide, by decide⟩ ⟨Nat.zero_le _, Nat.zero_le _⟩ (j_st (st' := [.int (f_Ma_fromTop S 1)]) rfl ?_)
  refine j_topi (fun r5 e6 => ?_)
  replace hp := hp r5 e6
  replace hF := hF.trans (px_let_eq e6)
  refine j_istore_n X d_Ma_store_11 [(2, .int r5), (1, .int r2), (0, .ref (ad 1))] (by decide) rfl ?_
  refine j_iload_n X d_Ma_store_12 1 rfl ?_
  refine j_bipush X (v := 32) d_Ma_store_13 (by decide) ?_
  refine j_callPN (st := []) X hY_RM_within (c_RM_within l r2 32 ) X.2.2.2.2.2.2.1 hT_RM_within rfl rfl (Nat.le_of_ble_eq_true rfl) d_Ma_store_15 rfl rfl ⟨by decide, by decide⟩ ⟨Nat.zero_le _, Nat.zero_le _⟩ (j_st (st' := [.int (f_RM_within r2 32)]) rfl ?_)
  refine j_topi (fun r7 e8 => ?_)
  replace hp := hp r7 e8
  replace hF := hF.trans (px_let_eq e8)
  refine j_if_eq X (tgt := 65) d_Ma_store_18 (by decide) (fun h9 => ?_) (fun h9 => ?_)
  · replace hp := hp.1 h9
    replace hF := hF.trans (if_pos h9)
    exact j_vret X hr hk rfl (by rw [hF]) d_Ma_store_65
  · replace hp := hp.2 h9
    replace hF := hF.trans (if_neg h9)
    refine j_aload_n X d_Ma_store_21 2 rfl ?_
    refine j_get X fd_Ma_23_Ma 1 (by omega) x_Ma rfl d_Ma_store_22 ?_
    refine j_aload_n X d_Ma_store_25 2 rfl ?_
    refine j_get X fd_Ma_23_Ma 1 (by omega) x_Ma rfl d_Ma_store_26 ?_
    refine j_get X fd_Ma_126_St 4 (k_lt k_4 hn) (x_St k_4) rfl d_Ma_store_29 ?_
    refine j_iload_n X d_Ma_store_32 1 rfl ?_
    obtain ⟨o10, hp⟩ := hp
    refine j_iald X (4 + 1) 0 (k_lt1 k_4 hn) (x_mem k_4) rfl o10 d_Ma_store_33 ?_
    refine j_iload_n X d_Ma_store_34 0 rfl ?_
    refine j_icmp_ne X (tgt := 42) d_Ma_store_35 (by decide) (fun h11 => ?_) (fun h11 => ?_)
    · replace hp := hp.2 h11
      replace hF := hF.trans (if_neg h11)
      refine j_iload_n X d_Ma_store_42 1 rfl ?_
      refine j_put X fp_Ma_88_St 4 (k_lt k_4 hn) (x_St k_4) (Nat.le_of_ble_eq_true rfl) rfl rfl d_Ma_store_43 (j_w (x_putSt_6 k_4) ?_)
      refine x_gen (fun S19 e20 => ?_)
      replace hp := hp S19 e20
      replace hF := hF.trans (px_let_eq e20)
      refine j_aload_n X d_Ma_store_46 2 rfl ?_
      refine j_iload_n X d_Ma_store_47 1 rfl ?_
      refine j_iload_n X d_Ma_store_48 0 rfl ?_
      obtain ⟨o21, hp⟩ := hp
      refine j_callV (st := []) X 1 (by omega) hY_Ma_put (c_Ma_put l D aC ad n hn c0 S19 r2 r5  o21) mw_268 hI_Ma_put hS_Ma_put x_Ma rfl rfl rfl (Nat.le_of_ble_eq_true rfl) d_Ma_store_49 rfl rfl ⟨by decide, by decide⟩ ⟨Nat.zero_le _, Nat.zero_le _⟩ (j_st (st' := []) rfl ?_)
      refine x_gen (fun S22 e23 => ?_)
      replace hp := hp S22 e23
      replace hF := hF.trans (px_let_eq e23)
      refine j_aload_n X d_Ma_store_52 2 rfl ?_
      refine j_get X fd_Ma_23_Ma 1 (by omega) x_Ma rfl d_Ma_store_53 ?_
      refine j_dup X d_Ma_store_56 rfl ?_
      refine j_get X fd_Ma_63_St 4 (k_lt k_4 hn) (x_St k_4) rfl d_Ma_store_57 ?_
      refine j_iconst X (v := 2) d_Ma_store_60 (by decide) ?_
      refine j_isub X d_Ma_store_61 ?_
      refine j_put X fp_Ma_63_St 4 (k_lt k_4 hn) (x_St k_4) (Nat.le_of_ble_eq_true rfl) rfl rfl d_Ma_store_62 (j_w (x_putSt_5 k_4) ?_)
      refine x_gen (fun S24 e25 => ?_)
      replace hp := hp S24 e25
      replace hF := hF.trans (px_let_eq e25)
      exact j_vret X hr hk rfl (by rw [hF]) d_Ma_store_65
    · replace hp := hp.1 h11
      replace hF := hF.trans (if_pos h11)
      refine j_iconst X (v := (-1)) d_Ma_store_38 (by decide) ?_
      refine j_goto X (tgt := 43) d_Ma_store_39 (by decide) ?_
      refine j_put X fp_Ma_88_St 4 (k_lt k_4 hn) (x_St k_4) (Nat.le_of_ble_eq_true rfl) rfl rfl d_Ma_store_43 (j_w (x_putSt_6 k_4) ?_)
      refine x_gen (fun S12 e13 => ?_)
      replace hp := hp S12 e13
      replace hF := hF.trans (px_let_eq e13)
      refine j_aload_n X d_Ma_store_46 2 rfl ?_
      refine j_iload_n X d_Ma_store_47 1 rfl ?_
      refine j_iload_n X d_Ma_store_48 0 rfl ?_
      obtain ⟨o14, hp⟩ := hp
      refine j_callV (st := []) X 1 (by omega) hY_Ma_put (c_Ma_put l D aC ad n hn c0 S12 r2 r5  o14) mw_268 hI_Ma_put hS_Ma_put x_Ma rfl rfl rfl (Nat.le_of_ble_eq_true rfl) d_Ma_store_49 rfl rfl ⟨by decide, by decide⟩ ⟨Nat.zero_le _, Nat.zero_le _⟩ (j_st (st' := []) rfl ?_)
      refine x_gen (fun S15 e16 => ?_)
      replace hp := hp S15 e16
      replace hF := hF.trans (px_let_eq e16)
      refine j_aload_n X d_Ma_store_52 2 rfl ?_
      refine j_get X fd_Ma_23_Ma 1 (by omega) x_Ma rfl d_Ma_store_53 ?_
      refine j_dup X d_Ma_store_56 rfl ?_
      refine j_get X fd_Ma_63_St 4 (k_lt k_4 hn) (x_St k_4) rfl d_Ma_store_57 ?_
      refine j_iconst X (v := 2) d_Ma_store_60 (by decide) ?_
      refine j_isub X d_Ma_store_61 ?_
      refine j_put X fp_Ma_63_St 4 (k_lt k_4 hn) (x_St k_4) (Nat.le_of_ble_eq_true rfl) rfl rfl d_Ma_store_62 (j_w (x_putSt_5 k_4) ?_)
      refine x_gen (fun S17 e18 => ?_)
      replace hp := hp S17 e18
      replace hF := hF.trans (px_let_eq e18)
      exact j_vret X hr hk rfl (by rw [hF]) d_Ma_store_65
def f_Ma_jumpIf (S : xS) (b : Int32) (k : Int32) : Int32 × xS := px_let (sI S 4 5 ((gI S 4 5) - 1)) (fun S1 : xS => if b = 0 then ((0 : Int32), S1) else px_let (sI S1 4 1 k) (fun S4 : xS => ((0 : Int32), S4)))
abbrev rm_Ma_jumpIf : Room := { frames := 0, cells := 0, slots := 0, locals := 0 }
set_option maxHeartbeats 4000000 in
set_option maxRecDepth 100000 in
theorem c_Ma_jumpIf (l : Launch) (D : va_G) (aC : Nat → ClassId) (ad : Nat → Nat) (n : Nat) (hn : 124 ≤ n) (c0 : Nat → va_E) (S : xS) (b : Int32) (k : Int32)   : px_M l y_Ma_jumpIf (Cond.code y_Ma_jumpIf b_Ma_jumpIf 3 none :: WS) rm_Ma_jumpIf GG D CLS (TYS aC) [.ref (ad 1), .int b, .int k] ad (xe aC ad S c0) n none (xe aC ad (f_Ma_jumpIf S b k).2 c0) := by
  obtain ⟨F, hF⟩ : ∃ F, F = f_Ma_jumpIf S b k := ⟨_, rfl⟩
  rw [← hF]
  unfold f_Ma_jumpIf at hF
  refine px_start GG_k (by decide) (Nat.le_of_ble_eq_true rfl) ?_
  intro p e s m args below meth cd X hr hk
  refine j_L (L' := [(0, .ref (ad 1)), (1, .int b), (2, .int k)]) rfl ?_
  refine j_aload_n X d_Ma_jumpIf_0 0 rfl ?_
  refine j_get X fd_Ma_23_Ma 1 (by omega) x_Ma rfl d_Ma_jumpIf_1 ?_
  refine j_dup X d_Ma_jumpIf_4 rfl ?_
  refine j_get X fd_Ma_63_St 4 (k_lt k_4 hn) (x_St k_4) rfl d_Ma_jumpIf_5 ?_
  refine j_iconst X (v := 1) d_Ma_jumpIf_8 (by decide) ?_
  refine j_isub X d_Ma_jumpIf_9 ?_
  refine j_put X fp_Ma_63_St 4 (k_lt k_4 hn) (x_St k_4) (Nat.le_of_ble_eq_true rfl) rfl rfl d_Ma_jumpIf_10 (j_w (x_putSt_5 k_4) ?_)
  refine x_gen (fun S1 e2 => ?_)
  skip
  replace hF := hF.trans (px_let_eq e2)
  refine j_iload_n X d_Ma_jumpIf_13 1 rfl ?_
  refine j_if_eq X (tgt := 25) d_Ma_jumpIf_14 (by decide) (fun h3 => ?_) (fun h3 => ?_)
  · skip
    replace hF := hF.trans (if_pos h3)
    exact j_vret X hr hk rfl (by rw [hF]) d_Ma_jumpIf_25
  · skip
    replace hF := hF.trans (if_neg h3)
    refine j_aload_n X d_Ma_jumpIf_17 0 rfl ?_
    refine j_get X fd_Ma_23_Ma 1 (by omega) x_Ma rfl d_Ma_jumpIf_18 ?_
    refine j_iload_n X d_Ma_jumpIf_21 2 rfl ?_
    refine j_put X fp_Ma_46_St 4 (k_lt k_4 hn) (x_St k_4) (Nat.le_of_ble_eq_true rfl) rfl rfl d_Ma_jumpIf_22 (j_w (x_putSt_1 k_4) ?_)
    refine x_gen (fun S4 e5 => ?_)
    skip
    replace hF := hF.trans (px_let_eq e5)
    exact j_vret X hr hk rfl (by rw [hF]) d_Ma_jumpIf_25
def f_Ma_enter (S : xS) (k : Int32) : Int32 × xS := px_let ((f_Ma_push S (gI S 4 1)).2) (fun S2 : xS => px_let ((f_Ma_push S2 (gI S2 4 2)).2) (fun S5 : xS => px_let (sI S5 4 2 (gI S5 4 5)) (fun S7 : xS => px_let (sI S7 4 1 k) (fun S9 : xS => ((0 : Int32), S9)))))
def p_Ma_enter (S : xS) (k : Int32) : Prop := (p_Ma_push S (gI S 4 1)) ∧ ((∀ S2 : xS, S2 = (f_Ma_push S (gI S 4 1)).2 → (p_Ma_push S2 (gI S2 4 2)) ∧ ((∀ S5 : xS, S5 = (f_Ma_push S2 (gI S2 4 2)).2 → (∀ S7 : xS, S7 = sI S5 4 2 (gI S5 4 5) → (∀ S9 : xS, S9 = sI S7 4 1 k → True))))))
abbrev rm_Ma_enter : Room := { frames := 3, cells := 0, slots := 0, locals := 65 }
set_option maxHeartbeats 4000000 in
set_option maxRecDepth 100000 in
theorem c_Ma_enter (l : Launch) (D : va_G) (aC : Nat → ClassId) (ad : Nat → Nat) (n : Nat) (hn : 124 ≤ n) (c0 : Nat → va_E) (S : xS) (k : Int32)  (hp : p_Ma_enter S k) : px_M l y_Ma_enter (Cond.code y_Ma_enter b_Ma_enter 2 none :: WS) rm_Ma_enter GG D CLS (TYS aC) [.ref (ad 1), .int k] ad (xe aC ad S c0) n none (xe aC ad (f_Ma_enter S k).2 c0) := by
  obtain ⟨F, hF⟩ : ∃ F, F = f_Ma_enter S k := ⟨_, rfl⟩
  rw [← hF]
  unfold f_Ma_enter at hF
  refine px_start GG_k (by decide) (Nat.le_of_ble_eq_true rfl) ?_
  intro p e s m args below meth cd X hr hk
  refine j_L (L' := [(0, .ref (ad 1)), (1, .int k)]) rfl ?_
  unfold p_Ma_enter at hp
  refine j_aload_n X d_Ma_enter_0 0 rfl ?_
  refine j_aload_n X d_Ma_enter_1 0 rfl ?_
  refine j_get X fd_Ma_23_Ma 1 (by omega) x_Ma rfl d_Ma_enter_2 ?_
  refine j_get X fd_Ma_46_St 4 (k_lt k_4 hn) (x_St k_4) rfl d_Ma_enter_5 ?_
  obtain ⟨o1, hp⟩ := hp
  refine j_callV (st := []) X 1 (by omega) hY_Ma_push (c_Ma_push l D aC ad n hn c0 S (gI S 4 1)  o1) mw_264 hI_Ma_push hS_Ma_push x_Ma rfl rfl rfl (Nat.le_of_ble_eq_true rfl) d_Ma_enter_8 rfl rfl ⟨by decide, by decide⟩ ⟨Nat.zero_le _, Nat.zero_le _⟩ (j_st (st' := []) rfl ?_)
  refine x_gen (fun S2 e3 => ?_)
  replace hp := hp S2 e3
  replace hF := hF.trans (px_let_eq e3)
  refine j_aload_n X d_Ma_enter_11 0 rfl ?_
  refine j_aload_n X d_Ma_enter_12 0 rfl ?_
  refine j_get X fd_Ma_23_Ma 1 (by omega) x_Ma rfl d_Ma_enter_13 ?_
  refine j_get X fd_Ma_69_St 4 (k_lt k_4 hn) (x_St k_4) rfl d_Ma_enter_16 ?_
  obtain ⟨o4, hp⟩ := hp
  refine j_callV (st := []) X 1 (by omega) hY_Ma_push (c_Ma_push l D aC ad n hn c0 S2 (gI S2 4 2)  o4) mw_264 hI_Ma_push hS_Ma_push x_Ma rfl rfl rfl (Nat.le_of_ble_eq_true rfl) d_Ma_enter_19 rfl rfl ⟨by decide, by decide⟩ ⟨Nat.zero_le _, Nat.zero_le _⟩ (j_st (st' := []) rfl ?_)
  refine x_gen (fun S5 e6 => ?_)
  replace hp := hp S5 e6
  replace hF := hF.trans (px_let_eq e6)
  refine j_aload_n X d_Ma_enter_22 0 rfl ?_
  refine j_get X fd_Ma_23_Ma 1 (by omega) x_Ma rfl d_Ma_enter_23 ?_
  refine j_aload_n X d_Ma_enter_26 0 rfl ?_
  refine j_get X fd_Ma_23_Ma 1 (by omega) x_Ma rfl d_Ma_enter_27 ?_
  refine j_get X fd_Ma_63_St 4 (k_lt k_4 hn) (x_St k_4) rfl d_Ma_enter_30 ?_
  refine j_put X fp_Ma_69_St 4 (k_lt k_4 hn) (x_St k_4) (Nat.le_of_ble_eq_true rfl) rfl rfl d_Ma_enter_33 (j_w (x_putSt_2 k_4) ?_)
  refine x_gen (fun S7 e8 => ?_)
  replace hp := hp S7 e8
  replace hF := hF.trans (px_let_eq e8)
  refine j_aload_n X d_Ma_enter_36 0 rfl ?_
  refine j_get X fd_Ma_23_Ma 1 (by omega) x_Ma rfl d_Ma_enter_37 ?_
  refine j_iload_n X d_Ma_enter_40 1 rfl ?_
  refine j_put X fp_Ma_46_St 4 (k_lt k_4 hn) (x_St k_4) (Nat.le_of_ble_eq_true rfl) rfl rfl d_Ma_enter_41 (j_w (x_putSt_1 k_4) ?_)
  refine x_gen (fun S9 e10 => ?_)
  replace hp := hp S9 e10
  replace hF := hF.trans (px_let_eq e10)
  exact j_vret X hr hk rfl (by rw [hF]) d_Ma_enter_44
def f_Ma_leave (S : xS)  : Int32 × xS := px_let (f_Ma_fromTop S 0) (fun r2 : Int32 => px_let (sI S 4 5 ((gI S 4 2) - 2)) (fun S4 : xS => px_let (f_St_number S4 4 (gI S4 4 5)) (fun r7 : Int32 => px_let (sI S4 4 1 r7) (fun S9 : xS => px_let (f_St_number S9 4 ((gI S9 4 5) + 1)) (fun r12 : Int32 => px_let (sI S9 4 2 r12) (fun S14 : xS => px_let ((f_Ma_push S14 r2).2) (fun S17 : xS => ((0 : Int32), S17))))))))
def p_Ma_leave (S : xS)  : Prop := (p_Ma_fromTop S 0) ∧ ((∀ r2 : Int32, r2 = (f_Ma_fromTop S 0) → (∀ S4 : xS, S4 = sI S 4 5 ((gI S 4 2) - 2) → (p_St_number S4 4 (gI S4 4 5)) ∧ ((∀ r7 : Int32, r7 = (f_St_number S4 4 (gI S4 4 5)) → (∀ S9 : xS, S9 = sI S4 4 1 r7 → (p_St_number S9 4 ((gI S9 4 5) + 1)) ∧ ((∀ r12 : Int32, r12 = (f_St_number S9 4 ((gI S9 4 5) + 1)) → (∀ S14 : xS, S14 = sI S9 4 2 r12 → (p_Ma_push S14 r2) ∧ ((∀ S17 : xS, S17 = (f_Ma_push S14 r2).2 → True)))))))))))
abbrev rm_Ma_leave : Room := { frames := 3, cells := 0, slots := 0, locals := 65 }
set_option maxHeartbeats 4000000 in
set_option maxRecDepth 100000 in
theorem c_Ma_leave (l : Launch) (D : va_G) (aC : Nat → ClassId) (ad : Nat → Nat) (n : Nat) (hn : 124 ≤ n) (c0 : Nat → va_E) (S : xS)   (hp : p_Ma_leave S ) : px_M l y_Ma_leave (Cond.code y_Ma_leave b_Ma_leave 2 none :: WS) rm_Ma_leave GG D CLS (TYS aC) [.ref (ad 1)] ad (xe aC ad S c0) n none (xe aC ad (f_Ma_leave S).2 c0) := by
  obtain ⟨F, hF⟩ : ∃ F, F = f_Ma_leave S := ⟨_, rfl⟩
  rw [← hF]
  unfold f_Ma_leave at hF
  refine px_start GG_k (by decide) (Nat.le_of_ble_eq_true rfl) ?_
  intro p e s m args below meth cd X hr hk
  refine j_L (L' := [(0, .ref (ad 1))]) rfl ?_
  unfold p_Ma_leave at hp
  refine j_aload_n X d_Ma_leave_0 0 rfl ?_
  refine j_iconst X (v := 0) d_Ma_leave_1 (by decide) ?_
  obtain ⟨o1, hp⟩ := hp
  refine j_callV (st := []) X 1 (by omega) hY_Ma_fromTop (c_Ma_fromTop l D aC ad n hn c0 S 0  o1) mw_232 hI_Ma_fromTop hS_Ma_fromTop x_Ma rfl rfl rfl (Nat.le_of_ble_eq_true rfl) d_Ma_leave_2 rfl rfl ⟨by decide, by decide⟩ ⟨Nat.zero_le _, Nat.zero_le _⟩ (j_st (st' := [.int (f_Ma_fromTop S 0)]) rfl ?_)
  refine j_topi (fun r2 e3 => ?_)
  replace hp := hp r2 e3
  replace hF := hF.trans (px_let_eq e3)
  refine j_istore_n X d_Ma_leave_5 [(1, .int r2), (0, .ref (ad 1))] (by decide) rfl ?_
  refine j_aload_n X d_Ma_leave_6 1 rfl ?_
  refine j_get X fd_Ma_23_Ma 1 (by omega) x_Ma rfl d_Ma_leave_7 ?_
  refine j_aload_n X d_Ma_leave_10 1 rfl ?_
  refine j_get X fd_Ma_23_Ma 1 (by omega) x_Ma rfl d_Ma_leave_11 ?_
  refine j_get X fd_Ma_69_St 4 (k_lt k_4 hn) (x_St k_4) rfl d_Ma_leave_14 ?_
  refine j_iconst X (v := 2) d_Ma_leave_17 (by decide) ?_
  refine j_isub X d_Ma_leave_18 ?_
  refine j_put X fp_Ma_63_St 4 (k_lt k_4 hn) (x_St k_4) (Nat.le_of_ble_eq_true rfl) rfl rfl d_Ma_leave_19 (j_w (x_putSt_5 k_4) ?_)
  refine x_gen (fun S4 e5 => ?_)
  replace hp := hp S4 e5
  replace hF := hF.trans (px_let_eq e5)
  refine j_aload_n X d_Ma_leave_22 1 rfl ?_
  refine j_get X fd_Ma_23_Ma 1 (by omega) x_Ma rfl d_Ma_leave_23 ?_
  refine j_aload_n X d_Ma_leave_26 1 rfl ?_
  refine j_get X fd_Ma_23_Ma 1 (by omega) x_Ma rfl d_Ma_leave_27 ?_
  refine j_aload_n X d_Ma_leave_30 1 rfl ?_
  refine j_get X fd_Ma_23_Ma 1 (by omega) x_Ma rfl d_Ma_leave_31 ?_
  refine j_get X fd_Ma_63_St 4 (k_lt k_4 hn) (x_St k_4) rfl d_Ma_leave_34 ?_
  obtain ⟨o6, hp⟩ := hp
  refine j_callV (st := [.ref (ad 4)]) X 4 (k_lt k_4 hn) hY_St_number (c_St_number l D aC ad n hn c0 S4 4 (gI S4 4 5) k_4 o6) mw_236 hI_St_number hS_St_number (x_St k_4) rfl rfl rfl (Nat.le_of_ble_eq_true rfl) d_Ma_leave_37 rfl rfl ⟨by decide, by decide⟩ ⟨Nat.zero_le _, Nat.zero_le _⟩ (j_st (st' := [.int (f_St_number S4 4 (gI S4 4 5)), .ref (ad 4)]) rfl ?_)
  refine j_topi (fun r7 e8 => ?_)
  replace hp := hp r7 e8
  replace hF := hF.trans (px_let_eq e8)
  refine j_put X fp_Ma_46_St 4 (k_lt k_4 hn) (x_St k_4) (Nat.le_of_ble_eq_true rfl) rfl rfl d_Ma_leave_40 (j_w (x_putSt_1 k_4) ?_)
  refine x_gen (fun S9 e10 => ?_)
  replace hp := hp S9 e10
  replace hF := hF.trans (px_let_eq e10)
  refine j_aload_n X d_Ma_leave_43 1 rfl ?_
  refine j_get X fd_Ma_23_Ma 1 (by omega) x_Ma rfl d_Ma_leave_44 ?_
  refine j_aload_n X d_Ma_leave_47 1 rfl ?_
  refine j_get X fd_Ma_23_Ma 1 (by omega) x_Ma rfl d_Ma_leave_48 ?_
  refine j_aload_n X d_Ma_leave_51 1 rfl ?_
  refine j_get X fd_Ma_23_Ma 1 (by omega) x_Ma rfl d_Ma_leave_52 ?_
  refine j_get X fd_Ma_63_St 4 (k_lt k_4 hn) (x_St k_4) rfl d_Ma_leave_55 ?_
  refine j_iconst X (v := 1) d_Ma_leave_58 (by decide) ?_
  refine j_iadd X d_Ma_leave_59 ?_
  obtain ⟨o11, hp⟩ := hp
  refine j_callV (st := [.ref (ad 4)]) X 4 (k_lt k_4 hn) hY_St_number (c_St_number l D aC ad n hn c0 S9 4 ((gI S9 4 5) + 1) k_4 o11) mw_236 hI_St_number hS_St_number (x_St k_4) rfl rfl rfl (Nat.le_of_ble_eq_true rfl) d_Ma_leave_60 rfl rfl ⟨by decide, by decide⟩ ⟨Nat.zero_le _, Nat.zero_le _⟩ (j_st (st' := [.int (f_St_number S9 4 ((gI S9 4 5) + 1)), .ref (ad 4)]) rfl ?_)
  refine j_topi (fun r12 e13 => ?_)
  replace hp := hp r12 e13
  replace hF := hF.trans (px_let_eq e13)
  refine j_put X fp_Ma_69_St 4 (k_lt k_4 hn) (x_St k_4) (Nat.le_of_ble_eq_true rfl) rfl rfl d_Ma_leave_63 (j_w (x_putSt_2 k_4) ?_)
  refine x_gen (fun S14 e15 => ?_)
  replace hp := hp S14 e15
  replace hF := hF.trans (px_let_eq e15)
  refine j_aload_n X d_Ma_leave_66 1 rfl ?_
  refine j_iload_n X d_Ma_leave_67 0 rfl ?_
  obtain ⟨o16, hp⟩ := hp
  refine j_callV (st := []) X 1 (by omega) hY_Ma_push (c_Ma_push l D aC ad n hn c0 S14 r2  o16) mw_264 hI_Ma_push hS_Ma_push x_Ma rfl rfl rfl (Nat.le_of_ble_eq_true rfl) d_Ma_leave_68 rfl rfl ⟨by decide, by decide⟩ ⟨Nat.zero_le _, Nat.zero_le _⟩ (j_st (st' := []) rfl ?_)
  refine x_gen (fun S17 e18 => ?_)
  replace hp := hp S17 e18
  replace hF := hF.trans (px_let_eq e18)
  exact j_vret X hr hk rfl (by rw [hF]) d_Ma_leave_71
def f_Ma_takeInput (S : xS)  : Int32 × xS := px_let (f_RM_within (gI S 4 4) (gI S 1 4)) (fun r1 : Int32 => if r1 = 0 then ((0 : Int32), S) else px_let ((f_Ma_push S (gR S 3 (gI S 4 4).toNatClampNeg)).2) (fun S6 : xS => px_let (sI S6 4 4 ((gI S6 4 4) + 1)) (fun S8 : xS => ((0 : Int32), S8))))
def p_Ma_takeInput (S : xS)  : Prop := (∀ r1 : Int32, r1 = (f_RM_within (gI S 4 4) (gI S 1 4)) → (r1 = 0 → True) ∧ (¬ r1 = 0 → (vp_in (gI S 4 4) 40) ∧ ((p_Ma_push S (gR S 3 (gI S 4 4).toNatClampNeg)) ∧ ((∀ S6 : xS, S6 = (f_Ma_push S (gR S 3 (gI S 4 4).toNatClampNeg)).2 → (∀ S8 : xS, S8 = sI S6 4 4 ((gI S6 4 4) + 1) → True))))))
abbrev rm_Ma_takeInput : Room := { frames := 3, cells := 0, slots := 0, locals := 65 }
set_option maxHeartbeats 4000000 in
set_option maxRecDepth 100000 in
theorem c_Ma_takeInput (l : Launch) (D : va_G) (aC : Nat → ClassId) (ad : Nat → Nat) (n : Nat) (hn : 124 ≤ n) (c0 : Nat → va_E) (S : xS)   (hp : p_Ma_takeInput S ) : px_M l y_Ma_takeInput (Cond.code y_Ma_takeInput b_Ma_takeInput 1 none :: WS) rm_Ma_takeInput GG D CLS (TYS aC) [.ref (ad 1)] ad (xe aC ad S c0) n none (xe aC ad (f_Ma_takeInput S).2 c0) := by
  obtain ⟨F, hF⟩ : ∃ F, F = f_Ma_takeInput S := ⟨_, rfl⟩
  rw [← hF]
  unfold f_Ma_takeInput at hF
  refine px_start GG_k (by decide) (Nat.le_of_ble_eq_true rfl) ?_
  intro p e s m args below meth cd X hr hk
  refine j_L (L' := [(0, .ref (ad 1))]) rfl ?_
  unfold p_Ma_takeInput at hp
  refine j_aload_n X d_Ma_takeInput_0 0 rfl ?_
  refine j_get X fd_Ma_23_Ma 1 (by omega) x_Ma rfl d_Ma_takeInput_1 ?_
  refine j_get X fd_Ma_60_St 4 (k_lt k_4 hn) (x_St k_4) rfl d_Ma_takeInput_4 ?_
  refine j_aload_n X d_Ma_takeInput_7 0 rfl ?_
  refine j_get X fd_Ma_42_Ma 1 (by omega) x_Ma rfl d_Ma_takeInput_8 ?_
  refine j_callPN (st := []) X hY_RM_within (c_RM_within l (gI S 4 4) (gI S 1 4) ) X.2.2.2.2.2.2.1 hT_RM_within rfl rfl (Nat.le_of_ble_eq_true rfl) d_Ma_takeInput_11 rfl rfl ⟨by decide, by decide⟩ ⟨Nat.zero_le _, Nat.zero_le _⟩ (j_st (st' := [.int (f_RM_within (gI S 4 4) (gI S 1 4))]) rfl ?_)
  refine j_topi (fun r1 e2 => ?_)
  replace hp := hp r1 e2
  replace hF := hF.trans (px_let_eq e2)
  refine j_if_eq X (tgt := 46) d_Ma_takeInput_14 (by decide) (fun h3 => ?_) (fun h3 => ?_)
  · replace hp := hp.1 h3
    replace hF := hF.trans (if_pos h3)
    exact j_vret X hr hk rfl (by rw [hF]) d_Ma_takeInput_46
  · replace hp := hp.2 h3
    replace hF := hF.trans (if_neg h3)
    refine j_aload_n X d_Ma_takeInput_17 0 rfl ?_
    refine j_aload_n X d_Ma_takeInput_18 0 rfl ?_
    refine j_get X fd_Ma_15_Ma 1 (by omega) x_Ma rfl d_Ma_takeInput_19 ?_
    refine j_aload_n X d_Ma_takeInput_22 0 rfl ?_
    refine j_get X fd_Ma_23_Ma 1 (by omega) x_Ma rfl d_Ma_takeInput_23 ?_
    refine j_get X fd_Ma_60_St 4 (k_lt k_4 hn) (x_St k_4) rfl d_Ma_takeInput_26 ?_
    obtain ⟨o4, hp⟩ := hp
    refine j_iald X 3 0 (by omega) x_inp rfl o4 d_Ma_takeInput_29 ?_
    obtain ⟨o5, hp⟩ := hp
    refine j_callV (st := []) X 1 (by omega) hY_Ma_push (c_Ma_push l D aC ad n hn c0 S (gR S 3 (gI S 4 4).toNatClampNeg)  o5) mw_264 hI_Ma_push hS_Ma_push x_Ma rfl rfl rfl (Nat.le_of_ble_eq_true rfl) d_Ma_takeInput_30 rfl rfl ⟨by decide, by decide⟩ ⟨Nat.zero_le _, Nat.zero_le _⟩ (j_st (st' := []) rfl ?_)
    refine x_gen (fun S6 e7 => ?_)
    replace hp := hp S6 e7
    replace hF := hF.trans (px_let_eq e7)
    refine j_aload_n X d_Ma_takeInput_33 0 rfl ?_
    refine j_get X fd_Ma_23_Ma 1 (by omega) x_Ma rfl d_Ma_takeInput_34 ?_
    refine j_dup X d_Ma_takeInput_37 rfl ?_
    refine j_get X fd_Ma_60_St 4 (k_lt k_4 hn) (x_St k_4) rfl d_Ma_takeInput_38 ?_
    refine j_iconst X (v := 1) d_Ma_takeInput_41 (by decide) ?_
    refine j_iadd X d_Ma_takeInput_42 ?_
    refine j_put X fp_Ma_60_St 4 (k_lt k_4 hn) (x_St k_4) (Nat.le_of_ble_eq_true rfl) rfl rfl d_Ma_takeInput_43 (j_w (x_putSt_4 k_4) ?_)
    refine x_gen (fun S8 e9 => ?_)
    replace hp := hp S8 e9
    replace hF := hF.trans (px_let_eq e9)
    exact j_vret X hr hk rfl (by rw [hF]) d_Ma_takeInput_46
def f_Ma_pushRandom (S : xS) (k : Int32) : Int32 × xS := px_let (sI S 4 3 ((1103515245 * (gI S 4 3)) + 12345)) (fun S1 : xS => if 1 ≤ k then px_let ((f_Ma_push S1 ((((gI S1 4 3).toUInt32 >>> ((16 : Int32).toUInt32 &&& Int32.toUInt32 31)).toInt32) - (((gI S1 4 3).toUInt32 >>> ((16 : Int32).toUInt32 &&& Int32.toUInt32 31)).toInt32) / k * k)).2) (fun S6 : xS => ((0 : Int32), S6)) else px_let ((f_Ma_push S1 0).2) (fun S9 : xS => ((0 : Int32), S9)))
def p_Ma_pushRandom (S : xS) (k : Int32) : Prop := (∀ S1 : xS, S1 = sI S 4 3 ((1103515245 * (gI S 4 3)) + 12345) → (1 ≤ k → (¬ k = 0) ∧ ((p_Ma_push S1 ((((gI S1 4 3).toUInt32 >>> ((16 : Int32).toUInt32 &&& Int32.toUInt32 31)).toInt32) - (((gI S1 4 3).toUInt32 >>> ((16 : Int32).toUInt32 &&& Int32.toUInt32 31)).toInt32) / k * k)) ∧ ((∀ S6 : xS, S6 = (f_Ma_push S1 ((((gI S1 4 3).toUInt32 >>> ((16 : Int32).toUInt32 &&& Int32.toUInt32 31)).toInt32) - (((gI S1 4 3).toUInt32 >>> ((16 : Int32).toUInt32 &&& Int32.toUInt32 31)).toInt32) / k * k)).2 → True)))) ∧ (¬ 1 ≤ k → (p_Ma_push S1 0) ∧ ((∀ S9 : xS, S9 = (f_Ma_push S1 0).2 → True))))
abbrev rm_Ma_pushRandom : Room := { frames := 3, cells := 0, slots := 0, locals := 65 }
set_option maxHeartbeats 4000000 in
set_option maxRecDepth 100000 in
theorem c_Ma_pushRandom (l : Launch) (D : va_G) (aC : Nat → ClassId) (ad : Nat → Nat) (n : Nat) (hn : 124 ≤ n) (c0 : Nat → va_E) (S : xS) (k : Int32)  (hp : p_Ma_pushRandom S k) : px_M l y_Ma_pushRandom (Cond.code y_Ma_pushRandom b_Ma_pushRandom 2 none :: WS) rm_Ma_pushRandom GG D CLS (TYS aC) [.ref (ad 1), .int k] ad (xe aC ad S c0) n none (xe aC ad (f_Ma_pushRandom S k).2 c0) := by
  obtain ⟨F, hF⟩ : ∃ F, F = f_Ma_pushRandom S k := ⟨_, rfl⟩
  rw [← hF]
  unfold f_Ma_pushRandom at hF
  refine px_start GG_k (by decide) (Nat.le_of_ble_eq_true rfl) ?_
  intro p e s m args below meth cd X hr hk
  refine j_L (L' := [(0, .ref (ad 1)), (1, .int k)]) rfl ?_
  unfold p_Ma_pushRandom at hp
  refine j_aload_n X d_Ma_pushRandom_0 0 rfl ?_
  refine j_get X fd_Ma_23_Ma 1 (by omega) x_Ma rfl d_Ma_pushRandom_1 ?_
  refine j_ldc X m_const_Ma_138 d_Ma_pushRandom_4 ?_
  refine j_aload_n X d_Ma_pushRandom_6 0 rfl ?_
  refine j_get X fd_Ma_23_Ma 1 (by omega) x_Ma rfl d_Ma_pushRandom_7 ?_
  refine j_get X fd_Ma_139_St 4 (k_lt k_4 hn) (x_St k_4) rfl d_Ma_pushRandom_10 ?_
  refine j_imul X d_Ma_pushRandom_13 ?_
  refine j_sipush X (v := 12345) d_Ma_pushRandom_14 (by decide) ?_
  refine j_iadd X d_Ma_pushRandom_17 ?_
  refine j_put X fp_Ma_139_St 4 (k_lt k_4 hn) (x_St k_4) (Nat.le_of_ble_eq_true rfl) rfl rfl d_Ma_pushRandom_18 (j_w (x_putSt_3 k_4) ?_)
  refine x_gen (fun S1 e2 => ?_)
  replace hp := hp S1 e2
  replace hF := hF.trans (px_let_eq e2)
  refine j_aload_n X d_Ma_pushRandom_21 0 rfl ?_
  refine j_iload_n X d_Ma_pushRandom_22 1 rfl ?_
  refine j_iconst X (v := 1) d_Ma_pushRandom_23 (by decide) ?_
  refine j_icmp_ge X (tgt := 31) d_Ma_pushRandom_24 (by decide) (fun h3 => ?_) (fun h3 => ?_)
  · replace hp := hp.1 h3
    replace hF := hF.trans (if_pos h3)
    refine j_aload_n X d_Ma_pushRandom_31 0 rfl ?_
    refine j_get X fd_Ma_23_Ma 1 (by omega) x_Ma rfl d_Ma_pushRandom_32 ?_
    refine j_get X fd_Ma_139_St 4 (k_lt k_4 hn) (x_St k_4) rfl d_Ma_pushRandom_35 ?_
    refine j_bipush X (v := 16) d_Ma_pushRandom_38 (by decide) ?_
    refine j_iushr X d_Ma_pushRandom_40 rfl ?_
    refine j_iload_n X d_Ma_pushRandom_41 1 rfl ?_
    obtain ⟨o4, hp⟩ := hp
    refine j_irem X d_Ma_pushRandom_42 o4 ?_
    obtain ⟨o5, hp⟩ := hp
    refine j_callV (st := []) X 1 (by omega) hY_Ma_push (c_Ma_push l D aC ad n hn c0 S1 ((((gI S1 4 3).toUInt32 >>> ((16 : Int32).toUInt32 &&& Int32.toUInt32 31)).toInt32) - (((gI S1 4 3).toUInt32 >>> ((16 : Int32).toUInt32 &&& Int32.toUInt32 31)).toInt32) / k * k)  o5) mw_264 hI_Ma_push hS_Ma_push x_Ma rfl rfl rfl (Nat.le_of_ble_eq_true rfl) d_Ma_pushRandom_43 rfl rfl ⟨by decide, by decide⟩ ⟨Nat.zero_le _, Nat.zero_le _⟩ (j_st (st' := []) rfl ?_)
    refine x_gen (fun S6 e7 => ?_)
    replace hp := hp S6 e7
    replace hF := hF.trans (px_let_eq e7)
    exact j_vret X hr hk rfl (by rw [hF]) d_Ma_pushRandom_46
  · replace hp := hp.2 h3
    replace hF := hF.trans (if_neg h3)
    refine j_iconst X (v := 0) d_Ma_pushRandom_27 (by decide) ?_
    refine j_goto X (tgt := 43) d_Ma_pushRandom_28 (by decide) ?_
    obtain ⟨o8, hp⟩ := hp
    refine j_callV (st := []) X 1 (by omega) hY_Ma_push (c_Ma_push l D aC ad n hn c0 S1 0  o8) mw_264 hI_Ma_push hS_Ma_push x_Ma rfl rfl rfl (Nat.le_of_ble_eq_true rfl) d_Ma_pushRandom_43 rfl rfl ⟨by decide, by decide⟩ ⟨Nat.zero_le _, Nat.zero_le _⟩ (j_st (st' := []) rfl ?_)
    refine x_gen (fun S9 e10 => ?_)
    replace hp := hp S9 e10
    replace hF := hF.trans (px_let_eq e10)
    exact j_vret X hr hk rfl (by rw [hF]) d_Ma_pushRandom_46
def f_Ma_addInput (S : xS) (v : Int32) : Int32 × xS := if (gI S 1 4) < 40 then px_let (sR S 3 (upd (gR S 3) (gI S 1 4).toNatClampNeg v)) (fun S2 : xS => px_let (sI S2 1 4 ((gI S2 1 4) + 1)) (fun S5 : xS => (gI S5 1 4, S5))) else ((-1), S)
def p_Ma_addInput (S : xS) (v : Int32) : Prop := ((gI S 1 4) < 40 → (vp_in (gI S 1 4) 40) ∧ ((∀ S2 : xS, S2 = sR S 3 (upd (gR S 3) (gI S 1 4).toNatClampNeg v) → (∀ S5 : xS, S5 = sI S2 1 4 ((gI S2 1 4) + 1) → True)))) ∧ (¬ (gI S 1 4) < 40 → True)
abbrev rm_Ma_addInput : Room := { frames := 0, cells := 0, slots := 0, locals := 0 }
set_option maxHeartbeats 4000000 in
set_option maxRecDepth 100000 in
theorem c_Ma_addInput (l : Launch) (D : va_G) (aC : Nat → ClassId) (ad : Nat → Nat) (n : Nat) (hn : 124 ≤ n) (c0 : Nat → va_E) (S : xS) (v : Int32)  (hp : p_Ma_addInput S v) : px_M l y_Ma_addInput (Cond.code y_Ma_addInput b_Ma_addInput 2 (some .int) :: WS) rm_Ma_addInput GG D CLS (TYS aC) [.ref (ad 1), .int v] ad (xe aC ad S c0) n (some (.int (f_Ma_addInput S v).1)) (xe aC ad (f_Ma_addInput S v).2 c0) := by
  obtain ⟨F, hF⟩ : ∃ F, F = f_Ma_addInput S v := ⟨_, rfl⟩
  rw [← hF]
  unfold f_Ma_addInput at hF
  refine px_start GG_k (by decide) (Nat.le_of_ble_eq_true rfl) ?_
  intro p e s m args below meth cd X hr hk
  refine j_L (L' := [(0, .ref (ad 1)), (1, .int v)]) rfl ?_
  unfold p_Ma_addInput at hp
  refine j_aload_n X d_Ma_addInput_0 0 rfl ?_
  refine j_get X fd_Ma_42_Ma 1 (by omega) x_Ma rfl d_Ma_addInput_1 ?_
  refine j_bipush X (v := 40) d_Ma_addInput_4 (by decide) ?_
  refine j_icmp_lt X (tgt := 11) d_Ma_addInput_6 (by decide) (fun h1 => ?_) (fun h1 => ?_)
  · replace hp := hp.1 h1
    replace hF := hF.trans (if_pos h1)
    refine j_aload_n X d_Ma_addInput_11 0 rfl ?_
    refine j_get X fd_Ma_15_Ma 1 (by omega) x_Ma rfl d_Ma_addInput_12 ?_
    refine j_aload_n X d_Ma_addInput_15 0 rfl ?_
    refine j_get X fd_Ma_42_Ma 1 (by omega) x_Ma rfl d_Ma_addInput_16 ?_
    refine j_iload_n X d_Ma_addInput_19 1 rfl ?_
    obtain ⟨o4, hp⟩ := hp
    refine j_iast X 3 0 (by omega) x_inp rfl o4 d_Ma_addInput_20 (j_w (x_ast_inp) ?_)
    refine x_gen (fun S2 e3 => ?_)
    replace hp := hp S2 e3
    replace hF := hF.trans (px_let_eq e3)
    refine j_aload_n X d_Ma_addInput_21 0 rfl ?_
    refine j_dup X d_Ma_addInput_22 rfl ?_
    refine j_get X fd_Ma_42_Ma 1 (by omega) x_Ma rfl d_Ma_addInput_23 ?_
    refine j_iconst X (v := 1) d_Ma_addInput_26 (by decide) ?_
    refine j_iadd X d_Ma_addInput_27 ?_
    refine j_put X fp_Ma_42_Ma 1 (by omega) x_Ma (Nat.le_of_ble_eq_true rfl) rfl rfl d_Ma_addInput_28 (j_w (x_putMa_4) ?_)
    refine x_gen (fun S5 e6 => ?_)
    replace hp := hp S5 e6
    replace hF := hF.trans (px_let_eq e6)
    refine j_aload_n X d_Ma_addInput_31 0 rfl ?_
    refine j_get X fd_Ma_42_Ma 1 (by omega) x_Ma rfl d_Ma_addInput_32 ?_
    exact j_iret X hr hk (by rw [hF]) (by rw [hF]) d_Ma_addInput_35
  · replace hp := hp.2 h1
    replace hF := hF.trans (if_neg h1)
    refine j_iconst X (v := (-1)) d_Ma_addInput_9 (by decide) ?_
    exact j_iret X hr hk (by rw [hF]) (by rw [hF]) d_Ma_addInput_10
