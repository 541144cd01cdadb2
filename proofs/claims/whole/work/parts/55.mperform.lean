def f_Mo_push (S : xS) (v : Int32) : Int32 × xS := px_let (sR S 130 (upd (gR S 130) (gI S 124 17).toNatClampNeg v)) (fun S1 : xS => px_let (sI S1 124 17 ((gI S1 124 17) + 1)) (fun S4 : xS => ((0 : Int32), S4)))
def p_Mo_push (S : xS) (v : Int32) : Prop := (vp_in (gI S 124 17) 24) ∧ ((∀ S1 : xS, S1 = sR S 130 (upd (gR S 130) (gI S 124 17).toNatClampNeg v) → (∀ S4 : xS, S4 = sI S1 124 17 ((gI S1 124 17) + 1) → True)))
abbrev rm_Mo_push : Room := { frames := 0, cells := 0, slots := 0, locals := 0 }
set_option maxHeartbeats 4000000 in
set_option maxRecDepth 100000 in
theorem c_Mo_push (l : Launch) (D : va_G) (aC : Nat → ClassId) (ad : Nat → Nat) (n : Nat) (hn : 135 ≤ n) (c0 : Nat → va_E) (S : xS) (v : Int32)  (hp : p_Mo_push S v) : px_M l y_Mo_push (Cond.code y_Mo_push b_Mo_push 2 none :: WS) rm_Mo_push GG D CLS (TYS aC) [.ref (ad 124), .int v] ad (ye aC ad S c0) n none (ye aC ad (f_Mo_push S v).2 c0) := by
  obtain ⟨F, hF⟩ : ∃ F, F = f_Mo_push S v := ⟨_, rfl⟩
  rw [← hF]
  unfold f_Mo_push at hF
  refine px_start GG_k (by decide) (Nat.le_of_ble_eq_true rfl) ?_
  intro p e s m args below meth cd X hr hk
  refine j_L (L' := [(0, .ref (ad 124)), (1, .int v)]) rfl ?_
  unfold p_Mo_push at hp
  refine j_aload_n X d_Mo_push_0 0 rfl ?_
  refine j_get X fd_Mo_26_Mo 124 (by omega) y_Mo rfl d_Mo_push_1 ?_
  refine j_aload_n X d_Mo_push_4 0 rfl ?_
  refine j_get X fd_Mo_75_Mo 124 (by omega) y_Mo rfl d_Mo_push_5 ?_
  refine j_iload_n X d_Mo_push_8 1 rfl ?_
  obtain ⟨o3, hp⟩ := hp
  refine j_iast X 130 0 (by omega) y_stack rfl o3 d_Mo_push_9 (j_w (y_ast_stack) ?_)
  refine y_gen (fun S1 e2 => ?_)
  replace hp := hp S1 e2
  replace hF := hF.trans (px_let_eq e2)
  refine j_aload_n X d_Mo_push_10 0 rfl ?_
  refine j_dup X d_Mo_push_11 rfl ?_
  refine j_get X fd_Mo_75_Mo 124 (by omega) y_Mo rfl d_Mo_push_12 ?_
  refine j_iconst X (v := 1) d_Mo_push_15 (by decide) ?_
  refine j_iadd X d_Mo_push_16 ?_
  refine j_put X fp_Mo_75_Mo 124 (by omega) y_Mo (Nat.le_of_ble_eq_true rfl) rfl rfl d_Mo_push_17 (j_w (y_put_17) ?_)
  refine y_gen (fun S4 e5 => ?_)
  replace hp := hp S4 e5
  replace hF := hF.trans (px_let_eq e5)
  exact j_vret X hr hk rfl (by rw [hF]) d_Mo_push_20
def f_Mo_pop (S : xS)  : Int32 × xS := px_let (sI S 124 17 ((gI S 124 17) - 1)) (fun S1 : xS => (gR S1 130 (gI S1 124 17).toNatClampNeg, S1))
def p_Mo_pop (S : xS)  : Prop := (∀ S1 : xS, S1 = sI S 124 17 ((gI S 124 17) - 1) → (vp_in (gI S1 124 17) 24) ∧ (True))
abbrev rm_Mo_pop : Room := { frames := 0, cells := 0, slots := 0, locals := 0 }
set_option maxHeartbeats 4000000 in
set_option maxRecDepth 100000 in
theorem c_Mo_pop (l : Launch) (D : va_G) (aC : Nat → ClassId) (ad : Nat → Nat) (n : Nat) (hn : 135 ≤ n) (c0 : Nat → va_E) (S : xS)   (hp : p_Mo_pop S ) : px_M l y_Mo_pop (Cond.code y_Mo_pop b_Mo_pop 1 (some .int) :: WS) rm_Mo_pop GG D CLS (TYS aC) [.ref (ad 124)] ad (ye aC ad S c0) n (some (.int (f_Mo_pop S).1)) (ye aC ad (f_Mo_pop S).2 c0) := by
  obtain ⟨F, hF⟩ : ∃ F, F = f_Mo_pop S := ⟨_, rfl⟩
  rw [← hF]
  unfold f_Mo_pop at hF
  refine px_start GG_k (by decide) (Nat.le_of_ble_eq_true rfl) ?_
  intro p e s m args below meth cd X hr hk
  refine j_L (L' := [(0, .ref (ad 124))]) rfl ?_
  unfold p_Mo_pop at hp
  refine j_aload_n X d_Mo_pop_0 0 rfl ?_
  refine j_dup X d_Mo_pop_1 rfl ?_
  refine j_get X fd_Mo_75_Mo 124 (by omega) y_Mo rfl d_Mo_pop_2 ?_
  refine j_iconst X (v := 1) d_Mo_pop_5 (by decide) ?_
  refine j_isub X d_Mo_pop_6 ?_
  refine j_put X fp_Mo_75_Mo 124 (by omega) y_Mo (Nat.le_of_ble_eq_true rfl) rfl rfl d_Mo_pop_7 (j_w (y_put_17) ?_)
  refine y_gen (fun S1 e2 => ?_)
  replace hp := hp S1 e2
  replace hF := hF.trans (px_let_eq e2)
  refine j_aload_n X d_Mo_pop_10 0 rfl ?_
  refine j_get X fd_Mo_26_Mo 124 (by omega) y_Mo rfl d_Mo_pop_11 ?_
  refine j_aload_n X d_Mo_pop_14 0 rfl ?_
  refine j_get X fd_Mo_75_Mo 124 (by omega) y_Mo rfl d_Mo_pop_15 ?_
  obtain ⟨o3, hp⟩ := hp
  refine j_iald X 130 0 (by omega) y_stack rfl o3 d_Mo_pop_18 ?_
  exact j_iret X hr hk (by rw [hF]) (by rw [hF]) d_Mo_pop_19
def f_Mo_branch (S : xS) (o : Int32) (k : Int32) : Int32 × xS := if o = 12 then if o = 12 then px_let (sI S 124 13 k) (fun S3 : xS => ((0 : Int32), S3)) else if o = 13 then px_let (sI S 124 13 k) (fun S7 : xS => ((0 : Int32), S7)) else if o = 14 then ((0 : Int32), S) else ((0 : Int32), S) else px_let ((f_Mo_pop S ).2) (fun S12 : xS => px_let ((f_Mo_pop S).1) (fun r14 : Int32 => if o = 12 then px_let (sI S12 124 13 k) (fun S17 : xS => ((0 : Int32), S17)) else if o = 13 then if r14 = 0 then px_let (sI S12 124 13 k) (fun S21 : xS => ((0 : Int32), S21)) else if o = 14 then if 0 ≤ r14 then ((0 : Int32), S12) else px_let (sI S12 124 13 k) (fun S25 : xS => ((0 : Int32), S25)) else ((0 : Int32), S12) else if o = 14 then if 0 ≤ r14 then ((0 : Int32), S12) else px_let (sI S12 124 13 k) (fun S29 : xS => ((0 : Int32), S29)) else ((0 : Int32), S12)))
def p_Mo_branch (S : xS) (o : Int32) (k : Int32) : Prop := (o = 12 → (o = 12 → (∀ S3 : xS, S3 = sI S 124 13 k → True)) ∧ (¬ o = 12 → (o = 13 → (∀ S7 : xS, S7 = sI S 124 13 k → True)) ∧ (¬ o = 13 → (o = 14 → True) ∧ (¬ o = 14 → True)))) ∧ (¬ o = 12 → (p_Mo_pop S) ∧ ((∀ S12 : xS, S12 = (f_Mo_pop S ).2 → (∀ r14 : Int32, r14 = ((f_Mo_pop S).1) → (o = 12 → (∀ S17 : xS, S17 = sI S12 124 13 k → True)) ∧ (¬ o = 12 → (o = 13 → (r14 = 0 → (∀ S21 : xS, S21 = sI S12 124 13 k → True)) ∧ (¬ r14 = 0 → (o = 14 → (0 ≤ r14 → True) ∧ (¬ 0 ≤ r14 → (∀ S25 : xS, S25 = sI S12 124 13 k → True))) ∧ (¬ o = 14 → True))) ∧ (¬ o = 13 → (o = 14 → (0 ≤ r14 → True) ∧ (¬ 0 ≤ r14 → (∀ S29 : xS, S29 = sI S12 124 13 k → True))) ∧ (¬ o = 14 → True)))))))
abbrev rm_Mo_branch : Room := { frames := 1, cells := 0, slots := 0, locals := 20 }
set_option maxHeartbeats 4000000 in
set_option maxRecDepth 100000 in
theorem c_Mo_branch (l : Launch) (D : va_G) (aC : Nat → ClassId) (ad : Nat → Nat) (n : Nat) (hn : 135 ≤ n) (c0 : Nat → va_E) (S : xS) (o : Int32) (k : Int32)  (hp : p_Mo_branch S o k) : px_M l y_Mo_branch (Cond.code y_Mo_branch b_Mo_branch 4 none :: WS) rm_Mo_branch GG D CLS (TYS aC) [.ref (ad 124), .int o, .int k] ad (ye aC ad S c0) n none (ye aC ad (f_Mo_branch S o k).2 c0) := by
  obtain ⟨F, hF⟩ : ∃ F, F = f_Mo_branch S o k := ⟨_, rfl⟩
  rw [← hF]
  unfold f_Mo_branch at hF
  refine px_start GG_k (by decide) (Nat.le_of_ble_eq_true rfl) ?_
  intro p e s m args below meth cd X hr hk
  refine j_L (L' := [(0, .ref (ad 124)), (1, .int o), (2, .int k)]) rfl ?_
  unfold p_Mo_branch at hp
  refine j_iload_n X d_Mo_branch_0 1 rfl ?_
  refine j_bipush X (v := 12) d_Mo_branch_1 (by decide) ?_
  refine j_icmp_ne X (tgt := 10) d_Mo_branch_3 (by decide) (fun h1 => ?_) (fun h1 => ?_)
  · replace hp := hp.2 h1
    replace hF := hF.trans (if_neg h1)
    refine j_aload_n X d_Mo_branch_10 0 rfl ?_
    obtain ⟨o11, hp⟩ := hp
    refine j_callV (st := []) X 124 (by omega) hY_Mo_pop (c_Mo_pop l D aC ad n hn c0 S   o11) mw_682 hI_Mo_pop hS_Mo_pop y_Mo rfl rfl rfl (Nat.le_of_ble_eq_true rfl) d_Mo_branch_11 rfl rfl ⟨by decide, by decide⟩ ⟨Nat.zero_le _, Nat.zero_le _⟩ (j_st (st' := [.int ((f_Mo_pop S).1)]) rfl ?_)
    refine y_gen (fun S12 e13 => ?_)
    replace hp := hp S12 e13
    replace hF := hF.trans (px_let_eq e13)
    refine j_topi (fun r14 e15 => ?_)
    replace hp := hp r14 e15
    replace hF := hF.trans (px_let_eq e15)
    refine j_istore_n X d_Mo_branch_14 [(3, .int r14), (0, .ref (ad 124)), (1, .int o), (2, .int k)] (by decide) rfl ?_
    refine j_iload_n X d_Mo_branch_15 2 rfl ?_
    refine j_bipush X (v := 12) d_Mo_branch_16 (by decide) ?_
    refine j_icmp_eq X (tgt := 41) d_Mo_branch_18 (by decide) (fun h16 => ?_) (fun h16 => ?_)
    · replace hp := hp.1 h16
      replace hF := hF.trans (if_pos h16)
      refine j_aload_n X d_Mo_branch_41 1 rfl ?_
      refine j_iload_n X d_Mo_branch_42 3 rfl ?_
      refine j_put X fp_Mo_66_Mo 124 (by omega) y_Mo (Nat.le_of_ble_eq_true rfl) rfl rfl d_Mo_branch_43 (j_w (y_put_13) ?_)
      refine y_gen (fun S17 e18 => ?_)
      replace hp := hp S17 e18
      replace hF := hF.trans (px_let_eq e18)
      exact j_vret X hr hk rfl (by rw [hF]) d_Mo_branch_46
    · replace hp := hp.2 h16
      replace hF := hF.trans (if_neg h16)
      refine j_iload_n X d_Mo_branch_21 2 rfl ?_
      refine j_bipush X (v := 13) d_Mo_branch_22 (by decide) ?_
      refine j_icmp_ne X (tgt := 31) d_Mo_branch_24 (by decide) (fun h19 => ?_) (fun h19 => ?_)
      · replace hp := hp.2 h19
        replace hF := hF.trans (if_neg h19)
        refine j_iload_n X d_Mo_branch_31 2 rfl ?_
        refine j_bipush X (v := 14) d_Mo_branch_32 (by decide) ?_
        refine j_icmp_ne X (tgt := 46) d_Mo_branch_34 (by decide) (fun h27 => ?_) (fun h27 => ?_)
        · replace hp := hp.2 h27
          replace hF := hF.trans (if_neg h27)
          exact j_vret X hr hk rfl (by rw [hF]) d_Mo_branch_46
        · replace hp := hp.1 h27
          replace hF := hF.trans (if_pos h27)
          refine j_iload_n X d_Mo_branch_37 0 rfl ?_
          refine j_if_ge X (tgt := 46) d_Mo_branch_38 (by decide) (fun h28 => ?_) (fun h28 => ?_)
          · replace hp := hp.1 h28
            replace hF := hF.trans (if_pos h28)
            exact j_vret X hr hk rfl (by rw [hF]) d_Mo_branch_46
          · replace hp := hp.2 h28
            replace hF := hF.trans (if_neg h28)
            refine j_aload_n X d_Mo_branch_41 1 rfl ?_
            refine j_iload_n X d_Mo_branch_42 3 rfl ?_
            refine j_put X fp_Mo_66_Mo 124 (by omega) y_Mo (Nat.le_of_ble_eq_true rfl) rfl rfl d_Mo_branch_43 (j_w (y_put_13) ?_)
            refine y_gen (fun S29 e30 => ?_)
            replace hp := hp S29 e30
            replace hF := hF.trans (px_let_eq e30)
            exact j_vret X hr hk rfl (by rw [hF]) d_Mo_branch_46
      · replace hp := hp.1 h19
        replace hF := hF.trans (if_pos h19)
        refine j_iload_n X d_Mo_branch_27 0 rfl ?_
        refine j_if_eq X (tgt := 41) d_Mo_branch_28 (by decide) (fun h20 => ?_) (fun h20 => ?_)
        · replace hp := hp.1 h20
          replace hF := hF.trans (if_pos h20)
          refine j_aload_n X d_Mo_branch_41 1 rfl ?_
          refine j_iload_n X d_Mo_branch_42 3 rfl ?_
          refine j_put X fp_Mo_66_Mo 124 (by omega) y_Mo (Nat.le_of_ble_eq_true rfl) rfl rfl d_Mo_branch_43 (j_w (y_put_13) ?_)
          refine y_gen (fun S21 e22 => ?_)
          replace hp := hp S21 e22
          replace hF := hF.trans (px_let_eq e22)
          exact j_vret X hr hk rfl (by rw [hF]) d_Mo_branch_46
        · replace hp := hp.2 h20
          replace hF := hF.trans (if_neg h20)
          refine j_iload_n X d_Mo_branch_31 2 rfl ?_
          refine j_bipush X (v := 14) d_Mo_branch_32 (by decide) ?_
          refine j_icmp_ne X (tgt := 46) d_Mo_branch_34 (by decide) (fun h23 => ?_) (fun h23 => ?_)
          · replace hp := hp.2 h23
            replace hF := hF.trans (if_neg h23)
            exact j_vret X hr hk rfl (by rw [hF]) d_Mo_branch_46
          · replace hp := hp.1 h23
            replace hF := hF.trans (if_pos h23)
            refine j_iload_n X d_Mo_branch_37 0 rfl ?_
            refine j_if_ge X (tgt := 46) d_Mo_branch_38 (by decide) (fun h24 => ?_) (fun h24 => ?_)
            · replace hp := hp.1 h24
              replace hF := hF.trans (if_pos h24)
              exact j_vret X hr hk rfl (by rw [hF]) d_Mo_branch_46
            · replace hp := hp.2 h24
              replace hF := hF.trans (if_neg h24)
              refine j_aload_n X d_Mo_branch_41 1 rfl ?_
              refine j_iload_n X d_Mo_branch_42 3 rfl ?_
              refine j_put X fp_Mo_66_Mo 124 (by omega) y_Mo (Nat.le_of_ble_eq_true rfl) rfl rfl d_Mo_branch_43 (j_w (y_put_13) ?_)
              refine y_gen (fun S25 e26 => ?_)
              replace hp := hp S25 e26
              replace hF := hF.trans (px_let_eq e26)
              exact j_vret X hr hk rfl (by rw [hF]) d_Mo_branch_46
  · replace hp := hp.1 h1
    replace hF := hF.trans (if_pos h1)
    refine j_iconst X (v := 0) d_Mo_branch_6 (by decide) ?_
    refine j_goto X (tgt := 14) d_Mo_branch_7 (by decide) ?_
    refine j_istore_n X d_Mo_branch_14 [(3, .int 0), (0, .ref (ad 124)), (1, .int o), (2, .int k)] (by decide) rfl ?_
    refine j_iload_n X d_Mo_branch_15 2 rfl ?_
    refine j_bipush X (v := 12) d_Mo_branch_16 (by decide) ?_
    refine j_icmp_eq X (tgt := 41) d_Mo_branch_18 (by decide) (fun h2 => ?_) (fun h2 => ?_)
    · replace hp := hp.1 h2
      replace hF := hF.trans (if_pos h2)
      refine j_aload_n X d_Mo_branch_41 1 rfl ?_
      refine j_iload_n X d_Mo_branch_42 3 rfl ?_
      refine j_put X fp_Mo_66_Mo 124 (by omega) y_Mo (Nat.le_of_ble_eq_true rfl) rfl rfl d_Mo_branch_43 (j_w (y_put_13) ?_)
      refine y_gen (fun S3 e4 => ?_)
      replace hp := hp S3 e4
      replace hF := hF.trans (px_let_eq e4)
      exact j_vret X hr hk rfl (by rw [hF]) d_Mo_branch_46
    · replace hp := hp.2 h2
      replace hF := hF.trans (if_neg h2)
      refine j_iload_n X d_Mo_branch_21 2 rfl ?_
      refine j_bipush X (v := 13) d_Mo_branch_22 (by decide) ?_
      refine j_icmp_ne X (tgt := 31) d_Mo_branch_24 (by decide) (fun h5 => ?_) (fun h5 => ?_)
      · replace hp := hp.2 h5
        replace hF := hF.trans (if_neg h5)
        refine j_iload_n X d_Mo_branch_31 2 rfl ?_
        refine j_bipush X (v := 14) d_Mo_branch_32 (by decide) ?_
        refine j_icmp_ne X (tgt := 46) d_Mo_branch_34 (by decide) (fun h9 => ?_) (fun h9 => ?_)
        · replace hp := hp.2 h9
          replace hF := hF.trans (if_neg h9)
          exact j_vret X hr hk rfl (by rw [hF]) d_Mo_branch_46
        · replace hp := hp.1 h9
          replace hF := hF.trans (if_pos h9)
          refine j_iload_n X d_Mo_branch_37 0 rfl ?_
          refine j_if_ge X (tgt := 46) d_Mo_branch_38 (by decide) (fun _ => ?_) (fun h => absurd (by decide) h)
          exact j_vret X hr hk rfl (by rw [hF]) d_Mo_branch_46
      · replace hp := hp.1 h5
        replace hF := hF.trans (if_pos h5)
        refine j_iload_n X d_Mo_branch_27 0 rfl ?_
        refine j_if_eq X (tgt := 41) d_Mo_branch_28 (by decide) (fun _ => ?_) (fun h => absurd (by decide) h)
        refine j_aload_n X d_Mo_branch_41 1 rfl ?_
        refine j_iload_n X d_Mo_branch_42 3 rfl ?_
        refine j_put X fp_Mo_66_Mo 124 (by omega) y_Mo (Nat.le_of_ble_eq_true rfl) rfl rfl d_Mo_branch_43 (j_w (y_put_13) ?_)
        refine y_gen (fun S7 e8 => ?_)
        replace hp := hp S7 e8
        replace hF := hF.trans (px_let_eq e8)
        exact j_vret X hr hk rfl (by rw [hF]) d_Mo_branch_46
def f_Mo_giveBack (S : xS)  : Int32 × xS := px_let (sI S 124 17 (gI S 124 14)) (fun S2 : xS => px_let ((f_Mo_pop S2 ).2) (fun S5 : xS => px_let ((f_Mo_pop S2).1) (fun r7 : Int32 => px_let (sI S5 124 14 r7) (fun S9 : xS => px_let ((f_Mo_pop S9 ).2) (fun S12 : xS => px_let ((f_Mo_pop S9).1) (fun r14 : Int32 => px_let (sI S12 124 13 r14) (fun S16 : xS => px_let ((f_Mo_push S16 (gR S 130 ((gI S 124 17) - 1).toNatClampNeg)).2) (fun S19 : xS => ((0 : Int32), S19)))))))))
def p_Mo_giveBack (S : xS)  : Prop := (vp_in ((gI S 124 17) - 1) 24) ∧ ((∀ S2 : xS, S2 = sI S 124 17 (gI S 124 14) → (p_Mo_pop S2) ∧ ((∀ S5 : xS, S5 = (f_Mo_pop S2 ).2 → (∀ r7 : Int32, r7 = ((f_Mo_pop S2).1) → (∀ S9 : xS, S9 = sI S5 124 14 r7 → (p_Mo_pop S9) ∧ ((∀ S12 : xS, S12 = (f_Mo_pop S9 ).2 → (∀ r14 : Int32, r14 = ((f_Mo_pop S9).1) → (∀ S16 : xS, S16 = sI S12 124 13 r14 → (p_Mo_push S16 (gR S 130 ((gI S 124 17) - 1).toNatClampNeg)) ∧ ((∀ S19 : xS, S19 = (f_Mo_push S16 (gR S 130 ((gI S 124 17) - 1).toNatClampNeg)).2 → True))))))))))))
abbrev rm_Mo_giveBack : Room := { frames := 1, cells := 0, slots := 0, locals := 21 }
set_option maxHeartbeats 4000000 in
set_option maxRecDepth 100000 in
theorem c_Mo_giveBack (l : Launch) (D : va_G) (aC : Nat → ClassId) (ad : Nat → Nat) (n : Nat) (hn : 135 ≤ n) (c0 : Nat → va_E) (S : xS)   (hp : p_Mo_giveBack S ) : px_M l y_Mo_giveBack (Cond.code y_Mo_giveBack b_Mo_giveBack 2 none :: WS) rm_Mo_giveBack GG D CLS (TYS aC) [.ref (ad 124)] ad (ye aC ad S c0) n none (ye aC ad (f_Mo_giveBack S).2 c0) := by
  obtain ⟨F, hF⟩ : ∃ F, F = f_Mo_giveBack S := ⟨_, rfl⟩
  rw [← hF]
  unfold f_Mo_giveBack at hF
  refine px_start GG_k (by decide) (Nat.le_of_ble_eq_true rfl) ?_
  intro p e s m args below meth cd X hr hk
  refine j_L (L' := [(0, .ref (ad 124))]) rfl ?_
  unfold p_Mo_giveBack at hp
  refine j_aload_n X d_Mo_giveBack_0 0 rfl ?_
  refine j_get X fd_Mo_26_Mo 124 (by omega) y_Mo rfl d_Mo_giveBack_1 ?_
  refine j_aload_n X d_Mo_giveBack_4 0 rfl ?_
  refine j_get X fd_Mo_75_Mo 124 (by omega) y_Mo rfl d_Mo_giveBack_5 ?_
  refine j_iconst X (v := 1) d_Mo_giveBack_8 (by decide) ?_
  refine j_isub X d_Mo_giveBack_9 ?_
  obtain ⟨o1, hp⟩ := hp
  refine j_iald X 130 0 (by omega) y_stack rfl o1 d_Mo_giveBack_10 ?_
  refine j_istore_n X d_Mo_giveBack_11 [(1, .int (gR S 130 ((gI S 124 17) - 1).toNatClampNeg)), (0, .ref (ad 124))] (by decide) rfl ?_
  refine j_aload_n X d_Mo_giveBack_12 1 rfl ?_
  refine j_aload_n X d_Mo_giveBack_13 1 rfl ?_
  refine j_get X fd_Mo_69_Mo 124 (by omega) y_Mo rfl d_Mo_giveBack_14 ?_
  refine j_put X fp_Mo_75_Mo 124 (by omega) y_Mo (Nat.le_of_ble_eq_true rfl) rfl rfl d_Mo_giveBack_17 (j_w (y_put_17) ?_)
  refine y_gen (fun S2 e3 => ?_)
  replace hp := hp S2 e3
  replace hF := hF.trans (px_let_eq e3)
  refine j_aload_n X d_Mo_giveBack_20 1 rfl ?_
  refine j_aload_n X d_Mo_giveBack_21 1 rfl ?_
  obtain ⟨o4, hp⟩ := hp
  refine j_callV (st := [.ref (ad 124)]) X 124 (by omega) hY_Mo_pop (c_Mo_pop l D aC ad n hn c0 S2   o4) mw_682 hI_Mo_pop hS_Mo_pop y_Mo rfl rfl rfl (Nat.le_of_ble_eq_true rfl) d_Mo_giveBack_22 rfl rfl ⟨by decide, by decide⟩ ⟨Nat.zero_le _, Nat.zero_le _⟩ (j_st (st' := [.int ((f_Mo_pop S2).1), .ref (ad 124)]) rfl ?_)
  refine y_gen (fun S5 e6 => ?_)
  replace hp := hp S5 e6
  replace hF := hF.trans (px_let_eq e6)
  refine j_topi (fun r7 e8 => ?_)
  replace hp := hp r7 e8
  replace hF := hF.trans (px_let_eq e8)
  refine j_put X fp_Mo_69_Mo 124 (by omega) y_Mo (Nat.le_of_ble_eq_true rfl) rfl rfl d_Mo_giveBack_25 (j_w (y_put_14) ?_)
  refine y_gen (fun S9 e10 => ?_)
  replace hp := hp S9 e10
  replace hF := hF.trans (px_let_eq e10)
  refine j_aload_n X d_Mo_giveBack_28 1 rfl ?_
  refine j_aload_n X d_Mo_giveBack_29 1 rfl ?_
  obtain ⟨o11, hp⟩ := hp
  refine j_callV (st := [.ref (ad 124)]) X 124 (by omega) hY_Mo_pop (c_Mo_pop l D aC ad n hn c0 S9   o11) mw_682 hI_Mo_pop hS_Mo_pop y_Mo rfl rfl rfl (Nat.le_of_ble_eq_true rfl) d_Mo_giveBack_30 rfl rfl ⟨by decide, by decide⟩ ⟨Nat.zero_le _, Nat.zero_le _⟩ (j_st (st' := [.int ((f_Mo_pop S9).1), .ref (ad 124)]) rfl ?_)
  refine y_gen (fun S12 e13 => ?_)
  replace hp := hp S12 e13
  replace hF := hF.trans (px_let_eq e13)
  refine j_topi (fun r14 e15 => ?_)
  replace hp := hp r14 e15
  replace hF := hF.trans (px_let_eq e15)
  refine j_put X fp_Mo_66_Mo 124 (by omega) y_Mo (Nat.le_of_ble_eq_true rfl) rfl rfl d_Mo_giveBack_33 (j_w (y_put_13) ?_)
  refine y_gen (fun S16 e17 => ?_)
  replace hp := hp S16 e17
  replace hF := hF.trans (px_let_eq e17)
  refine j_aload_n X d_Mo_giveBack_36 1 rfl ?_
  refine j_iload_n X d_Mo_giveBack_37 0 rfl ?_
  obtain ⟨o18, hp⟩ := hp
  refine j_callV (st := []) X 124 (by omega) hY_Mo_push (c_Mo_push l D aC ad n hn c0 S16 (gR S 130 ((gI S 124 17) - 1).toNatClampNeg)  o18) mw_678 hI_Mo_push hS_Mo_push y_Mo rfl rfl rfl (Nat.le_of_ble_eq_true rfl) d_Mo_giveBack_38 rfl rfl ⟨by decide, by decide⟩ ⟨Nat.zero_le _, Nat.zero_le _⟩ (j_st (st' := []) rfl ?_)
  refine y_gen (fun S19 e20 => ?_)
  replace hp := hp S19 e20
  replace hF := hF.trans (px_let_eq e20)
  exact j_vret X hr hk rfl (by rw [hF]) d_Mo_giveBack_41
def f_Mo_call (S : xS) (k : Int32) : Int32 × xS := px_let ((f_Mo_push S (gI S 124 13)).2) (fun S2 : xS => px_let ((f_Mo_push S2 (gI S2 124 14)).2) (fun S5 : xS => px_let (sI S5 124 14 (gI S5 124 17)) (fun S7 : xS => px_let (sI S7 124 13 k) (fun S9 : xS => ((0 : Int32), S9)))))
def p_Mo_call (S : xS) (k : Int32) : Prop := (p_Mo_push S (gI S 124 13)) ∧ ((∀ S2 : xS, S2 = (f_Mo_push S (gI S 124 13)).2 → (p_Mo_push S2 (gI S2 124 14)) ∧ ((∀ S5 : xS, S5 = (f_Mo_push S2 (gI S2 124 14)).2 → (∀ S7 : xS, S7 = sI S5 124 14 (gI S5 124 17) → (∀ S9 : xS, S9 = sI S7 124 13 k → True))))))
abbrev rm_Mo_call : Room := { frames := 1, cells := 0, slots := 0, locals := 21 }
set_option maxHeartbeats 4000000 in
set_option maxRecDepth 100000 in
theorem c_Mo_call (l : Launch) (D : va_G) (aC : Nat → ClassId) (ad : Nat → Nat) (n : Nat) (hn : 135 ≤ n) (c0 : Nat → va_E) (S : xS) (k : Int32)  (hp : p_Mo_call S k) : px_M l y_Mo_call (Cond.code y_Mo_call b_Mo_call 2 none :: WS) rm_Mo_call GG D CLS (TYS aC) [.ref (ad 124), .int k] ad (ye aC ad S c0) n none (ye aC ad (f_Mo_call S k).2 c0) := by
  obtain ⟨F, hF⟩ : ∃ F, F = f_Mo_call S k := ⟨_, rfl⟩
  rw [← hF]
  unfold f_Mo_call at hF
  refine px_start GG_k (by decide) (Nat.le_of_ble_eq_true rfl) ?_
  intro p e s m args below meth cd X hr hk
  refine j_L (L' := [(0, .ref (ad 124)), (1, .int k)]) rfl ?_
  unfold p_Mo_call at hp
  refine j_aload_n X d_Mo_call_0 0 rfl ?_
  refine j_aload_n X d_Mo_call_1 0 rfl ?_
  refine j_get X fd_Mo_66_Mo 124 (by omega) y_Mo rfl d_Mo_call_2 ?_
  obtain ⟨o1, hp⟩ := hp
  refine j_callV (st := []) X 124 (by omega) hY_Mo_push (c_Mo_push l D aC ad n hn c0 S (gI S 124 13)  o1) mw_678 hI_Mo_push hS_Mo_push y_Mo rfl rfl rfl (Nat.le_of_ble_eq_true rfl) d_Mo_call_5 rfl rfl ⟨by decide, by decide⟩ ⟨Nat.zero_le _, Nat.zero_le _⟩ (j_st (st' := []) rfl ?_)
  refine y_gen (fun S2 e3 => ?_)
  replace hp := hp S2 e3
  replace hF := hF.trans (px_let_eq e3)
  refine j_aload_n X d_Mo_call_8 0 rfl ?_
  refine j_aload_n X d_Mo_call_9 0 rfl ?_
  refine j_get X fd_Mo_69_Mo 124 (by omega) y_Mo rfl d_Mo_call_10 ?_
  obtain ⟨o4, hp⟩ := hp
  refine j_callV (st := []) X 124 (by omega) hY_Mo_push (c_Mo_push l D aC ad n hn c0 S2 (gI S2 124 14)  o4) mw_678 hI_Mo_push hS_Mo_push y_Mo rfl rfl rfl (Nat.le_of_ble_eq_true rfl) d_Mo_call_13 rfl rfl ⟨by decide, by decide⟩ ⟨Nat.zero_le _, Nat.zero_le _⟩ (j_st (st' := []) rfl ?_)
  refine y_gen (fun S5 e6 => ?_)
  replace hp := hp S5 e6
  replace hF := hF.trans (px_let_eq e6)
  refine j_aload_n X d_Mo_call_16 0 rfl ?_
  refine j_aload_n X d_Mo_call_17 0 rfl ?_
  refine j_get X fd_Mo_75_Mo 124 (by omega) y_Mo rfl d_Mo_call_18 ?_
  refine j_put X fp_Mo_69_Mo 124 (by omega) y_Mo (Nat.le_of_ble_eq_true rfl) rfl rfl d_Mo_call_21 (j_w (y_put_14) ?_)
  refine y_gen (fun S7 e8 => ?_)
  replace hp := hp S7 e8
  replace hF := hF.trans (px_let_eq e8)
  refine j_aload_n X d_Mo_call_24 0 rfl ?_
  refine j_iload_n X d_Mo_call_25 1 rfl ?_
  refine j_put X fp_Mo_66_Mo 124 (by omega) y_Mo (Nat.le_of_ble_eq_true rfl) rfl rfl d_Mo_call_26 (j_w (y_put_13) ?_)
  refine y_gen (fun S9 e10 => ?_)
  replace hp := hp S9 e10
  replace hF := hF.trans (px_let_eq e10)
  exact j_vret X hr hk rfl (by rw [hF]) d_Mo_call_29
def f_Mo_draw (S : xS) (k : Int32) : Int32 × xS := px_let (sI S 124 15 ((1103515245 * (gI S 124 15)) + 12345)) (fun S1 : xS => ((((gI S1 124 15) >>> ((16 : Int32) &&& 31)) &&& 65535) - (((gI S1 124 15) >>> ((16 : Int32) &&& 31)) &&& 65535) / k * k, S1))
def p_Mo_draw (S : xS) (k : Int32) : Prop := (∀ S1 : xS, S1 = sI S 124 15 ((1103515245 * (gI S 124 15)) + 12345) → (¬ k = 0) ∧ (True))
abbrev rm_Mo_draw : Room := { frames := 0, cells := 0, slots := 0, locals := 0 }
set_option maxHeartbeats 4000000 in
set_option maxRecDepth 100000 in
theorem c_Mo_draw (l : Launch) (D : va_G) (aC : Nat → ClassId) (ad : Nat → Nat) (n : Nat) (hn : 135 ≤ n) (c0 : Nat → va_E) (S : xS) (k : Int32)  (hp : p_Mo_draw S k) : px_M l y_Mo_draw (Cond.code y_Mo_draw b_Mo_draw 2 (some .int) :: WS) rm_Mo_draw GG D CLS (TYS aC) [.ref (ad 124), .int k] ad (ye aC ad S c0) n (some (.int (f_Mo_draw S k).1)) (ye aC ad (f_Mo_draw S k).2 c0) := by
  obtain ⟨F, hF⟩ : ∃ F, F = f_Mo_draw S k := ⟨_, rfl⟩
  rw [← hF]
  unfold f_Mo_draw at hF
  refine px_start GG_k (by decide) (Nat.le_of_ble_eq_true rfl) ?_
  intro p e s m args below meth cd X hr hk
  refine j_L (L' := [(0, .ref (ad 124)), (1, .int k)]) rfl ?_
  unfold p_Mo_draw at hp
  refine j_aload_n X d_Mo_draw_0 0 rfl ?_
  refine j_ldc X m_const_Mo_100 d_Mo_draw_1 ?_
  refine j_aload_n X d_Mo_draw_3 0 rfl ?_
  refine j_get X fd_Mo_45_Mo 124 (by omega) y_Mo rfl d_Mo_draw_4 ?_
  refine j_imul X d_Mo_draw_7 ?_
  refine j_sipush X (v := 12345) d_Mo_draw_8 (by decide) ?_
  refine j_iadd X d_Mo_draw_11 ?_
  refine j_put X fp_Mo_45_Mo 124 (by omega) y_Mo (Nat.le_of_ble_eq_true rfl) rfl rfl d_Mo_draw_12 (j_w (y_put_15) ?_)
  refine y_gen (fun S1 e2 => ?_)
  replace hp := hp S1 e2
  replace hF := hF.trans (px_let_eq e2)
  refine j_aload_n X d_Mo_draw_15 0 rfl ?_
  refine j_get X fd_Mo_45_Mo 124 (by omega) y_Mo rfl d_Mo_draw_16 ?_
  refine j_bipush X (v := 16) d_Mo_draw_19 (by decide) ?_
  refine j_ishr X d_Mo_draw_21 ?_
  refine j_ldc X m_const_Mo_101 d_Mo_draw_22 ?_
  refine j_iand X d_Mo_draw_24 ?_
  refine j_iload_n X d_Mo_draw_25 1 rfl ?_
  obtain ⟨o3, hp⟩ := hp
  refine j_irem X d_Mo_draw_26 o3 ?_
  exact j_iret X hr hk (by rw [hF]) (by rw [hF]) d_Mo_draw_27
def f_Mo_perform (S : xS)  : Int32 × xS := px_let (sI S 124 13 ((gI S 124 13) + 1)) (fun S3 : xS => px_let (sI S3 124 12 ((gI S3 124 12) + 1)) (fun S5 : xS => if ((gR S 125 (gI S 124 13).toNatClampNeg) &&& 31) = 1 then px_let ((f_Mo_push S5 ((gR S 125 (gI S 124 13).toNatClampNeg) >>> ((5 : Int32) &&& 31))).2) (fun S9 : xS => ((0 : Int32), S9)) else if ((gR S 125 (gI S 124 13).toNatClampNeg) &&& 31) = 2 then px_let (sI S5 124 17 ((gI S5 124 17) - 1)) (fun S12 : xS => ((0 : Int32), S12)) else if ((gR S 125 (gI S 124 13).toNatClampNeg) &&& 31) = 3 then px_let ((f_Mo_push S5 (gR S5 130 ((gI S5 124 17) - 1).toNatClampNeg)).2) (fun S17 : xS => ((0 : Int32), S17)) else if ((gR S 125 (gI S 124 13).toNatClampNeg) &&& 31) = 4 then px_let (sR S5 130 (upd (gR S5 130) ((gI S5 124 17) - 1).toNatClampNeg (gR S5 130 ((gI S5 124 17) - 2).toNatClampNeg))) (fun S22 : xS => px_let (sR S22 130 (upd (gR S22 130) ((gI S22 124 17) - 2).toNatClampNeg (gR S5 130 ((gI S5 124 17) - 1).toNatClampNeg))) (fun S25 : xS => ((0 : Int32), S25))) else if ((gR S 125 (gI S 124 13).toNatClampNeg) &&& 31) = 5 then px_let ((f_Mo_pop S5 ).2) (fun S30 : xS => px_let ((f_Mo_pop S5).1) (fun r32 : Int32 => px_let ((f_Mo_pop S30 ).2) (fun S35 : xS => px_let ((f_Mo_pop S30).1) (fun r37 : Int32 => px_let (f_Mo_reckon ((gR S 125 (gI S 124 13).toNatClampNeg) &&& 31) r37 r32) (fun r40 : Int32 => px_let ((f_Mo_push S35 r40).2) (fun S43 : xS => ((0 : Int32), S43))))))) else if ((gR S 125 (gI S 124 13).toNatClampNeg) &&& 31) = 6 then px_let ((f_Mo_pop S5 ).2) (fun S47 : xS => px_let ((f_Mo_pop S5).1) (fun r49 : Int32 => px_let ((f_Mo_pop S47 ).2) (fun S52 : xS => px_let ((f_Mo_pop S47).1) (fun r54 : Int32 => px_let (f_Mo_reckon ((gR S 125 (gI S 124 13).toNatClampNeg) &&& 31) r54 r49) (fun r57 : Int32 => px_let ((f_Mo_push S52 r57).2) (fun S60 : xS => ((0 : Int32), S60))))))) else if ((gR S 125 (gI S 124 13).toNatClampNeg) &&& 31) = 7 then px_let ((f_Mo_pop S5 ).2) (fun S64 : xS => px_let ((f_Mo_pop S5).1) (fun r66 : Int32 => px_let ((f_Mo_pop S64 ).2) (fun S69 : xS => px_let ((f_Mo_pop S64).1) (fun r71 : Int32 => px_let (f_Mo_reckon ((gR S 125 (gI S 124 13).toNatClampNeg) &&& 31) r71 r66) (fun r74 : Int32 => px_let ((f_Mo_push S69 r74).2) (fun S77 : xS => ((0 : Int32), S77))))))) else if ((gR S 125 (gI S 124 13).toNatClampNeg) &&& 31) = 8 then px_let ((f_Mo_pop S5 ).2) (fun S81 : xS => px_let ((f_Mo_pop S5).1) (fun r83 : Int32 => px_let ((f_Mo_pop S81 ).2) (fun S86 : xS => px_let ((f_Mo_pop S81).1) (fun r88 : Int32 => px_let (f_Mo_reckon ((gR S 125 (gI S 124 13).toNatClampNeg) &&& 31) r88 r83) (fun r91 : Int32 => px_let ((f_Mo_push S86 r91).2) (fun S94 : xS => ((0 : Int32), S94))))))) else if ((gR S 125 (gI S 124 13).toNatClampNeg) &&& 31) = 9 then px_let ((f_Mo_pop S5 ).2) (fun S98 : xS => px_let ((f_Mo_pop S5).1) (fun r100 : Int32 => px_let ((f_Mo_pop S98 ).2) (fun S103 : xS => px_let ((f_Mo_pop S98).1) (fun r105 : Int32 => px_let (f_Mo_reckon ((gR S 125 (gI S 124 13).toNatClampNeg) &&& 31) r105 r100) (fun r108 : Int32 => px_let ((f_Mo_push S103 r108).2) (fun S111 : xS => ((0 : Int32), S111))))))) else if ((gR S 125 (gI S 124 13).toNatClampNeg) &&& 31) = 10 then px_let ((f_Mo_pop S5 ).2) (fun S115 : xS => px_let ((f_Mo_pop S5).1) (fun r117 : Int32 => px_let ((f_Mo_push S115 (gR S115 129 r117.toNatClampNeg)).2) (fun S121 : xS => ((0 : Int32), S121)))) else if ((gR S 125 (gI S 124 13).toNatClampNeg) &&& 31) = 11 then px_let ((f_Mo_pop S5 ).2) (fun S125 : xS => px_let ((f_Mo_pop S5).1) (fun r127 : Int32 => px_let ((f_Mo_pop S125 ).2) (fun S130 : xS => px_let ((f_Mo_pop S125).1) (fun r132 : Int32 => px_let (sR S130 129 (upd (gR S130 129) r127.toNatClampNeg r132)) (fun S134 : xS => ((0 : Int32), S134)))))) else if ((gR S 125 (gI S 124 13).toNatClampNeg) &&& 31) = 12 then px_let ((f_Mo_branch S5 ((gR S 125 (gI S 124 13).toNatClampNeg) &&& 31) ((gR S 125 (gI S 124 13).toNatClampNeg) >>> ((5 : Int32) &&& 31))).2) (fun S139 : xS => ((0 : Int32), S139)) else if ((gR S 125 (gI S 124 13).toNatClampNeg) &&& 31) = 13 then px_let ((f_Mo_branch S5 ((gR S 125 (gI S 124 13).toNatClampNeg) &&& 31) ((gR S 125 (gI S 124 13).toNatClampNeg) >>> ((5 : Int32) &&& 31))).2) (fun S143 : xS => ((0 : Int32), S143)) else if ((gR S 125 (gI S 124 13).toNatClampNeg) &&& 31) = 14 then px_let ((f_Mo_branch S5 ((gR S 125 (gI S 124 13).toNatClampNeg) &&& 31) ((gR S 125 (gI S 124 13).toNatClampNeg) >>> ((5 : Int32) &&& 31))).2) (fun S147 : xS => ((0 : Int32), S147)) else if ((gR S 125 (gI S 124 13).toNatClampNeg) &&& 31) = 15 then px_let ((f_Mo_call S5 ((gR S 125 (gI S 124 13).toNatClampNeg) >>> ((5 : Int32) &&& 31))).2) (fun S151 : xS => ((0 : Int32), S151)) else if ((gR S 125 (gI S 124 13).toNatClampNeg) &&& 31) = 16 then px_let ((f_Mo_giveBack S5 ).2) (fun S155 : xS => ((0 : Int32), S155)) else if ((gR S 125 (gI S 124 13).toNatClampNeg) &&& 31) = 17 then px_let ((f_Mo_push S5 (gR S5 130 (((gI S5 124 14) - 3) - ((gR S 125 (gI S 124 13).toNatClampNeg) >>> ((5 : Int32) &&& 31))).toNatClampNeg)).2) (fun S160 : xS => ((0 : Int32), S160)) else if ((gR S 125 (gI S 124 13).toNatClampNeg) &&& 31) = 18 then px_let (sI S5 124 16 ((gI S5 124 16) + 1)) (fun S163 : xS => px_let ((f_Mo_push S163 (gR S163 126 ((gI S163 124 16) - 1).toNatClampNeg)).2) (fun S167 : xS => ((0 : Int32), S167))) else if ((gR S 125 (gI S 124 13).toNatClampNeg) &&& 31) = 19 then px_let ((f_Mo_draw S5 ((gR S 125 (gI S 124 13).toNatClampNeg) >>> ((5 : Int32) &&& 31))).2) (fun S171 : xS => px_let ((f_Mo_draw S5 ((gR S 125 (gI S 124 13).toNatClampNeg) >>> ((5 : Int32) &&& 31))).1) (fun r173 : Int32 => px_let ((f_Mo_push S171 r173).2) (fun S176 : xS => ((0 : Int32), S176)))) else if ((gR S 125 (gI S 124 13).toNatClampNeg) &&& 31) = 20 then px_let ((f_Mo_push S5 (gI S5 124 14)).2) (fun S180 : xS => ((0 : Int32), S180)) else px_let ((f_Mo_pop S5 ).2) (fun S183 : xS => px_let ((f_Mo_pop S5).1) (fun r185 : Int32 => px_let ((f_Mo_pop S183 ).2) (fun S188 : xS => px_let ((f_Mo_pop S183).1) (fun r190 : Int32 => px_let (f_Mo_reckon ((gR S 125 (gI S 124 13).toNatClampNeg) &&& 31) r190 r185) (fun r193 : Int32 => px_let ((f_Mo_push S188 r193).2) (fun S196 : xS => ((0 : Int32), S196)))))))))
def p_Mo_perform (S : xS)  : Prop := (vp_in (gI S 124 13) 64) ∧ ((vp_in (gI S 124 13) 64) ∧ ((∀ S3 : xS, S3 = sI S 124 13 ((gI S 124 13) + 1) → (∀ S5 : xS, S5 = sI S3 124 12 ((gI S3 124 12) + 1) → (((gR S 125 (gI S 124 13).toNatClampNeg) &&& 31) = 1 → (p_Mo_push S5 ((gR S 125 (gI S 124 13).toNatClampNeg) >>> ((5 : Int32) &&& 31))) ∧ ((∀ S9 : xS, S9 = (f_Mo_push S5 ((gR S 125 (gI S 124 13).toNatClampNeg) >>> ((5 : Int32) &&& 31))).2 → True))) ∧ (¬ ((gR S 125 (gI S 124 13).toNatClampNeg) &&& 31) = 1 → (((gR S 125 (gI S 124 13).toNatClampNeg) &&& 31) = 2 → (∀ S12 : xS, S12 = sI S5 124 17 ((gI S5 124 17) - 1) → True)) ∧ (¬ ((gR S 125 (gI S 124 13).toNatClampNeg) &&& 31) = 2 → (((gR S 125 (gI S 124 13).toNatClampNeg) &&& 31) = 3 → (vp_in ((gI S5 124 17) - 1) 24) ∧ ((p_Mo_push S5 (gR S5 130 ((gI S5 124 17) - 1).toNatClampNeg)) ∧ ((∀ S17 : xS, S17 = (f_Mo_push S5 (gR S5 130 ((gI S5 124 17) - 1).toNatClampNeg)).2 → True)))) ∧ (¬ ((gR S 125 (gI S 124 13).toNatClampNeg) &&& 31) = 3 → (((gR S 125 (gI S 124 13).toNatClampNeg) &&& 31) = 4 → (vp_in ((gI S5 124 17) - 1) 24) ∧ ((vp_in ((gI S5 124 17) - 2) 24) ∧ ((vp_in ((gI S5 124 17) - 1) 24) ∧ ((∀ S22 : xS, S22 = sR S5 130 (upd (gR S5 130) ((gI S5 124 17) - 1).toNatClampNeg (gR S5 130 ((gI S5 124 17) - 2).toNatClampNeg)) → (vp_in ((gI S22 124 17) - 2) 24) ∧ ((∀ S25 : xS, S25 = sR S22 130 (upd (gR S22 130) ((gI S22 124 17) - 2).toNatClampNeg (gR S5 130 ((gI S5 124 17) - 1).toNatClampNeg)) → True))))))) ∧ (¬ ((gR S 125 (gI S 124 13).toNatClampNeg) &&& 31) = 4 → (((gR S 125 (gI S 124 13).toNatClampNeg) &&& 31) = 5 → (p_Mo_pop S5) ∧ ((∀ S30 : xS, S30 = (f_Mo_pop S5 ).2 → (∀ r32 : Int32, r32 = ((f_Mo_pop S5).1) → (p_Mo_pop S30) ∧ ((∀ S35 : xS, S35 = (f_Mo_pop S30 ).2 → (∀ r37 : Int32, r37 = ((f_Mo_pop S30).1) → (p_Mo_reckon ((gR S 125 (gI S 124 13).toNatClampNeg) &&& 31) r37 r32) ∧ ((∀ r40 : Int32, r40 = (f_Mo_reckon ((gR S 125 (gI S 124 13).toNatClampNeg) &&& 31) r37 r32) → (p_Mo_push S35 r40) ∧ ((∀ S43 : xS, S43 = (f_Mo_push S35 r40).2 → True))))))))))) ∧ (¬ ((gR S 125 (gI S 124 13).toNatClampNeg) &&& 31) = 5 → (((gR S 125 (gI S 124 13).toNatClampNeg) &&& 31) = 6 → (p_Mo_pop S5) ∧ ((∀ S47 : xS, S47 = (f_Mo_pop S5 ).2 → (∀ r49 : Int32, r49 = ((f_Mo_pop S5).1) → (p_Mo_pop S47) ∧ ((∀ S52 : xS, S52 = (f_Mo_pop S47 ).2 → (∀ r54 : Int32, r54 = ((f_Mo_pop S47).1) → (p_Mo_reckon ((gR S 125 (gI S 124 13).toNatClampNeg) &&& 31) r54 r49) ∧ ((∀ r57 : Int32, r57 = (f_Mo_reckon ((gR S 125 (gI S 124 13).toNatClampNeg) &&& 31) r54 r49) → (p_Mo_push S52 r57) ∧ ((∀ S60 : xS, S60 = (f_Mo_push S52 r57).2 → True))))))))))) ∧ (¬ ((gR S 125 (gI S 124 13).toNatClampNeg) &&& 31) = 6 → (((gR S 125 (gI S 124 13).toNatClampNeg) &&& 31) = 7 → (p_Mo_pop S5) ∧ ((∀ S64 : xS, S64 = (f_Mo_pop S5 ).2 → (∀ r66 : Int32, r66 = ((f_Mo_pop S5).1) → (p_Mo_pop S64) ∧ ((∀ S69 : xS, S69 = (f_Mo_pop S64 ).2 → (∀ r71 : Int32, r71 = ((f_Mo_pop S64).1) → (p_Mo_reckon ((gR S 125 (gI S 124 13).toNatClampNeg) &&& 31) r71 r66) ∧ ((∀ r74 : Int32, r74 = (f_Mo_reckon ((gR S 125 (gI S 124 13).toNatClampNeg) &&& 31) r71 r66) → (p_Mo_push S69 r74) ∧ ((∀ S77 : xS, S77 = (f_Mo_push S69 r74).2 → True))))))))))) ∧ (¬ ((gR S 125 (gI S 124 13).toNatClampNeg) &&& 31) = 7 → (((gR S 125 (gI S 124 13).toNatClampNeg) &&& 31) = 8 → (p_Mo_pop S5) ∧ ((∀ S81 : xS, S81 = (f_Mo_pop S5 ).2 → (∀ r83 : Int32, r83 = ((f_Mo_pop S5).1) → (p_Mo_pop S81) ∧ ((∀ S86 : xS, S86 = (f_Mo_pop S81 ).2 → (∀ r88 : Int32, r88 = ((f_Mo_pop S81).1) → (p_Mo_reckon ((gR S 125 (gI S 124 13).toNatClampNeg) &&& 31) r88 r83) ∧ ((∀ r91 : Int32, r91 = (f_Mo_reckon ((gR S 125 (gI S 124 13).toNatClampNeg) &&& 31) r88 r83) → (p_Mo_push S86 r91) ∧ ((∀ S94 : xS, S94 = (f_Mo_push S86 r91).2 → True))))))))))) ∧ (¬ ((gR S 125 (gI S 124 13).toNatClampNeg) &&& 31) = 8 → (((gR S 125 (gI S 124 13).toNatClampNeg) &&& 31) = 9 → (p_Mo_pop S5) ∧ ((∀ S98 : xS, S98 = (f_Mo_pop S5 ).2 → (∀ r100 : Int32, r100 = ((f_Mo_pop S5).1) → (p_Mo_pop S98) ∧ ((∀ S103 : xS, S103 = (f_Mo_pop S98 ).2 → (∀ r105 : Int32, r105 = ((f_Mo_pop S98).1) → (p_Mo_reckon ((gR S 125 (gI S 124 13).toNatClampNeg) &&& 31) r105 r100) ∧ ((∀ r108 : Int32, r108 = (f_Mo_reckon ((gR S 125 (gI S 124 13).toNatClampNeg) &&& 31) r105 r100) → (p_Mo_push S103 r108) ∧ ((∀ S111 : xS, S111 = (f_Mo_push S103 r108).2 → True))))))))))) ∧ (¬ ((gR S 125 (gI S 124 13).toNatClampNeg) &&& 31) = 9 → (((gR S 125 (gI S 124 13).toNatClampNeg) &&& 31) = 10 → (p_Mo_pop S5) ∧ ((∀ S115 : xS, S115 = (f_Mo_pop S5 ).2 → (∀ r117 : Int32, r117 = ((f_Mo_pop S5).1) → (vp_in r117 32) ∧ ((p_Mo_push S115 (gR S115 129 r117.toNatClampNeg)) ∧ ((∀ S121 : xS, S121 = (f_Mo_push S115 (gR S115 129 r117.toNatClampNeg)).2 → True))))))) ∧ (¬ ((gR S 125 (gI S 124 13).toNatClampNeg) &&& 31) = 10 → (((gR S 125 (gI S 124 13).toNatClampNeg) &&& 31) = 11 → (p_Mo_pop S5) ∧ ((∀ S125 : xS, S125 = (f_Mo_pop S5 ).2 → (∀ r127 : Int32, r127 = ((f_Mo_pop S5).1) → (p_Mo_pop S125) ∧ ((∀ S130 : xS, S130 = (f_Mo_pop S125 ).2 → (∀ r132 : Int32, r132 = ((f_Mo_pop S125).1) → (vp_in r127 32) ∧ ((∀ S134 : xS, S134 = sR S130 129 (upd (gR S130 129) r127.toNatClampNeg r132) → True))))))))) ∧ (¬ ((gR S 125 (gI S 124 13).toNatClampNeg) &&& 31) = 11 → (((gR S 125 (gI S 124 13).toNatClampNeg) &&& 31) = 12 → (p_Mo_branch S5 ((gR S 125 (gI S 124 13).toNatClampNeg) &&& 31) ((gR S 125 (gI S 124 13).toNatClampNeg) >>> ((5 : Int32) &&& 31))) ∧ ((∀ S139 : xS, S139 = (f_Mo_branch S5 ((gR S 125 (gI S 124 13).toNatClampNeg) &&& 31) ((gR S 125 (gI S 124 13).toNatClampNeg) >>> ((5 : Int32) &&& 31))).2 → True))) ∧ (¬ ((gR S 125 (gI S 124 13).toNatClampNeg) &&& 31) = 12 → (((gR S 125 (gI S 124 13).toNatClampNeg) &&& 31) = 13 → (p_Mo_branch S5 ((gR S 125 (gI S 124 13).toNatClampNeg) &&& 31) ((gR S 125 (gI S 124 13).toNatClampNeg) >>> ((5 : Int32) &&& 31))) ∧ ((∀ S143 : xS, S143 = (f_Mo_branch S5 ((gR S 125 (gI S 124 13).toNatClampNeg) &&& 31) ((gR S 125 (gI S 124 13).toNatClampNeg) >>> ((5 : Int32) &&& 31))).2 → True))) ∧ (¬ ((gR S 125 (gI S 124 13).toNatClampNeg) &&& 31) = 13 → (((gR S 125 (gI S 124 13).toNatClampNeg) &&& 31) = 14 → (p_Mo_branch S5 ((gR S 125 (gI S 124 13).toNatClampNeg) &&& 31) ((gR S 125 (gI S 124 13).toNatClampNeg) >>> ((5 : Int32) &&& 31))) ∧ ((∀ S147 : xS, S147 = (f_Mo_branch S5 ((gR S 125 (gI S 124 13).toNatClampNeg) &&& 31) ((gR S 125 (gI S 124 13).toNatClampNeg) >>> ((5 : Int32) &&& 31))).2 → True))) ∧ (¬ ((gR S 125 (gI S 124 13).toNatClampNeg) &&& 31) = 14 → (((gR S 125 (gI S 124 13).toNatClampNeg) &&& 31) = 15 → (p_Mo_call S5 ((gR S 125 (gI S 124 13).toNatClampNeg) >>> ((5 : Int32) &&& 31))) ∧ ((∀ S151 : xS, S151 = (f_Mo_call S5 ((gR S 125 (gI S 124 13).toNatClampNeg) >>> ((5 : Int32) &&& 31))).2 → True))) ∧ (¬ ((gR S 125 (gI S 124 13).toNatClampNeg) &&& 31) = 15 → (((gR S 125 (gI S 124 13).toNatClampNeg) &&& 31) = 16 → (p_Mo_giveBack S5) ∧ ((∀ S155 : xS, S155 = (f_Mo_giveBack S5 ).2 → True))) ∧ (¬ ((gR S 125 (gI S 124 13).toNatClampNeg) &&& 31) = 16 → (((gR S 125 (gI S 124 13).toNatClampNeg) &&& 31) = 17 → (vp_in (((gI S5 124 14) - 3) - ((gR S 125 (gI S 124 13).toNatClampNeg) >>> ((5 : Int32) &&& 31))) 24) ∧ ((p_Mo_push S5 (gR S5 130 (((gI S5 124 14) - 3) - ((gR S 125 (gI S 124 13).toNatClampNeg) >>> ((5 : Int32) &&& 31))).toNatClampNeg)) ∧ ((∀ S160 : xS, S160 = (f_Mo_push S5 (gR S5 130 (((gI S5 124 14) - 3) - ((gR S 125 (gI S 124 13).toNatClampNeg) >>> ((5 : Int32) &&& 31))).toNatClampNeg)).2 → True)))) ∧ (¬ ((gR S 125 (gI S 124 13).toNatClampNeg) &&& 31) = 17 → (((gR S 125 (gI S 124 13).toNatClampNeg) &&& 31) = 18 → (∀ S163 : xS, S163 = sI S5 124 16 ((gI S5 124 16) + 1) → (vp_in ((gI S163 124 16) - 1) 40) ∧ ((p_Mo_push S163 (gR S163 126 ((gI S163 124 16) - 1).toNatClampNeg)) ∧ ((∀ S167 : xS, S167 = (f_Mo_push S163 (gR S163 126 ((gI S163 124 16) - 1).toNatClampNeg)).2 → True))))) ∧ (¬ ((gR S 125 (gI S 124 13).toNatClampNeg) &&& 31) = 18 → (((gR S 125 (gI S 124 13).toNatClampNeg) &&& 31) = 19 → (p_Mo_draw S5 ((gR S 125 (gI S 124 13).toNatClampNeg) >>> ((5 : Int32) &&& 31))) ∧ ((∀ S171 : xS, S171 = (f_Mo_draw S5 ((gR S 125 (gI S 124 13).toNatClampNeg) >>> ((5 : Int32) &&& 31))).2 → (∀ r173 : Int32, r173 = ((f_Mo_draw S5 ((gR S 125 (gI S 124 13).toNatClampNeg) >>> ((5 : Int32) &&& 31))).1) → (p_Mo_push S171 r173) ∧ ((∀ S176 : xS, S176 = (f_Mo_push S171 r173).2 → True)))))) ∧ (¬ ((gR S 125 (gI S 124 13).toNatClampNeg) &&& 31) = 19 → (((gR S 125 (gI S 124 13).toNatClampNeg) &&& 31) = 20 → (p_Mo_push S5 (gI S5 124 14)) ∧ ((∀ S180 : xS, S180 = (f_Mo_push S5 (gI S5 124 14)).2 → True))) ∧ (¬ ((gR S 125 (gI S 124 13).toNatClampNeg) &&& 31) = 20 → (p_Mo_pop S5) ∧ ((∀ S183 : xS, S183 = (f_Mo_pop S5 ).2 → (∀ r185 : Int32, r185 = ((f_Mo_pop S5).1) → (p_Mo_pop S183) ∧ ((∀ S188 : xS, S188 = (f_Mo_pop S183 ).2 → (∀ r190 : Int32, r190 = ((f_Mo_pop S183).1) → (p_Mo_reckon ((gR S 125 (gI S 124 13).toNatClampNeg) &&& 31) r190 r185) ∧ ((∀ r193 : Int32, r193 = (f_Mo_reckon ((gR S 125 (gI S 124 13).toNatClampNeg) &&& 31) r190 r185) → (p_Mo_push S188 r193) ∧ ((∀ S196 : xS, S196 = (f_Mo_push S188 r193).2 → True))))))))))))))))))))))))))))))))))
abbrev rm_Mo_perform : Room := { frames := 2, cells := 0, slots := 0, locals := 43 }
set_option maxHeartbeats 4000000 in
set_option maxRecDepth 100000 in
theorem c_Mo_perform (l : Launch) (D : va_G) (aC : Nat → ClassId) (ad : Nat → Nat) (n : Nat) (hn : 135 ≤ n) (c0 : Nat → va_E) (S : xS)   (hp : p_Mo_perform S ) : px_M l y_Mo_perform (Cond.code y_Mo_perform b_Mo_perform 4 none :: WS) rm_Mo_perform GG D CLS (TYS aC) [.ref (ad 124)] ad (ye aC ad S c0) n none (ye aC ad (f_Mo_perform S).2 c0) := by
  obtain ⟨F, hF⟩ : ∃ F, F = f_Mo_perform S := ⟨_, rfl⟩
  rw [← hF]
  unfold f_Mo_perform at hF
  refine px_start GG_k (by decide) (Nat.le_of_ble_eq_true rfl) ?_
  intro p e s m args below meth cd X hr hk
  refine j_L (L' := [(0, .ref (ad 124))]) rfl ?_
  unfold p_Mo_perform at hp
  refine j_aload_n X d_Mo_perform_0 0 rfl ?_
  refine j_get X fd_Mo_7_Mo 124 (by omega) y_Mo rfl d_Mo_perform_1 ?_
  refine j_aload_n X d_Mo_perform_4 0 rfl ?_
  refine j_get X fd_Mo_66_Mo 124 (by omega) y_Mo rfl d_Mo_perform_5 ?_
  obtain ⟨o1, hp⟩ := hp
  refine j_iald X 125 0 (by omega) y_program rfl o1 d_Mo_perform_8 ?_
  refine j_bipush X (v := 31) d_Mo_perform_9 (by decide) ?_
  refine j_iand X d_Mo_perform_11 ?_
  refine j_istore_n X d_Mo_perform_12 [(1, .int ((gR S 125 (gI S 124 13).toNatClampNeg) &&& 31)), (0, .ref (ad 124))] (by decide) rfl ?_
  refine j_aload_n X d_Mo_perform_13 1 rfl ?_
  refine j_get X fd_Mo_7_Mo 124 (by omega) y_Mo rfl d_Mo_perform_14 ?_
  refine j_aload_n X d_Mo_perform_17 1 rfl ?_
  refine j_get X fd_Mo_66_Mo 124 (by omega) y_Mo rfl d_Mo_perform_18 ?_
  obtain ⟨o2, hp⟩ := hp
  refine j_iald X 125 0 (by omega) y_program rfl o2 d_Mo_perform_21 ?_
  refine j_iconst X (v := 5) d_Mo_perform_22 (by decide) ?_
  refine j_ishr X d_Mo_perform_23 ?_
  refine j_istore_n X d_Mo_perform_24 [(2, .int ((gR S 125 (gI S 124 13).toNatClampNeg) >>> ((5 : Int32) &&& 31))), (1, .int ((gR S 125 (gI S 124 13).toNatClampNeg) &&& 31)), (0, .ref (ad 124))] (by decide) rfl ?_
  refine j_aload_n X d_Mo_perform_25 2 rfl ?_
  refine j_dup X d_Mo_perform_26 rfl ?_
  refine j_get X fd_Mo_66_Mo 124 (by omega) y_Mo rfl d_Mo_perform_27 ?_
  refine j_iconst X (v := 1) d_Mo_perform_30 (by decide) ?_
  refine j_iadd X d_Mo_perform_31 ?_
  refine j_put X fp_Mo_66_Mo 124 (by omega) y_Mo (Nat.le_of_ble_eq_true rfl) rfl rfl d_Mo_perform_32 (j_w (y_put_13) ?_)
  refine y_gen (fun S3 e4 => ?_)
  replace hp := hp S3 e4
  replace hF := hF.trans (px_let_eq e4)
  refine j_aload_n X d_Mo_perform_35 2 rfl ?_
  refine j_dup X d_Mo_perform_36 rfl ?_
  refine j_get X fd_Mo_63_Mo 124 (by omega) y_Mo rfl d_Mo_perform_37 ?_
  refine j_iconst X (v := 1) d_Mo_perform_40 (by decide) ?_
  refine j_iadd X d_Mo_perform_41 ?_
  refine j_put X fp_Mo_63_Mo 124 (by omega) y_Mo (Nat.le_of_ble_eq_true rfl) rfl rfl d_Mo_perform_42 (j_w (y_put_12) ?_)
  refine y_gen (fun S5 e6 => ?_)
  replace hp := hp S5 e6
  replace hF := hF.trans (px_let_eq e6)
  refine j_iload_n X d_Mo_perform_45 1 rfl ?_
  by_cases h7 : ((gR S 125 (gI S 124 13).toNatClampNeg) &&& 31) = 1
  · replace hp := hp.1 h7
    replace hF := hF.trans (if_pos h7)
    refine j_tableIn X (tgt := 140) d_Mo_perform_46 (by rw [h7]; decide) (by rw [h7]; decide) (by rw [h7]; rfl) (by decide) ?_
    refine j_aload_n X d_Mo_perform_140 2 rfl ?_
    refine j_iload_n X d_Mo_perform_141 0 rfl ?_
    obtain ⟨o8, hp⟩ := hp
    refine j_callV (st := []) X 124 (by omega) hY_Mo_push (c_Mo_push l D aC ad n hn c0 S5 ((gR S 125 (gI S 124 13).toNatClampNeg) >>> ((5 : Int32) &&& 31))  o8) mw_678 hI_Mo_push hS_Mo_push y_Mo rfl rfl rfl (Nat.le_of_ble_eq_true rfl) d_Mo_perform_142 rfl rfl ⟨by decide, by decide⟩ ⟨Nat.zero_le _, Nat.zero_le _⟩ (j_st (st' := []) rfl ?_)
    refine y_gen (fun S9 e10 => ?_)
    replace hp := hp S9 e10
    replace hF := hF.trans (px_let_eq e10)
    refine j_goto X (tgt := 375) d_Mo_perform_145 (by decide) ?_
    exact j_vret X hr hk rfl (by rw [hF]) d_Mo_perform_375
  replace hp := hp.2 h7
  replace hF := hF.trans (if_neg h7)
  by_cases h11 : ((gR S 125 (gI S 124 13).toNatClampNeg) &&& 31) = 2
  · replace hp := hp.1 h11
    replace hF := hF.trans (if_pos h11)
    refine j_tableIn X (tgt := 148) d_Mo_perform_46 (by rw [h11]; decide) (by rw [h11]; decide) (by rw [h11]; rfl) (by decide) ?_
    refine j_aload_n X d_Mo_perform_148 2 rfl ?_
    refine j_dup X d_Mo_perform_149 rfl ?_
    refine j_get X fd_Mo_75_Mo 124 (by omega) y_Mo rfl d_Mo_perform_150 ?_
    refine j_iconst X (v := 1) d_Mo_perform_153 (by decide) ?_
    refine j_isub X d_Mo_perform_154 ?_
    refine j_put X fp_Mo_75_Mo 124 (by omega) y_Mo (Nat.le_of_ble_eq_true rfl) rfl rfl d_Mo_perform_155 (j_w (y_put_17) ?_)
    refine y_gen (fun S12 e13 => ?_)
    replace hp := hp S12 e13
    replace hF := hF.trans (px_let_eq e13)
    refine j_goto X (tgt := 375) d_Mo_perform_158 (by decide) ?_
    exact j_vret X hr hk rfl (by rw [hF]) d_Mo_perform_375
  replace hp := hp.2 h11
  replace hF := hF.trans (if_neg h11)
  by_cases h14 : ((gR S 125 (gI S 124 13).toNatClampNeg) &&& 31) = 3
  · replace hp := hp.1 h14
    replace hF := hF.trans (if_pos h14)
    refine j_tableIn X (tgt := 161) d_Mo_perform_46 (by rw [h14]; decide) (by rw [h14]; decide) (by rw [h14]; rfl) (by decide) ?_
    refine j_aload_n X d_Mo_perform_161 2 rfl ?_
    refine j_aload_n X d_Mo_perform_162 2 rfl ?_
    refine j_get X fd_Mo_26_Mo 124 (by omega) y_Mo rfl d_Mo_perform_163 ?_
    refine j_aload_n X d_Mo_perform_166 2 rfl ?_
    refine j_get X fd_Mo_75_Mo 124 (by omega) y_Mo rfl d_Mo_perform_167 ?_
    refine j_iconst X (v := 1) d_Mo_perform_170 (by decide) ?_
    refine j_isub X d_Mo_perform_171 ?_
    obtain ⟨o15, hp⟩ := hp
    refine j_iald X 130 0 (by omega) y_stack rfl o15 d_Mo_perform_172 ?_
    obtain ⟨o16, hp⟩ := hp
    refine j_callV (st := []) X 124 (by omega) hY_Mo_push (c_Mo_push l D aC ad n hn c0 S5 (gR S5 130 ((gI S5 124 17) - 1).toNatClampNeg)  o16) mw_678 hI_Mo_push hS_Mo_push y_Mo rfl rfl rfl (Nat.le_of_ble_eq_true rfl) d_Mo_perform_173 rfl rfl ⟨by decide, by decide⟩ ⟨Nat.zero_le _, Nat.zero_le _⟩ (j_st (st' := []) rfl ?_)
    refine y_gen (fun S17 e18 => ?_)
    replace hp := hp S17 e18
    replace hF := hF.trans (px_let_eq e18)
    refine j_goto X (tgt := 375) d_Mo_perform_176 (by decide) ?_
    exact j_vret X hr hk rfl (by rw [hF]) d_Mo_perform_375
  replace hp := hp.2 h14
  replace hF := hF.trans (if_neg h14)
  by_cases h19 : ((gR S 125 (gI S 124 13).toNatClampNeg) &&& 31) = 4
  · replace hp := hp.1 h19
    replace hF := hF.trans (if_pos h19)
    refine j_tableIn X (tgt := 179) d_Mo_perform_46 (by rw [h19]; decide) (by rw [h19]; decide) (by rw [h19]; rfl) (by decide) ?_
    refine j_aload_n X d_Mo_perform_179 2 rfl ?_
    refine j_get X fd_Mo_26_Mo 124 (by omega) y_Mo rfl d_Mo_perform_180 ?_
    refine j_aload_n X d_Mo_perform_183 2 rfl ?_
    refine j_get X fd_Mo_75_Mo 124 (by omega) y_Mo rfl d_Mo_perform_184 ?_
    refine j_iconst X (v := 1) d_Mo_perform_187 (by decide) ?_
    refine j_isub X d_Mo_perform_188 ?_
    obtain ⟨o20, hp⟩ := hp
    refine j_iald X 130 0 (by omega) y_stack rfl o20 d_Mo_perform_189 ?_
    refine j_istore_n X d_Mo_perform_190 [(3, .int (gR S5 130 ((gI S5 124 17) - 1).toNatClampNeg)), (2, .int ((gR S 125 (gI S 124 13).toNatClampNeg) >>> ((5 : Int32) &&& 31))), (1, .int ((gR S 125 (gI S 124 13).toNatClampNeg) &&& 31)), (0, .ref (ad 124))] (by decide) rfl ?_
    refine j_aload_n X d_Mo_perform_191 3 rfl ?_
    refine j_get X fd_Mo_26_Mo 124 (by omega) y_Mo rfl d_Mo_perform_192 ?_
    refine j_aload_n X d_Mo_perform_195 3 rfl ?_
    refine j_get X fd_Mo_75_Mo 124 (by omega) y_Mo rfl d_Mo_perform_196 ?_
    refine j_iconst X (v := 1) d_Mo_perform_199 (by decide) ?_
    refine j_isub X d_Mo_perform_200 ?_
    refine j_aload_n X d_Mo_perform_201 3 rfl ?_
    refine j_get X fd_Mo_26_Mo 124 (by omega) y_Mo rfl d_Mo_perform_202 ?_
    refine j_aload_n X d_Mo_perform_205 3 rfl ?_
    refine j_get X fd_Mo_75_Mo 124 (by omega) y_Mo rfl d_Mo_perform_206 ?_
    refine j_iconst X (v := 2) d_Mo_perform_209 (by decide) ?_
    refine j_isub X d_Mo_perform_210 ?_
    obtain ⟨o21, hp⟩ := hp
    refine j_iald X 130 0 (by omega) y_stack rfl o21 d_Mo_perform_211 ?_
    obtain ⟨o24, hp⟩ := hp
    refine j_iast X 130 0 (by omega) y_stack rfl o24 d_Mo_perform_212 (j_w (y_ast_stack) ?_)
    refine y_gen (fun S22 e23 => ?_)
    replace hp := hp S22 e23
    replace hF := hF.trans (px_let_eq e23)
    refine j_aload_n X d_Mo_perform_213 3 rfl ?_
    refine j_get X fd_Mo_26_Mo 124 (by omega) y_Mo rfl d_Mo_perform_214 ?_
    refine j_aload_n X d_Mo_perform_217 3 rfl ?_
    refine j_get X fd_Mo_75_Mo 124 (by omega) y_Mo rfl d_Mo_perform_218 ?_
    refine j_iconst X (v := 2) d_Mo_perform_221 (by decide) ?_
    refine j_isub X d_Mo_perform_222 ?_
    refine j_iload_n X d_Mo_perform_223 0 rfl ?_
    obtain ⟨o27, hp⟩ := hp
    refine j_iast X 130 0 (by omega) y_stack rfl o27 d_Mo_perform_224 (j_w (y_ast_stack) ?_)
    refine y_gen (fun S25 e26 => ?_)
    replace hp := hp S25 e26
    replace hF := hF.trans (px_let_eq e26)
    refine j_goto X (tgt := 375) d_Mo_perform_225 (by decide) ?_
    exact j_vret X hr hk rfl (by rw [hF]) d_Mo_perform_375
  replace hp := hp.2 h19
  replace hF := hF.trans (if_neg h19)
  by_cases h28 : ((gR S 125 (gI S 124 13).toNatClampNeg) &&& 31) = 5
  · replace hp := hp.1 h28
    replace hF := hF.trans (if_pos h28)
    refine j_tableIn X (tgt := 357) d_Mo_perform_46 (by rw [h28]; decide) (by rw [h28]; decide) (by rw [h28]; rfl) (by decide) ?_
    refine j_aload_n X d_Mo_perform_357 2 rfl ?_
    obtain ⟨o29, hp⟩ := hp
    refine j_callV (st := []) X 124 (by omega) hY_Mo_pop (c_Mo_pop l D aC ad n hn c0 S5   o29) mw_682 hI_Mo_pop hS_Mo_pop y_Mo rfl rfl rfl (Nat.le_of_ble_eq_true rfl) d_Mo_perform_358 rfl rfl ⟨by decide, by decide⟩ ⟨Nat.zero_le _, Nat.zero_le _⟩ (j_st (st' := [.int ((f_Mo_pop S5).1)]) rfl ?_)
    refine y_gen (fun S30 e31 => ?_)
    replace hp := hp S30 e31
    replace hF := hF.trans (px_let_eq e31)
    refine j_topi (fun r32 e33 => ?_)
    replace hp := hp r32 e33
    replace hF := hF.trans (px_let_eq e33)
    refine j_istore_n X d_Mo_perform_361 [(3, .int r32), (2, .int ((gR S 125 (gI S 124 13).toNatClampNeg) >>> ((5 : Int32) &&& 31))), (1, .int ((gR S 125 (gI S 124 13).toNatClampNeg) &&& 31)), (0, .ref (ad 124))] (by decide) rfl ?_
    refine j_aload_n X d_Mo_perform_362 3 rfl ?_
    refine j_iload_n X d_Mo_perform_363 2 rfl ?_
    refine j_aload_n X d_Mo_perform_364 3 rfl ?_
    obtain ⟨o34, hp⟩ := hp
    refine j_callV (st := [.int ((gR S 125 (gI S 124 13).toNatClampNeg) &&& 31), .ref (ad 124)]) X 124 (by omega) hY_Mo_pop (c_Mo_pop l D aC ad n hn c0 S30   o34) mw_682 hI_Mo_pop hS_Mo_pop y_Mo rfl rfl rfl (Nat.le_of_ble_eq_true rfl) d_Mo_perform_365 rfl rfl ⟨by decide, by decide⟩ ⟨Nat.zero_le _, Nat.zero_le _⟩ (j_st (st' := [.int ((f_Mo_pop S30).1), .int ((gR S 125 (gI S 124 13).toNatClampNeg) &&& 31), .ref (ad 124)]) rfl ?_)
    refine y_gen (fun S35 e36 => ?_)
    replace hp := hp S35 e36
    replace hF := hF.trans (px_let_eq e36)
    refine j_topi (fun r37 e38 => ?_)
    replace hp := hp r37 e38
    replace hF := hF.trans (px_let_eq e38)
    refine j_iload_n X d_Mo_perform_368 0 rfl ?_
    obtain ⟨o39, hp⟩ := hp
    refine j_callP (st := [.ref (ad 124)]) X hY_Mo_reckon (c_Mo_reckon l ((gR S 125 (gI S 124 13).toNatClampNeg) &&& 31) r37 r32 o39) mw_704 hT_Mo_reckon rfl rfl (Nat.le_of_ble_eq_true rfl) d_Mo_perform_369 rfl rfl ⟨by decide, by decide⟩ ⟨Nat.zero_le _, Nat.zero_le _⟩ (j_st (st' := [.int (f_Mo_reckon ((gR S 125 (gI S 124 13).toNatClampNeg) &&& 31) r37 r32), .ref (ad 124)]) rfl ?_)
    refine j_topi (fun r40 e41 => ?_)
    replace hp := hp r40 e41
    replace hF := hF.trans (px_let_eq e41)
    obtain ⟨o42, hp⟩ := hp
    refine j_callV (st := []) X 124 (by omega) hY_Mo_push (c_Mo_push l D aC ad n hn c0 S35 r40  o42) mw_678 hI_Mo_push hS_Mo_push y_Mo rfl rfl rfl (Nat.le_of_ble_eq_true rfl) d_Mo_perform_372 rfl rfl ⟨by decide, by decide⟩ ⟨Nat.zero_le _, Nat.zero_le _⟩ (j_st (st' := []) rfl ?_)
    refine y_gen (fun S43 e44 => ?_)
    replace hp := hp S43 e44
    replace hF := hF.trans (px_let_eq e44)
    exact j_vret X hr hk rfl (by rw [hF]) d_Mo_perform_375
  replace hp := hp.2 h28
  replace hF := hF.trans (if_neg h28)
  by_cases h45 : ((gR S 125 (gI S 124 13).toNatClampNeg) &&& 31) = 6
  · replace hp := hp.1 h45
    replace hF := hF.trans (if_pos h45)
    refine j_tableIn X (tgt := 357) d_Mo_perform_46 (by rw [h45]; decide) (by rw [h45]; decide) (by rw [h45]; rfl) (by decide) ?_
    refine j_aload_n X d_Mo_perform_357 2 rfl ?_
    obtain ⟨o46, hp⟩ := hp
    refine j_callV (st := []) X 124 (by omega) hY_Mo_pop (c_Mo_pop l D aC ad n hn c0 S5   o46) mw_682 hI_Mo_pop hS_Mo_pop y_Mo rfl rfl rfl (Nat.le_of_ble_eq_true rfl) d_Mo_perform_358 rfl rfl ⟨by decide, by decide⟩ ⟨Nat.zero_le _, Nat.zero_le _⟩ (j_st (st' := [.int ((f_Mo_pop S5).1)]) rfl ?_)
    refine y_gen (fun S47 e48 => ?_)
    replace hp := hp S47 e48
    replace hF := hF.trans (px_let_eq e48)
    refine j_topi (fun r49 e50 => ?_)
    replace hp := hp r49 e50
    replace hF := hF.trans (px_let_eq e50)
    refine j_istore_n X d_Mo_perform_361 [(3, .int r49), (2, .int ((gR S 125 (gI S 124 13).toNatClampNeg) >>> ((5 : Int32) &&& 31))), (1, .int ((gR S 125 (gI S 124 13).toNatClampNeg) &&& 31)), (0, .ref (ad 124))] (by decide) rfl ?_
    refine j_aload_n X d_Mo_perform_362 3 rfl ?_
    refine j_iload_n X d_Mo_perform_363 2 rfl ?_
    refine j_aload_n X d_Mo_perform_364 3 rfl ?_
    obtain ⟨o51, hp⟩ := hp
    refine j_callV (st := [.int ((gR S 125 (gI S 124 13).toNatClampNeg) &&& 31), .ref (ad 124)]) X 124 (by omega) hY_Mo_pop (c_Mo_pop l D aC ad n hn c0 S47   o51) mw_682 hI_Mo_pop hS_Mo_pop y_Mo rfl rfl rfl (Nat.le_of_ble_eq_true rfl) d_Mo_perform_365 rfl rfl ⟨by decide, by decide⟩ ⟨Nat.zero_le _, Nat.zero_le _⟩ (j_st (st' := [.int ((f_Mo_pop S47).1), .int ((gR S 125 (gI S 124 13).toNatClampNeg) &&& 31), .ref (ad 124)]) rfl ?_)
    refine y_gen (fun S52 e53 => ?_)
    replace hp := hp S52 e53
    replace hF := hF.trans (px_let_eq e53)
    refine j_topi (fun r54 e55 => ?_)
    replace hp := hp r54 e55
    replace hF := hF.trans (px_let_eq e55)
    refine j_iload_n X d_Mo_perform_368 0 rfl ?_
    obtain ⟨o56, hp⟩ := hp
    refine j_callP (st := [.ref (ad 124)]) X hY_Mo_reckon (c_Mo_reckon l ((gR S 125 (gI S 124 13).toNatClampNeg) &&& 31) r54 r49 o56) mw_704 hT_Mo_reckon rfl rfl (Nat.le_of_ble_eq_true rfl) d_Mo_perform_369 rfl rfl ⟨by decide, by decide⟩ ⟨Nat.zero_le _, Nat.zero_le _⟩ (j_st (st' := [.int (f_Mo_reckon ((gR S 125 (gI S 124 13).toNatClampNeg) &&& 31) r54 r49), .ref (ad 124)]) rfl ?_)
    refine j_topi (fun r57 e58 => ?_)
    replace hp := hp r57 e58
    replace hF := hF.trans (px_let_eq e58)
    obtain ⟨o59, hp⟩ := hp
    refine j_callV (st := []) X 124 (by omega) hY_Mo_push (c_Mo_push l D aC ad n hn c0 S52 r57  o59) mw_678 hI_Mo_push hS_Mo_push y_Mo rfl rfl rfl (Nat.le_of_ble_eq_true rfl) d_Mo_perform_372 rfl rfl ⟨by decide, by decide⟩ ⟨Nat.zero_le _, Nat.zero_le _⟩ (j_st (st' := []) rfl ?_)
    refine y_gen (fun S60 e61 => ?_)
    replace hp := hp S60 e61
    replace hF := hF.trans (px_let_eq e61)
    exact j_vret X hr hk rfl (by rw [hF]) d_Mo_perform_375
  replace hp := hp.2 h45
  replace hF := hF.trans (if_neg h45)
  by_cases h62 : ((gR S 125 (gI S 124 13).toNatClampNeg) &&& 31) = 7
  · replace hp := hp.1 h62
    replace hF := hF.trans (if_pos h62)
    refine j_tableIn X (tgt := 357) d_Mo_perform_46 (by rw [h62]; decide) (by rw [h62]; decide) (by rw [h62]; rfl) (by decide) ?_
    refine j_aload_n X d_Mo_perform_357 2 rfl ?_
    obtain ⟨o63, hp⟩ := hp
    refine j_callV (st := []) X 124 (by omega) hY_Mo_pop (c_Mo_pop l D aC ad n hn c0 S5   o63) mw_682 hI_Mo_pop hS_Mo_pop y_Mo rfl rfl rfl (Nat.le_of_ble_eq_true rfl) d_Mo_perform_358 rfl rfl ⟨by decide, by decide⟩ ⟨Nat.zero_le _, Nat.zero_le _⟩ (j_st (st' := [.int ((f_Mo_pop S5).1)]) rfl ?_)
    refine y_gen (fun S64 e65 => ?_)
    replace hp := hp S64 e65
    replace hF := hF.trans (px_let_eq e65)
    refine j_topi (fun r66 e67 => ?_)
    replace hp := hp r66 e67
    replace hF := hF.trans (px_let_eq e67)
    refine j_istore_n X d_Mo_perform_361 [(3, .int r66), (2, .int ((gR S 125 (gI S 124 13).toNatClampNeg) >>> ((5 : Int32) &&& 31))), (1, .int ((gR S 125 (gI S 124 13).toNatClampNeg) &&& 31)), (0, .ref (ad 124))] (by decide) rfl ?_
    refine j_aload_n X d_Mo_perform_362 3 rfl ?_
    refine j_iload_n X d_Mo_perform_363 2 rfl ?_
    refine j_aload_n X d_Mo_perform_364 3 rfl ?_
    obtain ⟨o68, hp⟩ := hp
    refine j_callV (st := [.int ((gR S 125 (gI S 124 13).toNatClampNeg) &&& 31), .ref (ad 124)]) X 124 (by omega) hY_Mo_pop (c_Mo_pop l D aC ad n hn c0 S64   o68) mw_682 hI_Mo_pop hS_Mo_pop y_Mo rfl rfl rfl (Nat.le_of_ble_eq_true rfl) d_Mo_perform_365 rfl rfl ⟨by decide, by decide⟩ ⟨Nat.zero_le _, Nat.zero_le _⟩ (j_st (st' := [.int ((f_Mo_pop S64).1), .int ((gR S 125 (gI S 124 13).toNatClampNeg) &&& 31), .ref (ad 124)]) rfl ?_)
    refine y_gen (fun S69 e70 => ?_)
    replace hp := hp S69 e70
    replace hF := hF.trans (px_let_eq e70)
    refine j_topi (fun r71 e72 => ?_)
    replace hp := hp r71 e72
    replace hF := hF.trans (px_let_eq e72)
    refine j_iload_n X d_Mo_perform_368 0 rfl ?_
    obtain ⟨o73, hp⟩ := hp
    refine j_callP (st := [.ref (ad 124)]) X hY_Mo_reckon (c_Mo_reckon l ((gR S 125 (gI S 124 13).toNatClampNeg) &&& 31) r71 r66 o73) mw_704 hT_Mo_reckon rfl rfl (Nat.le_of_ble_eq_true rfl) d_Mo_perform_369 rfl rfl ⟨by decide, by decide⟩ ⟨Nat.zero_le _, Nat.zero_le _⟩ (j_st (st' := [.int (f_Mo_reckon ((gR S 125 (gI S 124 13).toNatClampNeg) &&& 31) r71 r66), .ref (ad 124)]) rfl ?_)
    refine j_topi (fun r74 e75 => ?_)
    replace hp := hp r74 e75
    replace hF := hF.trans (px_let_eq e75)
    obtain ⟨o76, hp⟩ := hp
    refine j_callV (st := []) X 124 (by omega) hY_Mo_push (c_Mo_push l D aC ad n hn c0 S69 r74  o76) mw_678 hI_Mo_push hS_Mo_push y_Mo rfl rfl rfl (Nat.le_of_ble_eq_true rfl) d_Mo_perform_372 rfl rfl ⟨by decide, by decide⟩ ⟨Nat.zero_le _, Nat.zero_le _⟩ (j_st (st' := []) rfl ?_)
    refine y_gen (fun S77 e78 => ?_)
    replace hp := hp S77 e78
    replace hF := hF.trans (px_let_eq e78)
    exact j_vret X hr hk rfl (by rw [hF]) d_Mo_perform_375
  replace hp := hp.2 h62
  replace hF := hF.trans (if_neg h62)
  by_cases h79 : ((gR S 125 (gI S 124 13).toNatClampNeg) &&& 31) = 8
  · replace hp := hp.1 h79
    replace hF := hF.trans (if_pos h79)
    refine j_tableIn X (tgt := 357) d_Mo_perform_46 (by rw [h79]; decide) (by rw [h79]; decide) (by rw [h79]; rfl) (by decide) ?_
    refine j_aload_n X d_Mo_perform_357 2 rfl ?_
    obtain ⟨o80, hp⟩ := hp
    refine j_callV (st := []) X 124 (by omega) hY_Mo_pop (c_Mo_pop l D aC ad n hn c0 S5   o80) mw_682 hI_Mo_pop hS_Mo_pop y_Mo rfl rfl rfl (Nat.le_of_ble_eq_true rfl) d_Mo_perform_358 rfl rfl ⟨by decide, by decide⟩ ⟨Nat.zero_le _, Nat.zero_le _⟩ (j_st (st' := [.int ((f_Mo_pop S5).1)]) rfl ?_)
    refine y_gen (fun S81 e82 => ?_)
    replace hp := hp S81 e82
    replace hF := hF.trans (px_let_eq e82)
    refine j_topi (fun r83 e84 => ?_)
    replace hp := hp r83 e84
    replace hF := hF.trans (px_let_eq e84)
    refine j_istore_n X d_Mo_perform_361 [(3, .int r83), (2, .int ((gR S 125 (gI S 124 13).toNatClampNeg) >>> ((5 : Int32) &&& 31))), (1, .int ((gR S 125 (gI S 124 13).toNatClampNeg) &&& 31)), (0, .ref (ad 124))] (by decide) rfl ?_
    refine j_aload_n X d_Mo_perform_362 3 rfl ?_
    refine j_iload_n X d_Mo_perform_363 2 rfl ?_
    refine j_aload_n X d_Mo_perform_364 3 rfl ?_
    obtain ⟨o85, hp⟩ := hp
    refine j_callV (st := [.int ((gR S 125 (gI S 124 13).toNatClampNeg) &&& 31), .ref (ad 124)]) X 124 (by omega) hY_Mo_pop (c_Mo_pop l D aC ad n hn c0 S81   o85) mw_682 hI_Mo_pop hS_Mo_pop y_Mo rfl rfl rfl (Nat.le_of_ble_eq_true rfl) d_Mo_perform_365 rfl rfl ⟨by decide, by decide⟩ ⟨Nat.zero_le _, Nat.zero_le _⟩ (j_st (st' := [.int ((f_Mo_pop S81).1), .int ((gR S 125 (gI S 124 13).toNatClampNeg) &&& 31), .ref (ad 124)]) rfl ?_)
    refine y_gen (fun S86 e87 => ?_)
    replace hp := hp S86 e87
    replace hF := hF.trans (px_let_eq e87)
    refine j_topi (fun r88 e89 => ?_)
    replace hp := hp r88 e89
    replace hF := hF.trans (px_let_eq e89)
    refine j_iload_n X d_Mo_perform_368 0 rfl ?_
    obtain ⟨o90, hp⟩ := hp
    refine j_callP (st := [.ref (ad 124)]) X hY_Mo_reckon (c_Mo_reckon l ((gR S 125 (gI S 124 13).toNatClampNeg) &&& 31) r88 r83 o90) mw_704 hT_Mo_reckon rfl rfl (Nat.le_of_ble_eq_true rfl) d_Mo_perform_369 rfl rfl ⟨by decide, by decide⟩ ⟨Nat.zero_le _, Nat.zero_le _⟩ (j_st (st' := [.int (f_Mo_reckon ((gR S 125 (gI S 124 13).toNatClampNeg) &&& 31) r88 r83), .ref (ad 124)]) rfl ?_)
    refine j_topi (fun r91 e92 => ?_)
    replace hp := hp r91 e92
    replace hF := hF.trans (px_let_eq e92)
    obtain ⟨o93, hp⟩ := hp
    refine j_callV (st := []) X 124 (by omega) hY_Mo_push (c_Mo_push l D aC ad n hn c0 S86 r91  o93) mw_678 hI_Mo_push hS_Mo_push y_Mo rfl rfl rfl (Nat.le_of_ble_eq_true rfl) d_Mo_perform_372 rfl rfl ⟨by decide, by decide⟩ ⟨Nat.zero_le _, Nat.zero_le _⟩ (j_st (st' := []) rfl ?_)
    refine y_gen (fun S94 e95 => ?_)
    replace hp := hp S94 e95
    replace hF := hF.trans (px_let_eq e95)
    exact j_vret X hr hk rfl (by rw [hF]) d_Mo_perform_375
  replace hp := hp.2 h79
  replace hF := hF.trans (if_neg h79)
  by_cases h96 : ((gR S 125 (gI S 124 13).toNatClampNeg) &&& 31) = 9
  · replace hp := hp.1 h96
    replace hF := hF.trans (if_pos h96)
    refine j_tableIn X (tgt := 357) d_Mo_perform_46 (by rw [h96]; decide) (by rw [h96]; decide) (by rw [h96]; rfl) (by decide) ?_
    refine j_aload_n X d_Mo_perform_357 2 rfl ?_
    obtain ⟨o97, hp⟩ := hp
    refine j_callV (st := []) X 124 (by omega) hY_Mo_pop (c_Mo_pop l D aC ad n hn c0 S5   o97) mw_682 hI_Mo_pop hS_Mo_pop y_Mo rfl rfl rfl (Nat.le_of_ble_eq_true rfl) d_Mo_perform_358 rfl rfl ⟨by decide, by decide⟩ ⟨Nat.zero_le _, Nat.zero_le _⟩ (j_st (st' := [.int ((f_Mo_pop S5).1)]) rfl ?_)
    refine y_gen (fun S98 e99 => ?_)
    replace hp := hp S98 e99
    replace hF := hF.trans (px_let_eq e99)
    refine j_topi (fun r100 e101 => ?_)
    replace hp := hp r100 e101
    replace hF := hF.trans (px_let_eq e101)
    refine j_istore_n X d_Mo_perform_361 [(3, .int r100), (2, .int ((gR S 125 (gI S 124 13).toNatClampNeg) >>> ((5 : Int32) &&& 31))), (1, .int ((gR S 125 (gI S 124 13).toNatClampNeg) &&& 31)), (0, .ref (ad 124))] (by decide) rfl ?_
    refine j_aload_n X d_Mo_perform_362 3 rfl ?_
    refine j_iload_n X d_Mo_perform_363 2 rfl ?_
    refine j_aload_n X d_Mo_perform_364 3 rfl ?_
    obtain ⟨o102, hp⟩ := hp
    refine j_callV (st := [.int ((gR S 125 (gI S 124 13).toNatClampNeg) &&& 31), .ref (ad 124)]) X 124 (by omega) hY_Mo_pop (c_Mo_pop l D aC ad n hn c0 S98   o102) mw_682 hI_Mo_pop hS_Mo_pop y_Mo rfl rfl rfl (Nat.le_of_ble_eq_true rfl) d_Mo_perform_365 rfl rfl ⟨by decide, by decide⟩ ⟨Nat.zero_le _, Nat.zero_le _⟩ (j_st (st' := [.int ((f_Mo_pop S98).1), .int ((gR S 125 (gI S 124 13).toNatClampNeg) &&& 31), .ref (ad 124)]) rfl ?_)
    refine y_gen (fun S103 e104 => ?_)
    replace hp := hp S103 e104
    replace hF := hF.trans (px_let_eq e104)
    refine j_topi (fun r105 e106 => ?_)
    replace hp := hp r105 e106
    replace hF := hF.trans (px_let_eq e106)
    refine j_iload_n X d_Mo_perform_368 0 rfl ?_
    obtain ⟨o107, hp⟩ := hp
    refine j_callP (st := [.ref (ad 124)]) X hY_Mo_reckon (c_Mo_reckon l ((gR S 125 (gI S 124 13).toNatClampNeg) &&& 31) r105 r100 o107) mw_704 hT_Mo_reckon rfl rfl (Nat.le_of_ble_eq_true rfl) d_Mo_perform_369 rfl rfl ⟨by decide, by decide⟩ ⟨Nat.zero_le _, Nat.zero_le _⟩ (j_st (st' := [.int (f_Mo_reckon ((gR S 125 (gI S 124 13).toNatClampNeg) &&& 31) r105 r100), .ref (ad 124)]) rfl ?_)
    refine j_topi (fun r108 e109 => ?_)
    replace hp := hp r108 e109
    replace hF := hF.trans (px_let_eq e109)
    obtain ⟨o110, hp⟩ := hp
    refine j_callV (st := []) X 124 (by omega) hY_Mo_push (c_Mo_push l D aC ad n hn c0 S103 r108  o110) mw_678 hI_Mo_push hS_Mo_push y_Mo rfl rfl rfl (Nat.le_of_ble_eq_true rfl) d_Mo_perform_372 rfl rfl ⟨by decide, by decide⟩ ⟨Nat.zero_le _, Nat.zero_le _⟩ (j_st (st' := []) rfl ?_)
    refine y_gen (fun S111 e112 => ?_)
    replace hp := hp S111 e112
    replace hF := hF.trans (px_let_eq e112)
    exact j_vret X hr hk rfl (by rw [hF]) d_Mo_perform_375
  replace hp := hp.2 h96
  replace hF := hF.trans (if_neg h96)
  by_cases h113 : ((gR S 125 (gI S 124 13).toNatClampNeg) &&& 31) = 10
  · replace hp := hp.1 h113
    replace hF := hF.trans (if_pos h113)
    refine j_tableIn X (tgt := 228) d_Mo_perform_46 (by rw [h113]; decide) (by rw [h113]; decide) (by rw [h113]; rfl) (by decide) ?_
    refine j_aload_n X d_Mo_perform_228 2 rfl ?_
    refine j_aload_n X d_Mo_perform_229 2 rfl ?_
    refine j_get X fd_Mo_23_Mo 124 (by omega) y_Mo rfl d_Mo_perform_230 ?_
    refine j_aload_n X d_Mo_perform_233 2 rfl ?_
    obtain ⟨o114, hp⟩ := hp
    refine j_callV (st := [.ref (ad 129), .ref (ad 124)]) X 124 (by omega) hY_Mo_pop (c_Mo_pop l D aC ad n hn c0 S5   o114) mw_682 hI_Mo_pop hS_Mo_pop y_Mo rfl rfl rfl (Nat.le_of_ble_eq_true rfl) d_Mo_perform_234 rfl rfl ⟨by decide, by decide⟩ ⟨Nat.zero_le _, Nat.zero_le _⟩ (j_st (st' := [.int ((f_Mo_pop S5).1), .ref (ad 129), .ref (ad 124)]) rfl ?_)
    refine y_gen (fun S115 e116 => ?_)
    replace hp := hp S115 e116
    replace hF := hF.trans (px_let_eq e116)
    refine j_topi (fun r117 e118 => ?_)
    replace hp := hp r117 e118
    replace hF := hF.trans (px_let_eq e118)
    obtain ⟨o119, hp⟩ := hp
    refine j_iald X 129 0 (by omega) y_cells rfl o119 d_Mo_perform_237 ?_
    obtain ⟨o120, hp⟩ := hp
    refine j_callV (st := []) X 124 (by omega) hY_Mo_push (c_Mo_push l D aC ad n hn c0 S115 (gR S115 129 r117.toNatClampNeg)  o120) mw_678 hI_Mo_push hS_Mo_push y_Mo rfl rfl rfl (Nat.le_of_ble_eq_true rfl) d_Mo_perform_238 rfl rfl ⟨by decide, by decide⟩ ⟨Nat.zero_le _, Nat.zero_le _⟩ (j_st (st' := []) rfl ?_)
    refine y_gen (fun S121 e122 => ?_)
    replace hp := hp S121 e122
    replace hF := hF.trans (px_let_eq e122)
    refine j_goto X (tgt := 375) d_Mo_perform_241 (by decide) ?_
    exact j_vret X hr hk rfl (by rw [hF]) d_Mo_perform_375
  replace hp := hp.2 h113
  replace hF := hF.trans (if_neg h113)
  by_cases h123 : ((gR S 125 (gI S 124 13).toNatClampNeg) &&& 31) = 11
  · replace hp := hp.1 h123
    replace hF := hF.trans (if_pos h123)
    refine j_tableIn X (tgt := 244) d_Mo_perform_46 (by rw [h123]; decide) (by rw [h123]; decide) (by rw [h123]; rfl) (by decide) ?_
    refine j_aload_n X d_Mo_perform_244 2 rfl ?_
    obtain ⟨o124, hp⟩ := hp
    refine j_callV (st := []) X 124 (by omega) hY_Mo_pop (c_Mo_pop l D aC ad n hn c0 S5   o124) mw_682 hI_Mo_pop hS_Mo_pop y_Mo rfl rfl rfl (Nat.le_of_ble_eq_true rfl) d_Mo_perform_245 rfl rfl ⟨by decide, by decide⟩ ⟨Nat.zero_le _, Nat.zero_le _⟩ (j_st (st' := [.int ((f_Mo_pop S5).1)]) rfl ?_)
    refine y_gen (fun S125 e126 => ?_)
    replace hp := hp S125 e126
    replace hF := hF.trans (px_let_eq e126)
    refine j_topi (fun r127 e128 => ?_)
    replace hp := hp r127 e128
    replace hF := hF.trans (px_let_eq e128)
    refine j_istore_n X d_Mo_perform_248 [(3, .int r127), (2, .int ((gR S 125 (gI S 124 13).toNatClampNeg) >>> ((5 : Int32) &&& 31))), (1, .int ((gR S 125 (gI S 124 13).toNatClampNeg) &&& 31)), (0, .ref (ad 124))] (by decide) rfl ?_
    refine j_aload_n X d_Mo_perform_249 3 rfl ?_
    refine j_get X fd_Mo_23_Mo 124 (by omega) y_Mo rfl d_Mo_perform_250 ?_
    refine j_iload_n X d_Mo_perform_253 0 rfl ?_
    refine j_aload_n X d_Mo_perform_254 3 rfl ?_
    obtain ⟨o129, hp⟩ := hp
    refine j_callV (st := [.int r127, .ref (ad 129)]) X 124 (by omega) hY_Mo_pop (c_Mo_pop l D aC ad n hn c0 S125   o129) mw_682 hI_Mo_pop hS_Mo_pop y_Mo rfl rfl rfl (Nat.le_of_ble_eq_true rfl) d_Mo_perform_255 rfl rfl ⟨by decide, by decide⟩ ⟨Nat.zero_le _, Nat.zero_le _⟩ (j_st (st' := [.int ((f_Mo_pop S125).1), .int r127, .ref (ad 129)]) rfl ?_)
    refine y_gen (fun S130 e131 => ?_)
    replace hp := hp S130 e131
    replace hF := hF.trans (px_let_eq e131)
    refine j_topi (fun r132 e133 => ?_)
    replace hp := hp r132 e133
    replace hF := hF.trans (px_let_eq e133)
    obtain ⟨o136, hp⟩ := hp
    refine j_iast X 129 0 (by omega) y_cells rfl o136 d_Mo_perform_258 (j_w (y_ast_cells) ?_)
    refine y_gen (fun S134 e135 => ?_)
    replace hp := hp S134 e135
    replace hF := hF.trans (px_let_eq e135)
    refine j_goto X (tgt := 375) d_Mo_perform_259 (by decide) ?_
    exact j_vret X hr hk rfl (by rw [hF]) d_Mo_perform_375
  replace hp := hp.2 h123
  replace hF := hF.trans (if_neg h123)
  by_cases h137 : ((gR S 125 (gI S 124 13).toNatClampNeg) &&& 31) = 12
  · replace hp := hp.1 h137
    replace hF := hF.trans (if_pos h137)
    refine j_tableIn X (tgt := 262) d_Mo_perform_46 (by rw [h137]; decide) (by rw [h137]; decide) (by rw [h137]; rfl) (by decide) ?_
    refine j_aload_n X d_Mo_perform_262 2 rfl ?_
    refine j_iload_n X d_Mo_perform_263 1 rfl ?_
    refine j_iload_n X d_Mo_perform_264 0 rfl ?_
    obtain ⟨o138, hp⟩ := hp
    refine j_callV (st := []) X 124 (by omega) hY_Mo_branch (c_Mo_branch l D aC ad n hn c0 S5 ((gR S 125 (gI S 124 13).toNatClampNeg) &&& 31) ((gR S 125 (gI S 124 13).toNatClampNeg) >>> ((5 : Int32) &&& 31))  o138) mw_686 hI_Mo_branch hS_Mo_branch y_Mo rfl rfl rfl (Nat.le_of_ble_eq_true rfl) d_Mo_perform_265 rfl rfl ⟨by decide, by decide⟩ ⟨Nat.zero_le _, Nat.zero_le _⟩ (j_st (st' := []) rfl ?_)
    refine y_gen (fun S139 e140 => ?_)
    replace hp := hp S139 e140
    replace hF := hF.trans (px_let_eq e140)
    refine j_goto X (tgt := 375) d_Mo_perform_268 (by decide) ?_
    exact j_vret X hr hk rfl (by rw [hF]) d_Mo_perform_375
  replace hp := hp.2 h137
  replace hF := hF.trans (if_neg h137)
  by_cases h141 : ((gR S 125 (gI S 124 13).toNatClampNeg) &&& 31) = 13
  · replace hp := hp.1 h141
    replace hF := hF.trans (if_pos h141)
    refine j_tableIn X (tgt := 262) d_Mo_perform_46 (by rw [h141]; decide) (by rw [h141]; decide) (by rw [h141]; rfl) (by decide) ?_
    refine j_aload_n X d_Mo_perform_262 2 rfl ?_
    refine j_iload_n X d_Mo_perform_263 1 rfl ?_
    refine j_iload_n X d_Mo_perform_264 0 rfl ?_
    obtain ⟨o142, hp⟩ := hp
    refine j_callV (st := []) X 124 (by omega) hY_Mo_branch (c_Mo_branch l D aC ad n hn c0 S5 ((gR S 125 (gI S 124 13).toNatClampNeg) &&& 31) ((gR S 125 (gI S 124 13).toNatClampNeg) >>> ((5 : Int32) &&& 31))  o142) mw_686 hI_Mo_branch hS_Mo_branch y_Mo rfl rfl rfl (Nat.le_of_ble_eq_true rfl) d_Mo_perform_265 rfl rfl ⟨by decide, by decide⟩ ⟨Nat.zero_le _, Nat.zero_le _⟩ (j_st (st' := []) rfl ?_)
    refine y_gen (fun S143 e144 => ?_)
    replace hp := hp S143 e144
    replace hF := hF.trans (px_let_eq e144)
    refine j_goto X (tgt := 375) d_Mo_perform_268 (by decide) ?_
    exact j_vret X hr hk rfl (by rw [hF]) d_Mo_perform_375
  replace hp := hp.2 h141
  replace hF := hF.trans (if_neg h141)
  by_cases h145 : ((gR S 125 (gI S 124 13).toNatClampNeg) &&& 31) = 14
  · replace hp := hp.1 h145
    replace hF := hF.trans (if_pos h145)
    refine j_tableIn X (tgt := 262) d_Mo_perform_46 (by rw [h145]; decide) (by rw [h145]; decide) (by rw [h145]; rfl) (by decide) ?_
    refine j_aload_n X d_Mo_perform_262 2 rfl ?_
    refine j_iload_n X d_Mo_perform_263 1 rfl ?_
    refine j_iload_n X d_Mo_perform_264 0 rfl ?_
    obtain ⟨o146, hp⟩ := hp
    refine j_callV (st := []) X 124 (by omega) hY_Mo_branch (c_Mo_branch l D aC ad n hn c0 S5 ((gR S 125 (gI S 124 13).toNatClampNeg) &&& 31) ((gR S 125 (gI S 124 13).toNatClampNeg) >>> ((5 : Int32) &&& 31))  o146) mw_686 hI_Mo_branch hS_Mo_branch y_Mo rfl rfl rfl (Nat.le_of_ble_eq_true rfl) d_Mo_perform_265 rfl rfl ⟨by decide, by decide⟩ ⟨Nat.zero_le _, Nat.zero_le _⟩ (j_st (st' := []) rfl ?_)
    refine y_gen (fun S147 e148 => ?_)
    replace hp := hp S147 e148
    replace hF := hF.trans (px_let_eq e148)
    refine j_goto X (tgt := 375) d_Mo_perform_268 (by decide) ?_
    exact j_vret X hr hk rfl (by rw [hF]) d_Mo_perform_375
  replace hp := hp.2 h145
  replace hF := hF.trans (if_neg h145)
  by_cases h149 : ((gR S 125 (gI S 124 13).toNatClampNeg) &&& 31) = 15
  · replace hp := hp.1 h149
    replace hF := hF.trans (if_pos h149)
    refine j_tableIn X (tgt := 271) d_Mo_perform_46 (by rw [h149]; decide) (by rw [h149]; decide) (by rw [h149]; rfl) (by decide) ?_
    refine j_aload_n X d_Mo_perform_271 2 rfl ?_
    refine j_iload_n X d_Mo_perform_272 0 rfl ?_
    obtain ⟨o150, hp⟩ := hp
    refine j_callV (st := []) X 124 (by omega) hY_Mo_call (c_Mo_call l D aC ad n hn c0 S5 ((gR S 125 (gI S 124 13).toNatClampNeg) >>> ((5 : Int32) &&& 31))  o150) mw_690 hI_Mo_call hS_Mo_call y_Mo rfl rfl rfl (Nat.le_of_ble_eq_true rfl) d_Mo_perform_273 rfl rfl ⟨by decide, by decide⟩ ⟨Nat.zero_le _, Nat.zero_le _⟩ (j_st (st' := []) rfl ?_)
    refine y_gen (fun S151 e152 => ?_)
    replace hp := hp S151 e152
    replace hF := hF.trans (px_let_eq e152)
    refine j_goto X (tgt := 375) d_Mo_perform_276 (by decide) ?_
    exact j_vret X hr hk rfl (by rw [hF]) d_Mo_perform_375
  replace hp := hp.2 h149
  replace hF := hF.trans (if_neg h149)
  by_cases h153 : ((gR S 125 (gI S 124 13).toNatClampNeg) &&& 31) = 16
  · replace hp := hp.1 h153
    replace hF := hF.trans (if_pos h153)
    refine j_tableIn X (tgt := 279) d_Mo_perform_46 (by rw [h153]; decide) (by rw [h153]; decide) (by rw [h153]; rfl) (by decide) ?_
    refine j_aload_n X d_Mo_perform_279 2 rfl ?_
    obtain ⟨o154, hp⟩ := hp
    refine j_callV (st := []) X 124 (by omega) hY_Mo_giveBack (c_Mo_giveBack l D aC ad n hn c0 S5   o154) mw_694 hI_Mo_giveBack hS_Mo_giveBack y_Mo rfl rfl rfl (Nat.le_of_ble_eq_true rfl) d_Mo_perform_280 rfl rfl ⟨by decide, by decide⟩ ⟨Nat.zero_le _, Nat.zero_le _⟩ (j_st (st' := []) rfl ?_)
    refine y_gen (fun S155 e156 => ?_)
    replace hp := hp S155 e156
    replace hF := hF.trans (px_let_eq e156)
    refine j_goto X (tgt := 375) d_Mo_perform_283 (by decide) ?_
    exact j_vret X hr hk rfl (by rw [hF]) d_Mo_perform_375
  replace hp := hp.2 h153
  replace hF := hF.trans (if_neg h153)
  by_cases h157 : ((gR S 125 (gI S 124 13).toNatClampNeg) &&& 31) = 17
  · replace hp := hp.1 h157
    replace hF := hF.trans (if_pos h157)
    refine j_tableIn X (tgt := 286) d_Mo_perform_46 (by rw [h157]; decide) (by rw [h157]; decide) (by rw [h157]; rfl) (by decide) ?_
    refine j_aload_n X d_Mo_perform_286 2 rfl ?_
    refine j_aload_n X d_Mo_perform_287 2 rfl ?_
    refine j_get X fd_Mo_26_Mo 124 (by omega) y_Mo rfl d_Mo_perform_288 ?_
    refine j_aload_n X d_Mo_perform_291 2 rfl ?_
    refine j_get X fd_Mo_69_Mo 124 (by omega) y_Mo rfl d_Mo_perform_292 ?_
    refine j_iconst X (v := 3) d_Mo_perform_295 (by decide) ?_
    refine j_isub X d_Mo_perform_296 ?_
    refine j_iload_n X d_Mo_perform_297 0 rfl ?_
    refine j_isub X d_Mo_perform_298 ?_
    obtain ⟨o158, hp⟩ := hp
    refine j_iald X 130 0 (by omega) y_stack rfl o158 d_Mo_perform_299 ?_
    obtain ⟨o159, hp⟩ := hp
    refine j_callV (st := []) X 124 (by omega) hY_Mo_push (c_Mo_push l D aC ad n hn c0 S5 (gR S5 130 (((gI S5 124 14) - 3) - ((gR S 125 (gI S 124 13).toNatClampNeg) >>> ((5 : Int32) &&& 31))).toNatClampNeg)  o159) mw_678 hI_Mo_push hS_Mo_push y_Mo rfl rfl rfl (Nat.le_of_ble_eq_true rfl) d_Mo_perform_300 rfl rfl ⟨by decide, by decide⟩ ⟨Nat.zero_le _, Nat.zero_le _⟩ (j_st (st' := []) rfl ?_)
    refine y_gen (fun S160 e161 => ?_)
    replace hp := hp S160 e161
    replace hF := hF.trans (px_let_eq e161)
    refine j_goto X (tgt := 375) d_Mo_perform_303 (by decide) ?_
    exact j_vret X hr hk rfl (by rw [hF]) d_Mo_perform_375
  replace hp := hp.2 h157
  replace hF := hF.trans (if_neg h157)
  by_cases h162 : ((gR S 125 (gI S 124 13).toNatClampNeg) &&& 31) = 18
  · replace hp := hp.1 h162
    replace hF := hF.trans (if_pos h162)
    refine j_tableIn X (tgt := 306) d_Mo_perform_46 (by rw [h162]; decide) (by rw [h162]; decide) (by rw [h162]; rfl) (by decide) ?_
    refine j_aload_n X d_Mo_perform_306 2 rfl ?_
    refine j_dup X d_Mo_perform_307 rfl ?_
    refine j_get X fd_Mo_72_Mo 124 (by omega) y_Mo rfl d_Mo_perform_308 ?_
    refine j_iconst X (v := 1) d_Mo_perform_311 (by decide) ?_
    refine j_iadd X d_Mo_perform_312 ?_
    refine j_put X fp_Mo_72_Mo 124 (by omega) y_Mo (Nat.le_of_ble_eq_true rfl) rfl rfl d_Mo_perform_313 (j_w (y_put_16) ?_)
    refine y_gen (fun S163 e164 => ?_)
    replace hp := hp S163 e164
    replace hF := hF.trans (px_let_eq e164)
    refine j_aload_n X d_Mo_perform_316 2 rfl ?_
    refine j_aload_n X d_Mo_perform_317 2 rfl ?_
    refine j_get X fd_Mo_13_Mo 124 (by omega) y_Mo rfl d_Mo_perform_318 ?_
    refine j_aload_n X d_Mo_perform_321 2 rfl ?_
    refine j_get X fd_Mo_72_Mo 124 (by omega) y_Mo rfl d_Mo_perform_322 ?_
    refine j_iconst X (v := 1) d_Mo_perform_325 (by decide) ?_
    refine j_isub X d_Mo_perform_326 ?_
    obtain ⟨o165, hp⟩ := hp
    refine j_iald X 126 0 (by omega) y_inputs rfl o165 d_Mo_perform_327 ?_
    obtain ⟨o166, hp⟩ := hp
    refine j_callV (st := []) X 124 (by omega) hY_Mo_push (c_Mo_push l D aC ad n hn c0 S163 (gR S163 126 ((gI S163 124 16) - 1).toNatClampNeg)  o166) mw_678 hI_Mo_push hS_Mo_push y_Mo rfl rfl rfl (Nat.le_of_ble_eq_true rfl) d_Mo_perform_328 rfl rfl ⟨by decide, by decide⟩ ⟨Nat.zero_le _, Nat.zero_le _⟩ (j_st (st' := []) rfl ?_)
    refine y_gen (fun S167 e168 => ?_)
    replace hp := hp S167 e168
    replace hF := hF.trans (px_let_eq e168)
    refine j_goto X (tgt := 375) d_Mo_perform_331 (by decide) ?_
    exact j_vret X hr hk rfl (by rw [hF]) d_Mo_perform_375
  replace hp := hp.2 h162
  replace hF := hF.trans (if_neg h162)
  by_cases h169 : ((gR S 125 (gI S 124 13).toNatClampNeg) &&& 31) = 19
  · replace hp := hp.1 h169
    replace hF := hF.trans (if_pos h169)
    refine j_tableIn X (tgt := 334) d_Mo_perform_46 (by rw [h169]; decide) (by rw [h169]; decide) (by rw [h169]; rfl) (by decide) ?_
    refine j_aload_n X d_Mo_perform_334 2 rfl ?_
    refine j_aload_n X d_Mo_perform_335 2 rfl ?_
    refine j_iload_n X d_Mo_perform_336 0 rfl ?_
    obtain ⟨o170, hp⟩ := hp
    refine j_callV (st := [.ref (ad 124)]) X 124 (by omega) hY_Mo_draw (c_Mo_draw l D aC ad n hn c0 S5 ((gR S 125 (gI S 124 13).toNatClampNeg) >>> ((5 : Int32) &&& 31))  o170) mw_698 hI_Mo_draw hS_Mo_draw y_Mo rfl rfl rfl (Nat.le_of_ble_eq_true rfl) d_Mo_perform_337 rfl rfl ⟨by decide, by decide⟩ ⟨Nat.zero_le _, Nat.zero_le _⟩ (j_st (st' := [.int ((f_Mo_draw S5 ((gR S 125 (gI S 124 13).toNatClampNeg) >>> ((5 : Int32) &&& 31))).1), .ref (ad 124)]) rfl ?_)
    refine y_gen (fun S171 e172 => ?_)
    replace hp := hp S171 e172
    replace hF := hF.trans (px_let_eq e172)
    refine j_topi (fun r173 e174 => ?_)
    replace hp := hp r173 e174
    replace hF := hF.trans (px_let_eq e174)
    obtain ⟨o175, hp⟩ := hp
    refine j_callV (st := []) X 124 (by omega) hY_Mo_push (c_Mo_push l D aC ad n hn c0 S171 r173  o175) mw_678 hI_Mo_push hS_Mo_push y_Mo rfl rfl rfl (Nat.le_of_ble_eq_true rfl) d_Mo_perform_340 rfl rfl ⟨by decide, by decide⟩ ⟨Nat.zero_le _, Nat.zero_le _⟩ (j_st (st' := []) rfl ?_)
    refine y_gen (fun S176 e177 => ?_)
    replace hp := hp S176 e177
    replace hF := hF.trans (px_let_eq e177)
    refine j_goto X (tgt := 375) d_Mo_perform_343 (by decide) ?_
    exact j_vret X hr hk rfl (by rw [hF]) d_Mo_perform_375
  replace hp := hp.2 h169
  replace hF := hF.trans (if_neg h169)
  by_cases h178 : ((gR S 125 (gI S 124 13).toNatClampNeg) &&& 31) = 20
  · replace hp := hp.1 h178
    replace hF := hF.trans (if_pos h178)
    refine j_tableIn X (tgt := 346) d_Mo_perform_46 (by rw [h178]; decide) (by rw [h178]; decide) (by rw [h178]; rfl) (by decide) ?_
    refine j_aload_n X d_Mo_perform_346 2 rfl ?_
    refine j_aload_n X d_Mo_perform_347 2 rfl ?_
    refine j_get X fd_Mo_69_Mo 124 (by omega) y_Mo rfl d_Mo_perform_348 ?_
    obtain ⟨o179, hp⟩ := hp
    refine j_callV (st := []) X 124 (by omega) hY_Mo_push (c_Mo_push l D aC ad n hn c0 S5 (gI S5 124 14)  o179) mw_678 hI_Mo_push hS_Mo_push y_Mo rfl rfl rfl (Nat.le_of_ble_eq_true rfl) d_Mo_perform_351 rfl rfl ⟨by decide, by decide⟩ ⟨Nat.zero_le _, Nat.zero_le _⟩ (j_st (st' := []) rfl ?_)
    refine y_gen (fun S180 e181 => ?_)
    replace hp := hp S180 e181
    replace hF := hF.trans (px_let_eq e181)
    refine j_goto X (tgt := 375) d_Mo_perform_354 (by decide) ?_
    exact j_vret X hr hk rfl (by rw [hF]) d_Mo_perform_375
  replace hp := hp.2 h178
  replace hF := hF.trans (if_neg h178)
  refine j_tableOut X (tgt := 357) d_Mo_perform_46 (by have := True.intro; have q0 := lv_neT h7 (a := 1) (by decide); have q1 := lv_neT h11 (a := 2) (by decide); have q2 := lv_neT h14 (a := 3) (by decide); have q3 := lv_neT h19 (a := 4) (by decide); have q4 := lv_neT h28 (a := 5) (by decide); have q5 := lv_neT h45 (a := 6) (by decide); have q6 := lv_neT h62 (a := 7) (by decide); have q7 := lv_neT h79 (a := 8) (by decide); have q8 := lv_neT h96 (a := 9) (by decide); have q9 := lv_neT h113 (a := 10) (by decide); have q10 := lv_neT h123 (a := 11) (by decide); have q11 := lv_neT h137 (a := 12) (by decide); have q12 := lv_neT h141 (a := 13) (by decide); have q13 := lv_neT h145 (a := 14) (by decide); have q14 := lv_neT h149 (a := 15) (by decide); have q15 := lv_neT h153 (a := 16) (by decide); have q16 := lv_neT h157 (a := 17) (by decide); have q17 := lv_neT h162 (a := 18) (by decide); have q18 := lv_neT h169 (a := 19) (by decide); have q19 := lv_neT h178 (a := 20) (by decide); omega) (by decide) ?_
  refine j_aload_n X d_Mo_perform_357 2 rfl ?_
  obtain ⟨o182, hp⟩ := hp
  refine j_callV (st := []) X 124 (by omega) hY_Mo_pop (c_Mo_pop l D aC ad n hn c0 S5   o182) mw_682 hI_Mo_pop hS_Mo_pop y_Mo rfl rfl rfl (Nat.le_of_ble_eq_true rfl) d_Mo_perform_358 rfl rfl ⟨by decide, by decide⟩ ⟨Nat.zero_le _, Nat.zero_le _⟩ (j_st (st' := [.int ((f_Mo_pop S5).1)]) rfl ?_)
  refine y_gen (fun S183 e184 => ?_)
  replace hp := hp S183 e184
  replace hF := hF.trans (px_let_eq e184)
  refine j_topi (fun r185 e186 => ?_)
  replace hp := hp r185 e186
  replace hF := hF.trans (px_let_eq e186)
  refine j_istore_n X d_Mo_perform_361 [(3, .int r185), (2, .int ((gR S 125 (gI S 124 13).toNatClampNeg) >>> ((5 : Int32) &&& 31))), (1, .int ((gR S 125 (gI S 124 13).toNatClampNeg) &&& 31)), (0, .ref (ad 124))] (by decide) rfl ?_
  refine j_aload_n X d_Mo_perform_362 3 rfl ?_
  refine j_iload_n X d_Mo_perform_363 2 rfl ?_
  refine j_aload_n X d_Mo_perform_364 3 rfl ?_
  obtain ⟨o187, hp⟩ := hp
  refine j_callV (st := [.int ((gR S 125 (gI S 124 13).toNatClampNeg) &&& 31), .ref (ad 124)]) X 124 (by omega) hY_Mo_pop (c_Mo_pop l D aC ad n hn c0 S183   o187) mw_682 hI_Mo_pop hS_Mo_pop y_Mo rfl rfl rfl (Nat.le_of_ble_eq_true rfl) d_Mo_perform_365 rfl rfl ⟨by decide, by decide⟩ ⟨Nat.zero_le _, Nat.zero_le _⟩ (j_st (st' := [.int ((f_Mo_pop S183).1), .int ((gR S 125 (gI S 124 13).toNatClampNeg) &&& 31), .ref (ad 124)]) rfl ?_)
  refine y_gen (fun S188 e189 => ?_)
  replace hp := hp S188 e189
  replace hF := hF.trans (px_let_eq e189)
  refine j_topi (fun r190 e191 => ?_)
  replace hp := hp r190 e191
  replace hF := hF.trans (px_let_eq e191)
  refine j_iload_n X d_Mo_perform_368 0 rfl ?_
  obtain ⟨o192, hp⟩ := hp
  refine j_callP (st := [.ref (ad 124)]) X hY_Mo_reckon (c_Mo_reckon l ((gR S 125 (gI S 124 13).toNatClampNeg) &&& 31) r190 r185 o192) mw_704 hT_Mo_reckon rfl rfl (Nat.le_of_ble_eq_true rfl) d_Mo_perform_369 rfl rfl ⟨by decide, by decide⟩ ⟨Nat.zero_le _, Nat.zero_le _⟩ (j_st (st' := [.int (f_Mo_reckon ((gR S 125 (gI S 124 13).toNatClampNeg) &&& 31) r190 r185), .ref (ad 124)]) rfl ?_)
  refine j_topi (fun r193 e194 => ?_)
  replace hp := hp r193 e194
  replace hF := hF.trans (px_let_eq e194)
  obtain ⟨o195, hp⟩ := hp
  refine j_callV (st := []) X 124 (by omega) hY_Mo_push (c_Mo_push l D aC ad n hn c0 S188 r193  o195) mw_678 hI_Mo_push hS_Mo_push y_Mo rfl rfl rfl (Nat.le_of_ble_eq_true rfl) d_Mo_perform_372 rfl rfl ⟨by decide, by decide⟩ ⟨Nat.zero_le _, Nat.zero_le _⟩ (j_st (st' := []) rfl ?_)
  refine y_gen (fun S196 e197 => ?_)
  replace hp := hp S196 e197
  replace hF := hF.trans (px_let_eq e197)
  exact j_vret X hr hk rfl (by rw [hF]) d_Mo_perform_375
