def f_Mo_thrown (S : xS)  : Int32 := gI S 124 10
abbrev rm_Mo_thrown : Room := { frames := 0, cells := 0, slots := 0, locals := 0 }
set_option maxHeartbeats 4000000 in
set_option maxRecDepth 100000 in
theorem c_Mo_thrown (l : Launch) (D : va_G) (aC : Nat → ClassId) (ad : Nat → Nat) (n : Nat) (hn : 135 ≤ n) (c0 : Nat → va_E) (S : xS)    : px_M l y_Mo_thrown (Cond.code y_Mo_thrown b_Mo_thrown 1 (some .int) :: WS) rm_Mo_thrown GG D CLS (TYS aC) [.ref (ad 124)] ad (ye aC ad S c0) n (some (.int (f_Mo_thrown S))) (ye aC ad S c0) := by
  obtain ⟨F, hF⟩ : ∃ F, F = f_Mo_thrown S := ⟨_, rfl⟩
  rw [← hF]
  unfold f_Mo_thrown at hF
  refine px_start GG_k (by decide) (Nat.le_of_ble_eq_true rfl) ?_
  intro p e s m args below meth cd X hr hk
  refine j_L (L' := [(0, .ref (ad 124))]) rfl ?_
  refine j_aload_n X d_Mo_thrown_0 0 rfl ?_
  refine j_get X fd_Mo_54_Mo 124 (by omega) y_Mo rfl d_Mo_thrown_1 ?_
  exact j_iret X hr hk (by rw [hF]) rfl d_Mo_thrown_4
def f_Mo_fail (S : xS) (k : Int32) : Int32 × xS := px_let (sI S 124 10 k) (fun S1 : xS => (0, S1))
abbrev rm_Mo_fail : Room := { frames := 0, cells := 0, slots := 0, locals := 0 }
set_option maxHeartbeats 4000000 in
set_option maxRecDepth 100000 in
theorem c_Mo_fail (l : Launch) (D : va_G) (aC : Nat → ClassId) (ad : Nat → Nat) (n : Nat) (hn : 135 ≤ n) (c0 : Nat → va_E) (S : xS) (k : Int32)   : px_M l y_Mo_fail (Cond.code y_Mo_fail b_Mo_fail 2 (some .int) :: WS) rm_Mo_fail GG D CLS (TYS aC) [.ref (ad 124), .int k] ad (ye aC ad S c0) n (some (.int (f_Mo_fail S k).1)) (ye aC ad (f_Mo_fail S k).2 c0) := by
  obtain ⟨F, hF⟩ : ∃ F, F = f_Mo_fail S k := ⟨_, rfl⟩
  rw [← hF]
  unfold f_Mo_fail at hF
  refine px_start GG_k (by decide) (Nat.le_of_ble_eq_true rfl) ?_
  intro p e s m args below meth cd X hr hk
  refine j_L (L' := [(0, .ref (ad 124)), (1, .int k)]) rfl ?_
  refine j_aload_n X d_Mo_fail_0 0 rfl ?_
  refine j_iload_n X d_Mo_fail_1 1 rfl ?_
  refine j_put X fp_Mo_54_Mo 124 (by omega) y_Mo (Nat.le_of_ble_eq_true rfl) rfl rfl d_Mo_fail_2 (j_w (y_put_10) ?_)
  refine y_gen (fun S1 e2 => ?_)
  skip
  replace hF := hF.trans (px_let_eq e2)
  refine j_iconst X (v := 0) d_Mo_fail_5 (by decide) ?_
  exact j_iret X hr hk (by rw [hF]) (by rw [hF]) d_Mo_fail_6
def f_Mo_poke (S : xS) (a : Int32) (w : Int32) : Int32 × xS := if a < 0 then px_let (sI S 124 10 1) (fun S2 : xS => if (gI S2 124 10) = 0 then px_let (sR S2 125 (upd (gR S2 125) a.toNatClampNeg w)) (fun S5 : xS => ((0 : Int32), S5)) else ((0 : Int32), S2)) else if a < 64 then if (gI S 124 18) ≤ 0 then px_let (sI S 124 10 0) (fun S10 : xS => if (gI S10 124 10) = 0 then px_let (sR S10 125 (upd (gR S10 125) a.toNatClampNeg w)) (fun S13 : xS => ((0 : Int32), S13)) else ((0 : Int32), S10)) else px_let (sI S 124 10 2) (fun S16 : xS => if (gI S16 124 10) = 0 then px_let (sR S16 125 (upd (gR S16 125) a.toNatClampNeg w)) (fun S19 : xS => ((0 : Int32), S19)) else ((0 : Int32), S16)) else px_let (sI S 124 10 1) (fun S22 : xS => if (gI S22 124 10) = 0 then px_let (sR S22 125 (upd (gR S22 125) a.toNatClampNeg w)) (fun S25 : xS => ((0 : Int32), S25)) else ((0 : Int32), S22))
def p_Mo_poke (S : xS) (a : Int32) (w : Int32) : Prop := (a < 0 → (∀ S2 : xS, S2 = sI S 124 10 1 → ((gI S2 124 10) = 0 → (vp_in a 64) ∧ ((∀ S5 : xS, S5 = sR S2 125 (upd (gR S2 125) a.toNatClampNeg w) → True))) ∧ (¬ (gI S2 124 10) = 0 → True))) ∧ (¬ a < 0 → (a < 64 → ((gI S 124 18) ≤ 0 → (∀ S10 : xS, S10 = sI S 124 10 0 → ((gI S10 124 10) = 0 → (vp_in a 64) ∧ ((∀ S13 : xS, S13 = sR S10 125 (upd (gR S10 125) a.toNatClampNeg w) → True))) ∧ (¬ (gI S10 124 10) = 0 → True))) ∧ (¬ (gI S 124 18) ≤ 0 → (∀ S16 : xS, S16 = sI S 124 10 2 → ((gI S16 124 10) = 0 → (vp_in a 64) ∧ ((∀ S19 : xS, S19 = sR S16 125 (upd (gR S16 125) a.toNatClampNeg w) → True))) ∧ (¬ (gI S16 124 10) = 0 → True)))) ∧ (¬ a < 64 → (∀ S22 : xS, S22 = sI S 124 10 1 → ((gI S22 124 10) = 0 → (vp_in a 64) ∧ ((∀ S25 : xS, S25 = sR S22 125 (upd (gR S22 125) a.toNatClampNeg w) → True))) ∧ (¬ (gI S22 124 10) = 0 → True))))
abbrev rm_Mo_poke : Room := { frames := 0, cells := 0, slots := 0, locals := 0 }
set_option maxHeartbeats 4000000 in
set_option maxRecDepth 100000 in
theorem c_Mo_poke (l : Launch) (D : va_G) (aC : Nat → ClassId) (ad : Nat → Nat) (n : Nat) (hn : 135 ≤ n) (c0 : Nat → va_E) (S : xS) (a : Int32) (w : Int32)  (hp : p_Mo_poke S a w) : px_M l y_Mo_poke (Cond.code y_Mo_poke b_Mo_poke 3 none :: WS) rm_Mo_poke GG D CLS (TYS aC) [.ref (ad 124), .int a, .int w] ad (ye aC ad S c0) n none (ye aC ad (f_Mo_poke S a w).2 c0) := by
  obtain ⟨F, hF⟩ : ∃ F, F = f_Mo_poke S a w := ⟨_, rfl⟩
  rw [← hF]
  unfold f_Mo_poke at hF
  refine px_start GG_k (by decide) (Nat.le_of_ble_eq_true rfl) ?_
  intro p e s m args below meth cd X hr hk
  refine j_L (L' := [(0, .ref (ad 124)), (1, .int a), (2, .int w)]) rfl ?_
  unfold p_Mo_poke at hp
  refine j_aload_n X d_Mo_poke_0 0 rfl ?_
  refine j_iload_n X d_Mo_poke_1 1 rfl ?_
  refine j_if_lt X (tgt := 11) d_Mo_poke_2 (by decide) (fun h1 => ?_) (fun h1 => ?_)
  · replace hp := hp.1 h1
    replace hF := hF.trans (if_pos h1)
    refine j_iconst X (v := 1) d_Mo_poke_11 (by decide) ?_
    refine j_goto X (tgt := 27) d_Mo_poke_12 (by decide) ?_
    refine j_put X fp_Mo_54_Mo 124 (by omega) y_Mo (Nat.le_of_ble_eq_true rfl) rfl rfl d_Mo_poke_27 (j_w (y_put_10) ?_)
    refine y_gen (fun S2 e3 => ?_)
    replace hp := hp S2 e3
    replace hF := hF.trans (px_let_eq e3)
    refine j_aload_n X d_Mo_poke_30 0 rfl ?_
    refine j_get X fd_Mo_54_Mo 124 (by omega) y_Mo rfl d_Mo_poke_31 ?_
    refine j_if_ne X (tgt := 44) d_Mo_poke_34 (by decide) (fun h4 => ?_) (fun h4 => ?_)
    · replace hp := hp.2 h4
      replace hF := hF.trans (if_neg h4)
      exact j_vret X hr hk rfl (by rw [hF]) d_Mo_poke_44
    · replace hp := hp.1 h4
      replace hF := hF.trans (if_pos h4)
      refine j_aload_n X d_Mo_poke_37 0 rfl ?_
      refine j_get X fd_Mo_7_Mo 124 (by omega) y_Mo rfl d_Mo_poke_38 ?_
      refine j_iload_n X d_Mo_poke_41 1 rfl ?_
      refine j_iload_n X d_Mo_poke_42 2 rfl ?_
      obtain ⟨o7, hp⟩ := hp
      refine j_iast X 125 0 (by omega) y_program rfl o7 d_Mo_poke_43 (j_w (y_ast_program) ?_)
      refine y_gen (fun S5 e6 => ?_)
      replace hp := hp S5 e6
      replace hF := hF.trans (px_let_eq e6)
      exact j_vret X hr hk rfl (by rw [hF]) d_Mo_poke_44
  · replace hp := hp.2 h1
    replace hF := hF.trans (if_neg h1)
    refine j_iload_n X d_Mo_poke_5 1 rfl ?_
    refine j_bipush X (v := 64) d_Mo_poke_6 (by decide) ?_
    refine j_icmp_lt X (tgt := 15) d_Mo_poke_8 (by decide) (fun h8 => ?_) (fun h8 => ?_)
    · replace hp := hp.1 h8
      replace hF := hF.trans (if_pos h8)
      refine j_aload_n X d_Mo_poke_15 0 rfl ?_
      refine j_get X fd_Mo_57_Mo 124 (by omega) y_Mo rfl d_Mo_poke_16 ?_
      refine j_if_le X (tgt := 26) d_Mo_poke_19 (by decide) (fun h9 => ?_) (fun h9 => ?_)
      · replace hp := hp.1 h9
        replace hF := hF.trans (if_pos h9)
        refine j_iconst X (v := 0) d_Mo_poke_26 (by decide) ?_
        refine j_put X fp_Mo_54_Mo 124 (by omega) y_Mo (Nat.le_of_ble_eq_true rfl) rfl rfl d_Mo_poke_27 (j_w (y_put_10) ?_)
        refine y_gen (fun S10 e11 => ?_)
        replace hp := hp S10 e11
        replace hF := hF.trans (px_let_eq e11)
        refine j_aload_n X d_Mo_poke_30 0 rfl ?_
        refine j_get X fd_Mo_54_Mo 124 (by omega) y_Mo rfl d_Mo_poke_31 ?_
        refine j_if_ne X (tgt := 44) d_Mo_poke_34 (by decide) (fun h12 => ?_) (fun h12 => ?_)
        · replace hp := hp.2 h12
          replace hF := hF.trans (if_neg h12)
          exact j_vret X hr hk rfl (by rw [hF]) d_Mo_poke_44
        · replace hp := hp.1 h12
          replace hF := hF.trans (if_pos h12)
          refine j_aload_n X d_Mo_poke_37 0 rfl ?_
          refine j_get X fd_Mo_7_Mo 124 (by omega) y_Mo rfl d_Mo_poke_38 ?_
          refine j_iload_n X d_Mo_poke_41 1 rfl ?_
          refine j_iload_n X d_Mo_poke_42 2 rfl ?_
          obtain ⟨o15, hp⟩ := hp
          refine j_iast X 125 0 (by omega) y_program rfl o15 d_Mo_poke_43 (j_w (y_ast_program) ?_)
          refine y_gen (fun S13 e14 => ?_)
          replace hp := hp S13 e14
          replace hF := hF.trans (px_let_eq e14)
          exact j_vret X hr hk rfl (by rw [hF]) d_Mo_poke_44
      · replace hp := hp.2 h9
        replace hF := hF.trans (if_neg h9)
        refine j_iconst X (v := 2) d_Mo_poke_22 (by decide) ?_
        refine j_goto X (tgt := 27) d_Mo_poke_23 (by decide) ?_
        refine j_put X fp_Mo_54_Mo 124 (by omega) y_Mo (Nat.le_of_ble_eq_true rfl) rfl rfl d_Mo_poke_27 (j_w (y_put_10) ?_)
        refine y_gen (fun S16 e17 => ?_)
        replace hp := hp S16 e17
        replace hF := hF.trans (px_let_eq e17)
        refine j_aload_n X d_Mo_poke_30 0 rfl ?_
        refine j_get X fd_Mo_54_Mo 124 (by omega) y_Mo rfl d_Mo_poke_31 ?_
        refine j_if_ne X (tgt := 44) d_Mo_poke_34 (by decide) (fun h18 => ?_) (fun h18 => ?_)
        · replace hp := hp.2 h18
          replace hF := hF.trans (if_neg h18)
          exact j_vret X hr hk rfl (by rw [hF]) d_Mo_poke_44
        · replace hp := hp.1 h18
          replace hF := hF.trans (if_pos h18)
          refine j_aload_n X d_Mo_poke_37 0 rfl ?_
          refine j_get X fd_Mo_7_Mo 124 (by omega) y_Mo rfl d_Mo_poke_38 ?_
          refine j_iload_n X d_Mo_poke_41 1 rfl ?_
          refine j_iload_n X d_Mo_poke_42 2 rfl ?_
          obtain ⟨o21, hp⟩ := hp
          refine j_iast X 125 0 (by omega) y_program rfl o21 d_Mo_poke_43 (j_w (y_ast_program) ?_)
          refine y_gen (fun S19 e20 => ?_)
          replace hp := hp S19 e20
          replace hF := hF.trans (px_let_eq e20)
          exact j_vret X hr hk rfl (by rw [hF]) d_Mo_poke_44
    · replace hp := hp.2 h8
      replace hF := hF.trans (if_neg h8)
      refine j_iconst X (v := 1) d_Mo_poke_11 (by decide) ?_
      refine j_goto X (tgt := 27) d_Mo_poke_12 (by decide) ?_
      refine j_put X fp_Mo_54_Mo 124 (by omega) y_Mo (Nat.le_of_ble_eq_true rfl) rfl rfl d_Mo_poke_27 (j_w (y_put_10) ?_)
      refine y_gen (fun S22 e23 => ?_)
      replace hp := hp S22 e23
      replace hF := hF.trans (px_let_eq e23)
      refine j_aload_n X d_Mo_poke_30 0 rfl ?_
      refine j_get X fd_Mo_54_Mo 124 (by omega) y_Mo rfl d_Mo_poke_31 ?_
      refine j_if_ne X (tgt := 44) d_Mo_poke_34 (by decide) (fun h24 => ?_) (fun h24 => ?_)
      · replace hp := hp.2 h24
        replace hF := hF.trans (if_neg h24)
        exact j_vret X hr hk rfl (by rw [hF]) d_Mo_poke_44
      · replace hp := hp.1 h24
        replace hF := hF.trans (if_pos h24)
        refine j_aload_n X d_Mo_poke_37 0 rfl ?_
        refine j_get X fd_Mo_7_Mo 124 (by omega) y_Mo rfl d_Mo_poke_38 ?_
        refine j_iload_n X d_Mo_poke_41 1 rfl ?_
        refine j_iload_n X d_Mo_poke_42 2 rfl ?_
        obtain ⟨o27, hp⟩ := hp
        refine j_iast X 125 0 (by omega) y_program rfl o27 d_Mo_poke_43 (j_w (y_ast_program) ?_)
        refine y_gen (fun S25 e26 => ?_)
        replace hp := hp S25 e26
        replace hF := hF.trans (px_let_eq e26)
        exact j_vret X hr hk rfl (by rw [hF]) d_Mo_poke_44
def f_Mo_input (S : xS) (v : Int32) : Int32 × xS := px_let (sI S 124 10 0) (fun S1 : xS => if (gI S1 124 11) = 40 then ((-1), S1) else px_let (sR S1 126 (upd (gR S1 126) (gI S1 124 11).toNatClampNeg v)) (fun S4 : xS => px_let (sI S4 124 11 ((gI S4 124 11) + 1)) (fun S7 : xS => (gI S7 124 11, S7))))
def p_Mo_input (S : xS) (v : Int32) : Prop := (∀ S1 : xS, S1 = sI S 124 10 0 → ((gI S1 124 11) = 40 → True) ∧ (¬ (gI S1 124 11) = 40 → (vp_in (gI S1 124 11) 40) ∧ ((∀ S4 : xS, S4 = sR S1 126 (upd (gR S1 126) (gI S1 124 11).toNatClampNeg v) → (∀ S7 : xS, S7 = sI S4 124 11 ((gI S4 124 11) + 1) → True)))))
abbrev rm_Mo_input : Room := { frames := 0, cells := 0, slots := 0, locals := 0 }
set_option maxHeartbeats 4000000 in
set_option maxRecDepth 100000 in
theorem c_Mo_input (l : Launch) (D : va_G) (aC : Nat → ClassId) (ad : Nat → Nat) (n : Nat) (hn : 135 ≤ n) (c0 : Nat → va_E) (S : xS) (v : Int32)  (hp : p_Mo_input S v) : px_M l y_Mo_input (Cond.code y_Mo_input b_Mo_input 2 (some .int) :: WS) rm_Mo_input GG D CLS (TYS aC) [.ref (ad 124), .int v] ad (ye aC ad S c0) n (some (.int (f_Mo_input S v).1)) (ye aC ad (f_Mo_input S v).2 c0) := by
  obtain ⟨F, hF⟩ : ∃ F, F = f_Mo_input S v := ⟨_, rfl⟩
  rw [← hF]
  unfold f_Mo_input at hF
  refine px_start GG_k (by decide) (Nat.le_of_ble_eq_true rfl) ?_
  intro p e s m args below meth cd X hr hk
  refine j_L (L' := [(0, .ref (ad 124)), (1, .int v)]) rfl ?_
  unfold p_Mo_input at hp
  refine j_aload_n X d_Mo_input_0 0 rfl ?_
  refine j_iconst X (v := 0) d_Mo_input_1 (by decide) ?_
  refine j_put X fp_Mo_54_Mo 124 (by omega) y_Mo (Nat.le_of_ble_eq_true rfl) rfl rfl d_Mo_input_2 (j_w (y_put_10) ?_)
  refine y_gen (fun S1 e2 => ?_)
  replace hp := hp S1 e2
  replace hF := hF.trans (px_let_eq e2)
  refine j_aload_n X d_Mo_input_5 0 rfl ?_
  refine j_get X fd_Mo_60_Mo 124 (by omega) y_Mo rfl d_Mo_input_6 ?_
  refine j_bipush X (v := 40) d_Mo_input_9 (by decide) ?_
  refine j_icmp_ne X (tgt := 16) d_Mo_input_11 (by decide) (fun h3 => ?_) (fun h3 => ?_)
  · replace hp := hp.2 h3
    replace hF := hF.trans (if_neg h3)
    refine j_aload_n X d_Mo_input_16 0 rfl ?_
    refine j_get X fd_Mo_13_Mo 124 (by omega) y_Mo rfl d_Mo_input_17 ?_
    refine j_aload_n X d_Mo_input_20 0 rfl ?_
    refine j_get X fd_Mo_60_Mo 124 (by omega) y_Mo rfl d_Mo_input_21 ?_
    refine j_iload_n X d_Mo_input_24 1 rfl ?_
    obtain ⟨o6, hp⟩ := hp
    refine j_iast X 126 0 (by omega) y_inputs rfl o6 d_Mo_input_25 (j_w (y_ast_inputs) ?_)
    refine y_gen (fun S4 e5 => ?_)
    replace hp := hp S4 e5
    replace hF := hF.trans (px_let_eq e5)
    refine j_aload_n X d_Mo_input_26 0 rfl ?_
    refine j_dup X d_Mo_input_27 rfl ?_
    refine j_get X fd_Mo_60_Mo 124 (by omega) y_Mo rfl d_Mo_input_28 ?_
    refine j_iconst X (v := 1) d_Mo_input_31 (by decide) ?_
    refine j_iadd X d_Mo_input_32 ?_
    refine j_put X fp_Mo_60_Mo 124 (by omega) y_Mo (Nat.le_of_ble_eq_true rfl) rfl rfl d_Mo_input_33 (j_w (y_put_11) ?_)
    refine y_gen (fun S7 e8 => ?_)
    replace hp := hp S7 e8
    replace hF := hF.trans (px_let_eq e8)
    refine j_aload_n X d_Mo_input_36 0 rfl ?_
    refine j_get X fd_Mo_60_Mo 124 (by omega) y_Mo rfl d_Mo_input_37 ?_
    exact j_iret X hr hk (by rw [hF]) (by rw [hF]) d_Mo_input_40
  · replace hp := hp.1 h3
    replace hF := hF.trans (if_pos h3)
    refine j_iconst X (v := (-1)) d_Mo_input_14 (by decide) ?_
    exact j_iret X hr hk (by rw [hF]) (by rw [hF]) d_Mo_input_15
def f_Mo_isArgument (S : xS) (k : Int32) : Int32 := if ((gI S 124 14) - 3) < k then 0 else if k ≤ (((gI S 124 14) - 3) - (gI S 124 17)) then 0 else 1
abbrev rm_Mo_isArgument : Room := { frames := 0, cells := 0, slots := 0, locals := 0 }
set_option maxHeartbeats 4000000 in
set_option maxRecDepth 100000 in
theorem c_Mo_isArgument (l : Launch) (D : va_G) (aC : Nat → ClassId) (ad : Nat → Nat) (n : Nat) (hn : 135 ≤ n) (c0 : Nat → va_E) (S : xS) (k : Int32)   : px_M l y_Mo_isArgument (Cond.code y_Mo_isArgument b_Mo_isArgument 3 (some .boolean) :: WS) rm_Mo_isArgument GG D CLS (TYS aC) [.ref (ad 124), .int k] ad (ye aC ad S c0) n (some (.int (f_Mo_isArgument S k))) (ye aC ad S c0) := by
  obtain ⟨F, hF⟩ : ∃ F, F = f_Mo_isArgument S k := ⟨_, rfl⟩
  rw [← hF]
  unfold f_Mo_isArgument at hF
  refine px_start GG_k (by decide) (Nat.le_of_ble_eq_true rfl) ?_
  intro p e s m args below meth cd X hr hk
  refine j_L (L' := [(0, .ref (ad 124)), (1, .int k)]) rfl ?_
  refine j_aload_n X d_Mo_isArgument_0 0 rfl ?_
  refine j_get X fd_Mo_69_Mo 124 (by omega) y_Mo rfl d_Mo_isArgument_1 ?_
  refine j_iconst X (v := 3) d_Mo_isArgument_4 (by decide) ?_
  refine j_isub X d_Mo_isArgument_5 ?_
  refine j_istore_n X d_Mo_isArgument_6 [(2, .int ((gI S 124 14) - 3)), (0, .ref (ad 124)), (1, .int k)] (by decide) rfl ?_
  refine j_iload_n X d_Mo_isArgument_7 2 rfl ?_
  refine j_iload_n X d_Mo_isArgument_8 0 rfl ?_
  refine j_icmp_gt X (tgt := 26) d_Mo_isArgument_9 (by decide) (fun h1 => ?_) (fun h1 => ?_)
  · skip
    replace hF := hF.trans (if_pos h1)
    refine j_iconst X (v := 0) d_Mo_isArgument_26 (by decide) ?_
    exact j_zret X hr hk rfl (by rw [hF]) rfl d_Mo_isArgument_27
  · skip
    replace hF := hF.trans (if_neg h1)
    refine j_iload_n X d_Mo_isArgument_12 2 rfl ?_
    refine j_iload_n X d_Mo_isArgument_13 0 rfl ?_
    refine j_aload_n X d_Mo_isArgument_14 1 rfl ?_
    refine j_get X fd_Mo_75_Mo 124 (by omega) y_Mo rfl d_Mo_isArgument_15 ?_
    refine j_isub X d_Mo_isArgument_18 ?_
    refine j_icmp_le X (tgt := 26) d_Mo_isArgument_19 (by decide) (fun h2 => ?_) (fun h2 => ?_)
    · skip
      replace hF := hF.trans (if_pos h2)
      refine j_iconst X (v := 0) d_Mo_isArgument_26 (by decide) ?_
      exact j_zret X hr hk rfl (by rw [hF]) rfl d_Mo_isArgument_27
    · skip
      replace hF := hF.trans (if_neg h2)
      refine j_iconst X (v := 1) d_Mo_isArgument_22 (by decide) ?_
      refine j_goto X (tgt := 27) d_Mo_isArgument_23 (by decide) ?_
      exact j_zret X hr hk rfl (by rw [hF]) rfl d_Mo_isArgument_27
def f_Mo_check (S : xS)  : Int32 := if (gI S 124 13) < 0 then 4 else if (gI S 124 13) < 64 then if ((gR S 125 (gI S 124 13).toNatClampNeg) &&& 31) ≤ 20 then if ((gR S 125 (gI S 124 13).toNatClampNeg) &&& 31) = 0 then 1 else px_let (f_Mo_needs ((gR S 125 (gI S 124 13).toNatClampNeg) &&& 31)) (fun r7 : Int32 => if (gI S 124 17) < r7 then 2 else if ((gR S 125 (gI S 124 13).toNatClampNeg) &&& 31) = 16 then if (gI S 124 14) < 2 then 2 else if (gI S 124 17) ≤ (gI S 124 14) then 2 else if ((gR S 125 (gI S 124 13).toNatClampNeg) &&& 31) = 17 then px_let (f_Mo_isArgument S ((gR S 125 (gI S 124 13).toNatClampNeg) >>> ((5 : Int32) &&& 31))) (fun r14 : Int32 => if r14 = 0 then 2 else if (gI S 124 17) ≤ 0 then if ((gR S 125 (gI S 124 13).toNatClampNeg) &&& 31) = 10 then if ((gR S 125 (gI S 124 13).toNatClampNeg) &&& 31) = 8 then 6 else if ((gR S 125 (gI S 124 13).toNatClampNeg) &&& 31) = 19 then if 1 ≤ ((gR S 125 (gI S 124 13).toNatClampNeg) >>> ((5 : Int32) &&& 31)) then if ((gR S 125 (gI S 124 13).toNatClampNeg) &&& 31) = 18 then if (gI S 124 16) = (gI S 124 11) then 7 else px_let (f_Mo_grows ((gR S 125 (gI S 124 13).toNatClampNeg) &&& 31)) (fun r27 : Int32 => if ((gI S 124 17) + r27) ≤ 24 then 0 else 3) else px_let (f_Mo_grows ((gR S 125 (gI S 124 13).toNatClampNeg) &&& 31)) (fun r30 : Int32 => if ((gI S 124 17) + r30) ≤ 24 then 0 else 3) else 6 else if ((gR S 125 (gI S 124 13).toNatClampNeg) &&& 31) = 18 then if (gI S 124 16) = (gI S 124 11) then 7 else px_let (f_Mo_grows ((gR S 125 (gI S 124 13).toNatClampNeg) &&& 31)) (fun r35 : Int32 => if ((gI S 124 17) + r35) ≤ 24 then 0 else 3) else px_let (f_Mo_grows ((gR S 125 (gI S 124 13).toNatClampNeg) &&& 31)) (fun r38 : Int32 => if ((gI S 124 17) + r38) ≤ 24 then 0 else 3) else if ((gR S 125 (gI S 124 13).toNatClampNeg) &&& 31) = 11 then if ((gR S 125 (gI S 124 13).toNatClampNeg) &&& 31) = 8 then 6 else if ((gR S 125 (gI S 124 13).toNatClampNeg) &&& 31) = 19 then if 1 ≤ ((gR S 125 (gI S 124 13).toNatClampNeg) >>> ((5 : Int32) &&& 31)) then if ((gR S 125 (gI S 124 13).toNatClampNeg) &&& 31) = 18 then if (gI S 124 16) = (gI S 124 11) then 7 else px_let (f_Mo_grows ((gR S 125 (gI S 124 13).toNatClampNeg) &&& 31)) (fun r50 : Int32 => if ((gI S 124 17) + r50) ≤ 24 then 0 else 3) else px_let (f_Mo_grows ((gR S 125 (gI S 124 13).toNatClampNeg) &&& 31)) (fun r53 : Int32 => if ((gI S 124 17) + r53) ≤ 24 then 0 else 3) else 6 else if ((gR S 125 (gI S 124 13).toNatClampNeg) &&& 31) = 18 then if (gI S 124 16) = (gI S 124 11) then 7 else px_let (f_Mo_grows ((gR S 125 (gI S 124 13).toNatClampNeg) &&& 31)) (fun r58 : Int32 => if ((gI S 124 17) + r58) ≤ 24 then 0 else 3) else px_let (f_Mo_grows ((gR S 125 (gI S 124 13).toNatClampNeg) &&& 31)) (fun r61 : Int32 => if ((gI S 124 17) + r61) ≤ 24 then 0 else 3) else if ((gR S 125 (gI S 124 13).toNatClampNeg) &&& 31) = 8 then 6 else if ((gR S 125 (gI S 124 13).toNatClampNeg) &&& 31) = 19 then if 1 ≤ ((gR S 125 (gI S 124 13).toNatClampNeg) >>> ((5 : Int32) &&& 31)) then if ((gR S 125 (gI S 124 13).toNatClampNeg) &&& 31) = 18 then if (gI S 124 16) = (gI S 124 11) then 7 else px_let (f_Mo_grows ((gR S 125 (gI S 124 13).toNatClampNeg) &&& 31)) (fun r70 : Int32 => if ((gI S 124 17) + r70) ≤ 24 then 0 else 3) else px_let (f_Mo_grows ((gR S 125 (gI S 124 13).toNatClampNeg) &&& 31)) (fun r73 : Int32 => if ((gI S 124 17) + r73) ≤ 24 then 0 else 3) else 6 else if ((gR S 125 (gI S 124 13).toNatClampNeg) &&& 31) = 18 then if (gI S 124 16) = (gI S 124 11) then 7 else px_let (f_Mo_grows ((gR S 125 (gI S 124 13).toNatClampNeg) &&& 31)) (fun r78 : Int32 => if ((gI S 124 17) + r78) ≤ 24 then 0 else 3) else px_let (f_Mo_grows ((gR S 125 (gI S 124 13).toNatClampNeg) &&& 31)) (fun r81 : Int32 => if ((gI S 124 17) + r81) ≤ 24 then 0 else 3) else if ((gR S 125 (gI S 124 13).toNatClampNeg) &&& 31) = 10 then if (gR S 130 ((gI S 124 17) - 1).toNatClampNeg) < 0 then 4 else if (gR S 130 ((gI S 124 17) - 1).toNatClampNeg) < 32 then if ((gR S 125 (gI S 124 13).toNatClampNeg) &&& 31) = 8 then if (gR S 130 ((gI S 124 17) - 1).toNatClampNeg) = 0 then 6 else if ((gR S 125 (gI S 124 13).toNatClampNeg) &&& 31) = 19 then if 1 ≤ ((gR S 125 (gI S 124 13).toNatClampNeg) >>> ((5 : Int32) &&& 31)) then if ((gR S 125 (gI S 124 13).toNatClampNeg) &&& 31) = 18 then if (gI S 124 16) = (gI S 124 11) then 7 else px_let (f_Mo_grows ((gR S 125 (gI S 124 13).toNatClampNeg) &&& 31)) (fun r94 : Int32 => if ((gI S 124 17) + r94) ≤ 24 then 0 else 3) else px_let (f_Mo_grows ((gR S 125 (gI S 124 13).toNatClampNeg) &&& 31)) (fun r97 : Int32 => if ((gI S 124 17) + r97) ≤ 24 then 0 else 3) else 6 else if ((gR S 125 (gI S 124 13).toNatClampNeg) &&& 31) = 18 then if (gI S 124 16) = (gI S 124 11) then 7 else px_let (f_Mo_grows ((gR S 125 (gI S 124 13).toNatClampNeg) &&& 31)) (fun r102 : Int32 => if ((gI S 124 17) + r102) ≤ 24 then 0 else 3) else px_let (f_Mo_grows ((gR S 125 (gI S 124 13).toNatClampNeg) &&& 31)) (fun r105 : Int32 => if ((gI S 124 17) + r105) ≤ 24 then 0 else 3) else if ((gR S 125 (gI S 124 13).toNatClampNeg) &&& 31) = 19 then if 1 ≤ ((gR S 125 (gI S 124 13).toNatClampNeg) >>> ((5 : Int32) &&& 31)) then if ((gR S 125 (gI S 124 13).toNatClampNeg) &&& 31) = 18 then if (gI S 124 16) = (gI S 124 11) then 7 else px_let (f_Mo_grows ((gR S 125 (gI S 124 13).toNatClampNeg) &&& 31)) (fun r112 : Int32 => if ((gI S 124 17) + r112) ≤ 24 then 0 else 3) else px_let (f_Mo_grows ((gR S 125 (gI S 124 13).toNatClampNeg) &&& 31)) (fun r115 : Int32 => if ((gI S 124 17) + r115) ≤ 24 then 0 else 3) else 6 else if ((gR S 125 (gI S 124 13).toNatClampNeg) &&& 31) = 18 then if (gI S 124 16) = (gI S 124 11) then 7 else px_let (f_Mo_grows ((gR S 125 (gI S 124 13).toNatClampNeg) &&& 31)) (fun r120 : Int32 => if ((gI S 124 17) + r120) ≤ 24 then 0 else 3) else px_let (f_Mo_grows ((gR S 125 (gI S 124 13).toNatClampNeg) &&& 31)) (fun r123 : Int32 => if ((gI S 124 17) + r123) ≤ 24 then 0 else 3) else 4 else if ((gR S 125 (gI S 124 13).toNatClampNeg) &&& 31) = 11 then if (gR S 130 ((gI S 124 17) - 1).toNatClampNeg) < 0 then 4 else if (gR S 130 ((gI S 124 17) - 1).toNatClampNeg) < 32 then if ((gR S 125 (gI S 124 13).toNatClampNeg) &&& 31) = 8 then if (gR S 130 ((gI S 124 17) - 1).toNatClampNeg) = 0 then 6 else if ((gR S 125 (gI S 124 13).toNatClampNeg) &&& 31) = 19 then if 1 ≤ ((gR S 125 (gI S 124 13).toNatClampNeg) >>> ((5 : Int32) &&& 31)) then if ((gR S 125 (gI S 124 13).toNatClampNeg) &&& 31) = 18 then if (gI S 124 16) = (gI S 124 11) then 7 else px_let (f_Mo_grows ((gR S 125 (gI S 124 13).toNatClampNeg) &&& 31)) (fun r135 : Int32 => if ((gI S 124 17) + r135) ≤ 24 then 0 else 3) else px_let (f_Mo_grows ((gR S 125 (gI S 124 13).toNatClampNeg) &&& 31)) (fun r138 : Int32 => if ((gI S 124 17) + r138) ≤ 24 then 0 else 3) else 6 else if ((gR S 125 (gI S 124 13).toNatClampNeg) &&& 31) = 18 then if (gI S 124 16) = (gI S 124 11) then 7 else px_let (f_Mo_grows ((gR S 125 (gI S 124 13).toNatClampNeg) &&& 31)) (fun r143 : Int32 => if ((gI S 124 17) + r143) ≤ 24 then 0 else 3) else px_let (f_Mo_grows ((gR S 125 (gI S 124 13).toNatClampNeg) &&& 31)) (fun r146 : Int32 => if ((gI S 124 17) + r146) ≤ 24 then 0 else 3) else if ((gR S 125 (gI S 124 13).toNatClampNeg) &&& 31) = 19 then if 1 ≤ ((gR S 125 (gI S 124 13).toNatClampNeg) >>> ((5 : Int32) &&& 31)) then if ((gR S 125 (gI S 124 13).toNatClampNeg) &&& 31) = 18 then if (gI S 124 16) = (gI S 124 11) then 7 else px_let (f_Mo_grows ((gR S 125 (gI S 124 13).toNatClampNeg) &&& 31)) (fun r153 : Int32 => if ((gI S 124 17) + r153) ≤ 24 then 0 else 3) else px_let (f_Mo_grows ((gR S 125 (gI S 124 13).toNatClampNeg) &&& 31)) (fun r156 : Int32 => if ((gI S 124 17) + r156) ≤ 24 then 0 else 3) else 6 else if ((gR S 125 (gI S 124 13).toNatClampNeg) &&& 31) = 18 then if (gI S 124 16) = (gI S 124 11) then 7 else px_let (f_Mo_grows ((gR S 125 (gI S 124 13).toNatClampNeg) &&& 31)) (fun r161 : Int32 => if ((gI S 124 17) + r161) ≤ 24 then 0 else 3) else px_let (f_Mo_grows ((gR S 125 (gI S 124 13).toNatClampNeg) &&& 31)) (fun r164 : Int32 => if ((gI S 124 17) + r164) ≤ 24 then 0 else 3) else 4 else if ((gR S 125 (gI S 124 13).toNatClampNeg) &&& 31) = 8 then if (gR S 130 ((gI S 124 17) - 1).toNatClampNeg) = 0 then 6 else if ((gR S 125 (gI S 124 13).toNatClampNeg) &&& 31) = 19 then if 1 ≤ ((gR S 125 (gI S 124 13).toNatClampNeg) >>> ((5 : Int32) &&& 31)) then if ((gR S 125 (gI S 124 13).toNatClampNeg) &&& 31) = 18 then if (gI S 124 16) = (gI S 124 11) then 7 else px_let (f_Mo_grows ((gR S 125 (gI S 124 13).toNatClampNeg) &&& 31)) (fun r173 : Int32 => if ((gI S 124 17) + r173) ≤ 24 then 0 else 3) else px_let (f_Mo_grows ((gR S 125 (gI S 124 13).toNatClampNeg) &&& 31)) (fun r176 : Int32 => if ((gI S 124 17) + r176) ≤ 24 then 0 else 3) else 6 else if ((gR S 125 (gI S 124 13).toNatClampNeg) &&& 31) = 18 then if (gI S 124 16) = (gI S 124 11) then 7 else px_let (f_Mo_grows ((gR S 125 (gI S 124 13).toNatClampNeg) &&& 31)) (fun r181 : Int32 => if ((gI S 124 17) + r181) ≤ 24 then 0 else 3) else px_let (f_Mo_grows ((gR S 125 (gI S 124 13).toNatClampNeg) &&& 31)) (fun r184 : Int32 => if ((gI S 124 17) + r184) ≤ 24 then 0 else 3) else if ((gR S 125 (gI S 124 13).toNatClampNeg) &&& 31) = 19 then if 1 ≤ ((gR S 125 (gI S 124 13).toNatClampNeg) >>> ((5 : Int32) &&& 31)) then if ((gR S 125 (gI S 124 13).toNatClampNeg) &&& 31) = 18 then if (gI S 124 16) = (gI S 124 11) then 7 else px_let (f_Mo_grows ((gR S 125 (gI S 124 13).toNatClampNeg) &&& 31)) (fun r191 : Int32 => if ((gI S 124 17) + r191) ≤ 24 then 0 else 3) else px_let (f_Mo_grows ((gR S 125 (gI S 124 13).toNatClampNeg) &&& 31)) (fun r194 : Int32 => if ((gI S 124 17) + r194) ≤ 24 then 0 else 3) else 6 else if ((gR S 125 (gI S 124 13).toNatClampNeg) &&& 31) = 18 then if (gI S 124 16) = (gI S 124 11) then 7 else px_let (f_Mo_grows ((gR S 125 (gI S 124 13).toNatClampNeg) &&& 31)) (fun r199 : Int32 => if ((gI S 124 17) + r199) ≤ 24 then 0 else 3) else px_let (f_Mo_grows ((gR S 125 (gI S 124 13).toNatClampNeg) &&& 31)) (fun r202 : Int32 => if ((gI S 124 17) + r202) ≤ 24 then 0 else 3)) else if (gI S 124 17) ≤ 0 then if ((gR S 125 (gI S 124 13).toNatClampNeg) &&& 31) = 10 then if ((gR S 125 (gI S 124 13).toNatClampNeg) &&& 31) = 8 then 6 else if ((gR S 125 (gI S 124 13).toNatClampNeg) &&& 31) = 19 then if 1 ≤ ((gR S 125 (gI S 124 13).toNatClampNeg) >>> ((5 : Int32) &&& 31)) then if ((gR S 125 (gI S 124 13).toNatClampNeg) &&& 31) = 18 then if (gI S 124 16) = (gI S 124 11) then 7 else px_let (f_Mo_grows ((gR S 125 (gI S 124 13).toNatClampNeg) &&& 31)) (fun r215 : Int32 => if ((gI S 124 17) + r215) ≤ 24 then 0 else 3) else px_let (f_Mo_grows ((gR S 125 (gI S 124 13).toNatClampNeg) &&& 31)) (fun r218 : Int32 => if ((gI S 124 17) + r218) ≤ 24 then 0 else 3) else 6 else if ((gR S 125 (gI S 124 13).toNatClampNeg) &&& 31) = 18 then if (gI S 124 16) = (gI S 124 11) then 7 else px_let (f_Mo_grows ((gR S 125 (gI S 124 13).toNatClampNeg) &&& 31)) (fun r223 : Int32 => if ((gI S 124 17) + r223) ≤ 24 then 0 else 3) else px_let (f_Mo_grows ((gR S 125 (gI S 124 13).toNatClampNeg) &&& 31)) (fun r226 : Int32 => if ((gI S 124 17) + r226) ≤ 24 then 0 else 3) else if ((gR S 125 (gI S 124 13).toNatClampNeg) &&& 31) = 11 then if ((gR S 125 (gI S 124 13).toNatClampNeg) &&& 31) = 8 then 6 else if ((gR S 125 (gI S 124 13).toNatClampNeg) &&& 31) = 19 then if 1 ≤ ((gR S 125 (gI S 124 13).toNatClampNeg) >>> ((5 : Int32) &&& 31)) then if ((gR S 125 (gI S 124 13).toNatClampNeg) &&& 31) = 18 then if (gI S 124 16) = (gI S 124 11) then 7 else px_let (f_Mo_grows ((gR S 125 (gI S 124 13).toNatClampNeg) &&& 31)) (fun r238 : Int32 => if ((gI S 124 17) + r238) ≤ 24 then 0 else 3) else px_let (f_Mo_grows ((gR S 125 (gI S 124 13).toNatClampNeg) &&& 31)) (fun r241 : Int32 => if ((gI S 124 17) + r241) ≤ 24 then 0 else 3) else 6 else if ((gR S 125 (gI S 124 13).toNatClampNeg) &&& 31) = 18 then if (gI S 124 16) = (gI S 124 11) then 7 else px_let (f_Mo_grows ((gR S 125 (gI S 124 13).toNatClampNeg) &&& 31)) (fun r246 : Int32 => if ((gI S 124 17) + r246) ≤ 24 then 0 else 3) else px_let (f_Mo_grows ((gR S 125 (gI S 124 13).toNatClampNeg) &&& 31)) (fun r249 : Int32 => if ((gI S 124 17) + r249) ≤ 24 then 0 else 3) else if ((gR S 125 (gI S 124 13).toNatClampNeg) &&& 31) = 8 then 6 else if ((gR S 125 (gI S 124 13).toNatClampNeg) &&& 31) = 19 then if 1 ≤ ((gR S 125 (gI S 124 13).toNatClampNeg) >>> ((5 : Int32) &&& 31)) then if ((gR S 125 (gI S 124 13).toNatClampNeg) &&& 31) = 18 then if (gI S 124 16) = (gI S 124 11) then 7 else px_let (f_Mo_grows ((gR S 125 (gI S 124 13).toNatClampNeg) &&& 31)) (fun r258 : Int32 => if ((gI S 124 17) + r258) ≤ 24 then 0 else 3) else px_let (f_Mo_grows ((gR S 125 (gI S 124 13).toNatClampNeg) &&& 31)) (fun r261 : Int32 => if ((gI S 124 17) + r261) ≤ 24 then 0 else 3) else 6 else if ((gR S 125 (gI S 124 13).toNatClampNeg) &&& 31) = 18 then if (gI S 124 16) = (gI S 124 11) then 7 else px_let (f_Mo_grows ((gR S 125 (gI S 124 13).toNatClampNeg) &&& 31)) (fun r266 : Int32 => if ((gI S 124 17) + r266) ≤ 24 then 0 else 3) else px_let (f_Mo_grows ((gR S 125 (gI S 124 13).toNatClampNeg) &&& 31)) (fun r269 : Int32 => if ((gI S 124 17) + r269) ≤ 24 then 0 else 3) else if ((gR S 125 (gI S 124 13).toNatClampNeg) &&& 31) = 10 then if (gR S 130 ((gI S 124 17) - 1).toNatClampNeg) < 0 then 4 else if (gR S 130 ((gI S 124 17) - 1).toNatClampNeg) < 32 then if ((gR S 125 (gI S 124 13).toNatClampNeg) &&& 31) = 8 then if (gR S 130 ((gI S 124 17) - 1).toNatClampNeg) = 0 then 6 else if ((gR S 125 (gI S 124 13).toNatClampNeg) &&& 31) = 19 then if 1 ≤ ((gR S 125 (gI S 124 13).toNatClampNeg) >>> ((5 : Int32) &&& 31)) then if ((gR S 125 (gI S 124 13).toNatClampNeg) &&& 31) = 18 then if (gI S 124 16) = (gI S 124 11) then 7 else px_let (f_Mo_grows ((gR S 125 (gI S 124 13).toNatClampNeg) &&& 31)) (fun r282 : Int32 => if ((gI S 124 17) + r282) ≤ 24 then 0 else 3) else px_let (f_Mo_grows ((gR S 125 (gI S 124 13).toNatClampNeg) &&& 31)) (fun r285 : Int32 => if ((gI S 124 17) + r285) ≤ 24 then 0 else 3) else 6 else if ((gR S 125 (gI S 124 13).toNatClampNeg) &&& 31) = 18 then if (gI S 124 16) = (gI S 124 11) then 7 else px_let (f_Mo_grows ((gR S 125 (gI S 124 13).toNatClampNeg) &&& 31)) (fun r290 : Int32 => if ((gI S 124 17) + r290) ≤ 24 then 0 else 3) else px_let (f_Mo_grows ((gR S 125 (gI S 124 13).toNatClampNeg) &&& 31)) (fun r293 : Int32 => if ((gI S 124 17) + r293) ≤ 24 then 0 else 3) else if ((gR S 125 (gI S 124 13).toNatClampNeg) &&& 31) = 19 then if 1 ≤ ((gR S 125 (gI S 124 13).toNatClampNeg) >>> ((5 : Int32) &&& 31)) then if ((gR S 125 (gI S 124 13).toNatClampNeg) &&& 31) = 18 then if (gI S 124 16) = (gI S 124 11) then 7 else px_let (f_Mo_grows ((gR S 125 (gI S 124 13).toNatClampNeg) &&& 31)) (fun r300 : Int32 => if ((gI S 124 17) + r300) ≤ 24 then 0 else 3) else px_let (f_Mo_grows ((gR S 125 (gI S 124 13).toNatClampNeg) &&& 31)) (fun r303 : Int32 => if ((gI S 124 17) + r303) ≤ 24 then 0 else 3) else 6 else if ((gR S 125 (gI S 124 13).toNatClampNeg) &&& 31) = 18 then if (gI S 124 16) = (gI S 124 11) then 7 else px_let (f_Mo_grows ((gR S 125 (gI S 124 13).toNatClampNeg) &&& 31)) (fun r308 : Int32 => if ((gI S 124 17) + r308) ≤ 24 then 0 else 3) else px_let (f_Mo_grows ((gR S 125 (gI S 124 13).toNatClampNeg) &&& 31)) (fun r311 : Int32 => if ((gI S 124 17) + r311) ≤ 24 then 0 else 3) else 4 else if ((gR S 125 (gI S 124 13).toNatClampNeg) &&& 31) = 11 then if (gR S 130 ((gI S 124 17) - 1).toNatClampNeg) < 0 then 4 else if (gR S 130 ((gI S 124 17) - 1).toNatClampNeg) < 32 then if ((gR S 125 (gI S 124 13).toNatClampNeg) &&& 31) = 8 then if (gR S 130 ((gI S 124 17) - 1).toNatClampNeg) = 0 then 6 else if ((gR S 125 (gI S 124 13).toNatClampNeg) &&& 31) = 19 then if 1 ≤ ((gR S 125 (gI S 124 13).toNatClampNeg) >>> ((5 : Int32) &&& 31)) then if ((gR S 125 (gI S 124 13).toNatClampNeg) &&& 31) = 18 then if (gI S 124 16) = (gI S 124 11) then 7 else px_let (f_Mo_grows ((gR S 125 (gI S 124 13).toNatClampNeg) &&& 31)) (fun r323 : Int32 => if ((gI S 124 17) + r323) ≤ 24 then 0 else 3) else px_let (f_Mo_grows ((gR S 125 (gI S 124 13).toNatClampNeg) &&& 31)) (fun r326 : Int32 => if ((gI S 124 17) + r326) ≤ 24 then 0 else 3) else 6 else if ((gR S 125 (gI S 124 13).toNatClampNeg) &&& 31) = 18 then if (gI S 124 16) = (gI S 124 11) then 7 else px_let (f_Mo_grows ((gR S 125 (gI S 124 13).toNatClampNeg) &&& 31)) (fun r331 : Int32 => if ((gI S 124 17) + r331) ≤ 24 then 0 else 3) else px_let (f_Mo_grows ((gR S 125 (gI S 124 13).toNatClampNeg) &&& 31)) (fun r334 : Int32 => if ((gI S 124 17) + r334) ≤ 24 then 0 else 3) else if ((gR S 125 (gI S 124 13).toNatClampNeg) &&& 31) = 19 then if 1 ≤ ((gR S 125 (gI S 124 13).toNatClampNeg) >>> ((5 : Int32) &&& 31)) then if ((gR S 125 (gI S 124 13).toNatClampNeg) &&& 31) = 18 then if (gI S 124 16) = (gI S 124 11) then 7 else px_let (f_Mo_grows ((gR S 125 (gI S 124 13).toNatClampNeg) &&& 31)) (fun r341 : Int32 => if ((gI S 124 17) + r341) ≤ 24 then 0 else 3) else px_let (f_Mo_grows ((gR S 125 (gI S 124 13).toNatClampNeg) &&& 31)) (fun r344 : Int32 => if ((gI S 124 17) + r344) ≤ 24 then 0 else 3) else 6 else if ((gR S 125 (gI S 124 13).toNatClampNeg) &&& 31) = 18 then if (gI S 124 16) = (gI S 124 11) then 7 else px_let (f_Mo_grows ((gR S 125 (gI S 124 13).toNatClampNeg) &&& 31)) (fun r349 : Int32 => if ((gI S 124 17) + r349) ≤ 24 then 0 else 3) else px_let (f_Mo_grows ((gR S 125 (gI S 124 13).toNatClampNeg) &&& 31)) (fun r352 : Int32 => if ((gI S 124 17) + r352) ≤ 24 then 0 else 3) else 4 else if ((gR S 125 (gI S 124 13).toNatClampNeg) &&& 31) = 8 then if (gR S 130 ((gI S 124 17) - 1).toNatClampNeg) = 0 then 6 else if ((gR S 125 (gI S 124 13).toNatClampNeg) &&& 31) = 19 then if 1 ≤ ((gR S 125 (gI S 124 13).toNatClampNeg) >>> ((5 : Int32) &&& 31)) then if ((gR S 125 (gI S 124 13).toNatClampNeg) &&& 31) = 18 then if (gI S 124 16) = (gI S 124 11) then 7 else px_let (f_Mo_grows ((gR S 125 (gI S 124 13).toNatClampNeg) &&& 31)) (fun r361 : Int32 => if ((gI S 124 17) + r361) ≤ 24 then 0 else 3) else px_let (f_Mo_grows ((gR S 125 (gI S 124 13).toNatClampNeg) &&& 31)) (fun r364 : Int32 => if ((gI S 124 17) + r364) ≤ 24 then 0 else 3) else 6 else if ((gR S 125 (gI S 124 13).toNatClampNeg) &&& 31) = 18 then if (gI S 124 16) = (gI S 124 11) then 7 else px_let (f_Mo_grows ((gR S 125 (gI S 124 13).toNatClampNeg) &&& 31)) (fun r369 : Int32 => if ((gI S 124 17) + r369) ≤ 24 then 0 else 3) else px_let (f_Mo_grows ((gR S 125 (gI S 124 13).toNatClampNeg) &&& 31)) (fun r372 : Int32 => if ((gI S 124 17) + r372) ≤ 24 then 0 else 3) else if ((gR S 125 (gI S 124 13).toNatClampNeg) &&& 31) = 19 then if 1 ≤ ((gR S 125 (gI S 124 13).toNatClampNeg) >>> ((5 : Int32) &&& 31)) then if ((gR S 125 (gI S 124 13).toNatClampNeg) &&& 31) = 18 then if (gI S 124 16) = (gI S 124 11) then 7 else px_let (f_Mo_grows ((gR S 125 (gI S 124 13).toNatClampNeg) &&& 31)) (fun r379 : Int32 => if ((gI S 124 17) + r379) ≤ 24 then 0 else 3) else px_let (f_Mo_grows ((gR S 125 (gI S 124 13).toNatClampNeg) &&& 31)) (fun r382 : Int32 => if ((gI S 124 17) + r382) ≤ 24 then 0 else 3) else 6 else if ((gR S 125 (gI S 124 13).toNatClampNeg) &&& 31) = 18 then if (gI S 124 16) = (gI S 124 11) then 7 else px_let (f_Mo_grows ((gR S 125 (gI S 124 13).toNatClampNeg) &&& 31)) (fun r387 : Int32 => if ((gI S 124 17) + r387) ≤ 24 then 0 else 3) else px_let (f_Mo_grows ((gR S 125 (gI S 124 13).toNatClampNeg) &&& 31)) (fun r390 : Int32 => if ((gI S 124 17) + r390) ≤ 24 then 0 else 3) else if ((gR S 125 (gI S 124 13).toNatClampNeg) &&& 31) = 17 then px_let (f_Mo_isArgument S ((gR S 125 (gI S 124 13).toNatClampNeg) >>> ((5 : Int32) &&& 31))) (fun r394 : Int32 => if r394 = 0 then 2 else if (gI S 124 17) ≤ 0 then if ((gR S 125 (gI S 124 13).toNatClampNeg) &&& 31) = 10 then if ((gR S 125 (gI S 124 13).toNatClampNeg) &&& 31) = 8 then 6 else if ((gR S 125 (gI S 124 13).toNatClampNeg) &&& 31) = 19 then if 1 ≤ ((gR S 125 (gI S 124 13).toNatClampNeg) >>> ((5 : Int32) &&& 31)) then if ((gR S 125 (gI S 124 13).toNatClampNeg) &&& 31) = 18 then if (gI S 124 16) = (gI S 124 11) then 7 else px_let (f_Mo_grows ((gR S 125 (gI S 124 13).toNatClampNeg) &&& 31)) (fun r407 : Int32 => if ((gI S 124 17) + r407) ≤ 24 then 0 else 3) else px_let (f_Mo_grows ((gR S 125 (gI S 124 13).toNatClampNeg) &&& 31)) (fun r410 : Int32 => if ((gI S 124 17) + r410) ≤ 24 then 0 else 3) else 6 else if ((gR S 125 (gI S 124 13).toNatClampNeg) &&& 31) = 18 then if (gI S 124 16) = (gI S 124 11) then 7 else px_let (f_Mo_grows ((gR S 125 (gI S 124 13).toNatClampNeg) &&& 31)) (fun r415 : Int32 => if ((gI S 124 17) + r415) ≤ 24 then 0 else 3) else px_let (f_Mo_grows ((gR S 125 (gI S 124 13).toNatClampNeg) &&& 31)) (fun r418 : Int32 => if ((gI S 124 17) + r418) ≤ 24 then 0 else 3) else if ((gR S 125 (gI S 124 13).toNatClampNeg) &&& 31) = 11 then if ((gR S 125 (gI S 124 13).toNatClampNeg) &&& 31) = 8 then 6 else if ((gR S 125 (gI S 124 13).toNatClampNeg) &&& 31) = 19 then if 1 ≤ ((gR S 125 (gI S 124 13).toNatClampNeg) >>> ((5 : Int32) &&& 31)) then if ((gR S 125 (gI S 124 13).toNatClampNeg) &&& 31) = 18 then if (gI S 124 16) = (gI S 124 11) then 7 else px_let (f_Mo_grows ((gR S 125 (gI S 124 13).toNatClampNeg) &&& 31)) (fun r430 : Int32 => if ((gI S 124 17) + r430) ≤ 24 then 0 else 3) else px_let (f_Mo_grows ((gR S 125 (gI S 124 13).toNatClampNeg) &&& 31)) (fun r433 : Int32 => if ((gI S 124 17) + r433) ≤ 24 then 0 else 3) else 6 else if ((gR S 125 (gI S 124 13).toNatClampNeg) &&& 31) = 18 then if (gI S 124 16) = (gI S 124 11) then 7 else px_let (f_Mo_grows ((gR S 125 (gI S 124 13).toNatClampNeg) &&& 31)) (fun r438 : Int32 => if ((gI S 124 17) + r438) ≤ 24 then 0 else 3) else px_let (f_Mo_grows ((gR S 125 (gI S 124 13).toNatClampNeg) &&& 31)) (fun r441 : Int32 => if ((gI S 124 17) + r441) ≤ 24 then 0 else 3) else if ((gR S 125 (gI S 124 13).toNatClampNeg) &&& 31) = 8 then 6 else if ((gR S 125 (gI S 124 13).toNatClampNeg) &&& 31) = 19 then if 1 ≤ ((gR S 125 (gI S 124 13).toNatClampNeg) >>> ((5 : Int32) &&& 31)) then if ((gR S 125 (gI S 124 13).toNatClampNeg) &&& 31) = 18 then if (gI S 124 16) = (gI S 124 11) then 7 else px_let (f_Mo_grows ((gR S 125 (gI S 124 13).toNatClampNeg) &&& 31)) (fun r450 : Int32 => if ((gI S 124 17) + r450) ≤ 24 then 0 else 3) else px_let (f_Mo_grows ((gR S 125 (gI S 124 13).toNatClampNeg) &&& 31)) (fun r453 : Int32 => if ((gI S 124 17) + r453) ≤ 24 then 0 else 3) else 6 else if ((gR S 125 (gI S 124 13).toNatClampNeg) &&& 31) = 18 then if (gI S 124 16) = (gI S 124 11) then 7 else px_let (f_Mo_grows ((gR S 125 (gI S 124 13).toNatClampNeg) &&& 31)) (fun r458 : Int32 => if ((gI S 124 17) + r458) ≤ 24 then 0 else 3) else px_let (f_Mo_grows ((gR S 125 (gI S 124 13).toNatClampNeg) &&& 31)) (fun r461 : Int32 => if ((gI S 124 17) + r461) ≤ 24 then 0 else 3) else if ((gR S 125 (gI S 124 13).toNatClampNeg) &&& 31) = 10 then if (gR S 130 ((gI S 124 17) - 1).toNatClampNeg) < 0 then 4 else if (gR S 130 ((gI S 124 17) - 1).toNatClampNeg) < 32 then if ((gR S 125 (gI S 124 13).toNatClampNeg) &&& 31) = 8 then if (gR S 130 ((gI S 124 17) - 1).toNatClampNeg) = 0 then 6 else if ((gR S 125 (gI S 124 13).toNatClampNeg) &&& 31) = 19 then if 1 ≤ ((gR S 125 (gI S 124 13).toNatClampNeg) >>> ((5 : Int32) &&& 31)) then if ((gR S 125 (gI S 124 13).toNatClampNeg) &&& 31) = 18 then if (gI S 124 16) = (gI S 124 11) then 7 else px_let (f_Mo_grows ((gR S 125 (gI S 124 13).toNatClampNeg) &&& 31)) (fun r474 : Int32 => if ((gI S 124 17) + r474) ≤ 24 then 0 else 3) else px_let (f_Mo_grows ((gR S 125 (gI S 124 13).toNatClampNeg) &&& 31)) (fun r477 : Int32 => if ((gI S 124 17) + r477) ≤ 24 then 0 else 3) else 6 else if ((gR S 125 (gI S 124 13).toNatClampNeg) &&& 31) = 18 then if (gI S 124 16) = (gI S 124 11) then 7 else px_let (f_Mo_grows ((gR S 125 (gI S 124 13).toNatClampNeg) &&& 31)) (fun r482 : Int32 => if ((gI S 124 17) + r482) ≤ 24 then 0 else 3) else px_let (f_Mo_grows ((gR S 125 (gI S 124 13).toNatClampNeg) &&& 31)) (fun r485 : Int32 => if ((gI S 124 17) + r485) ≤ 24 then 0 else 3) else if ((gR S 125 (gI S 124 13).toNatClampNeg) &&& 31) = 19 then if 1 ≤ ((gR S 125 (gI S 124 13).toNatClampNeg) >>> ((5 : Int32) &&& 31)) then if ((gR S 125 (gI S 124 13).toNatClampNeg) &&& 31) = 18 then if (gI S 124 16) = (gI S 124 11) then 7 else px_let (f_Mo_grows ((gR S 125 (gI S 124 13).toNatClampNeg) &&& 31)) (fun r492 : Int32 => if ((gI S 124 17) + r492) ≤ 24 then 0 else 3) else px_let (f_Mo_grows ((gR S 125 (gI S 124 13).toNatClampNeg) &&& 31)) (fun r495 : Int32 => if ((gI S 124 17) + r495) ≤ 24 then 0 else 3) else 6 else if ((gR S 125 (gI S 124 13).toNatClampNeg) &&& 31) = 18 then if (gI S 124 16) = (gI S 124 11) then 7 else px_let (f_Mo_grows ((gR S 125 (gI S 124 13).toNatClampNeg) &&& 31)) (fun r500 : Int32 => if ((gI S 124 17) + r500) ≤ 24 then 0 else 3) else px_let (f_Mo_grows ((gR S 125 (gI S 124 13).toNatClampNeg) &&& 31)) (fun r503 : Int32 => if ((gI S 124 17) + r503) ≤ 24 then 0 else 3) else 4 else if ((gR S 125 (gI S 124 13).toNatClampNeg) &&& 31) = 11 then if (gR S 130 ((gI S 124 17) - 1).toNatClampNeg) < 0 then 4 else if (gR S 130 ((gI S 124 17) - 1).toNatClampNeg) < 32 then if ((gR S 125 (gI S 124 13).toNatClampNeg) &&& 31) = 8 then if (gR S 130 ((gI S 124 17) - 1).toNatClampNeg) = 0 then 6 else if ((gR S 125 (gI S 124 13).toNatClampNeg) &&& 31) = 19 then if 1 ≤ ((gR S 125 (gI S 124 13).toNatClampNeg) >>> ((5 : Int32) &&& 31)) then if ((gR S 125 (gI S 124 13).toNatClampNeg) &&& 31) = 18 then if (gI S 124 16) = (gI S 124 11) then 7 else px_let (f_Mo_grows ((gR S 125 (gI S 124 13).toNatClampNeg) &&& 31)) (fun r515 : Int32 => if ((gI S 124 17) + r515) ≤ 24 then 0 else 3) else px_let (f_Mo_grows ((gR S 125 (gI S 124 13).toNatClampNeg) &&& 31)) (fun r518 : Int32 => if ((gI S 124 17) + r518) ≤ 24 then 0 else 3) else 6 else if ((gR S 125 (gI S 124 13).toNatClampNeg) &&& 31) = 18 then if (gI S 124 16) = (gI S 124 11) then 7 else px_let (f_Mo_grows ((gR S 125 (gI S 124 13).toNatClampNeg) &&& 31)) (fun r523 : Int32 => if ((gI S 124 17) + r523) ≤ 24 then 0 else 3) else px_let (f_Mo_grows ((gR S 125 (gI S 124 13).toNatClampNeg) &&& 31)) (fun r526 : Int32 => if ((gI S 124 17) + r526) ≤ 24 then 0 else 3) else if ((gR S 125 (gI S 124 13).toNatClampNeg) &&& 31) = 19 then if 1 ≤ ((gR S 125 (gI S 124 13).toNatClampNeg) >>> ((5 : Int32) &&& 31)) then if ((gR S 125 (gI S 124 13).toNatClampNeg) &&& 31) = 18 then if (gI S 124 16) = (gI S 124 11) then 7 else px_let (f_Mo_grows ((gR S 125 (gI S 124 13).toNatClampNeg) &&& 31)) (fun r533 : Int32 => if ((gI S 124 17) + r533) ≤ 24 then 0 else 3) else px_let (f_Mo_grows ((gR S 125 (gI S 124 13).toNatClampNeg) &&& 31)) (fun r536 : Int32 => if ((gI S 124 17) + r536) ≤ 24 then 0 else 3) else 6 else if ((gR S 125 (gI S 124 13).toNatClampNeg) &&& 31) = 18 then if (gI S 124 16) = (gI S 124 11) then 7 else px_let (f_Mo_grows ((gR S 125 (gI S 124 13).toNatClampNeg) &&& 31)) (fun r541 : Int32 => if ((gI S 124 17) + r541) ≤ 24 then 0 else 3) else px_let (f_Mo_grows ((gR S 125 (gI S 124 13).toNatClampNeg) &&& 31)) (fun r544 : Int32 => if ((gI S 124 17) + r544) ≤ 24 then 0 else 3) else 4 else if ((gR S 125 (gI S 124 13).toNatClampNeg) &&& 31) = 8 then if (gR S 130 ((gI S 124 17) - 1).toNatClampNeg) = 0 then 6 else if ((gR S 125 (gI S 124 13).toNatClampNeg) &&& 31) = 19 then if 1 ≤ ((gR S 125 (gI S 124 13).toNatClampNeg) >>> ((5 : Int32) &&& 31)) then if ((gR S 125 (gI S 124 13).toNatClampNeg) &&& 31) = 18 then if (gI S 124 16) = (gI S 124 11) then 7 else px_let (f_Mo_grows ((gR S 125 (gI S 124 13).toNatClampNeg) &&& 31)) (fun r553 : Int32 => if ((gI S 124 17) + r553) ≤ 24 then 0 else 3) else px_let (f_Mo_grows ((gR S 125 (gI S 124 13).toNatClampNeg) &&& 31)) (fun r556 : Int32 => if ((gI S 124 17) + r556) ≤ 24 then 0 else 3) else 6 else if ((gR S 125 (gI S 124 13).toNatClampNeg) &&& 31) = 18 then if (gI S 124 16) = (gI S 124 11) then 7 else px_let (f_Mo_grows ((gR S 125 (gI S 124 13).toNatClampNeg) &&& 31)) (fun r561 : Int32 => if ((gI S 124 17) + r561) ≤ 24 then 0 else 3) else px_let (f_Mo_grows ((gR S 125 (gI S 124 13).toNatClampNeg) &&& 31)) (fun r564 : Int32 => if ((gI S 124 17) + r564) ≤ 24 then 0 else 3) else if ((gR S 125 (gI S 124 13).toNatClampNeg) &&& 31) = 19 then if 1 ≤ ((gR S 125 (gI S 124 13).toNatClampNeg) >>> ((5 : Int32) &&& 31)) then if ((gR S 125 (gI S 124 13).toNatClampNeg) &&& 31) = 18 then if (gI S 124 16) = (gI S 124 11) then 7 else px_let (f_Mo_grows ((gR S 125 (gI S 124 13).toNatClampNeg) &&& 31)) (fun r571 : Int32 => if ((gI S 124 17) + r571) ≤ 24 then 0 else 3) else px_let (f_Mo_grows ((gR S 125 (gI S 124 13).toNatClampNeg) &&& 31)) (fun r574 : Int32 => if ((gI S 124 17) + r574) ≤ 24 then 0 else 3) else 6 else if ((gR S 125 (gI S 124 13).toNatClampNeg) &&& 31) = 18 then if (gI S 124 16) = (gI S 124 11) then 7 else px_let (f_Mo_grows ((gR S 125 (gI S 124 13).toNatClampNeg) &&& 31)) (fun r579 : Int32 => if ((gI S 124 17) + r579) ≤ 24 then 0 else 3) else px_let (f_Mo_grows ((gR S 125 (gI S 124 13).toNatClampNeg) &&& 31)) (fun r582 : Int32 => if ((gI S 124 17) + r582) ≤ 24 then 0 else 3)) else if (gI S 124 17) ≤ 0 then if ((gR S 125 (gI S 124 13).toNatClampNeg) &&& 31) = 10 then if ((gR S 125 (gI S 124 13).toNatClampNeg) &&& 31) = 8 then 6 else if ((gR S 125 (gI S 124 13).toNatClampNeg) &&& 31) = 19 then if 1 ≤ ((gR S 125 (gI S 124 13).toNatClampNeg) >>> ((5 : Int32) &&& 31)) then if ((gR S 125 (gI S 124 13).toNatClampNeg) &&& 31) = 18 then if (gI S 124 16) = (gI S 124 11) then 7 else px_let (f_Mo_grows ((gR S 125 (gI S 124 13).toNatClampNeg) &&& 31)) (fun r595 : Int32 => if ((gI S 124 17) + r595) ≤ 24 then 0 else 3) else px_let (f_Mo_grows ((gR S 125 (gI S 124 13).toNatClampNeg) &&& 31)) (fun r598 : Int32 => if ((gI S 124 17) + r598) ≤ 24 then 0 else 3) else 6 else if ((gR S 125 (gI S 124 13).toNatClampNeg) &&& 31) = 18 then if (gI S 124 16) = (gI S 124 11) then 7 else px_let (f_Mo_grows ((gR S 125 (gI S 124 13).toNatClampNeg) &&& 31)) (fun r603 : Int32 => if ((gI S 124 17) + r603) ≤ 24 then 0 else 3) else px_let (f_Mo_grows ((gR S 125 (gI S 124 13).toNatClampNeg) &&& 31)) (fun r606 : Int32 => if ((gI S 124 17) + r606) ≤ 24 then 0 else 3) else if ((gR S 125 (gI S 124 13).toNatClampNeg) &&& 31) = 11 then if ((gR S 125 (gI S 124 13).toNatClampNeg) &&& 31) = 8 then 6 else if ((gR S 125 (gI S 124 13).toNatClampNeg) &&& 31) = 19 then if 1 ≤ ((gR S 125 (gI S 124 13).toNatClampNeg) >>> ((5 : Int32) &&& 31)) then if ((gR S 125 (gI S 124 13).toNatClampNeg) &&& 31) = 18 then if (gI S 124 16) = (gI S 124 11) then 7 else px_let (f_Mo_grows ((gR S 125 (gI S 124 13).toNatClampNeg) &&& 31)) (fun r618 : Int32 => if ((gI S 124 17) + r618) ≤ 24 then 0 else 3) else px_let (f_Mo_grows ((gR S 125 (gI S 124 13).toNatClampNeg) &&& 31)) (fun r621 : Int32 => if ((gI S 124 17) + r621) ≤ 24 then 0 else 3) else 6 else if ((gR S 125 (gI S 124 13).toNatClampNeg) &&& 31) = 18 then if (gI S 124 16) = (gI S 124 11) then 7 else px_let (f_Mo_grows ((gR S 125 (gI S 124 13).toNatClampNeg) &&& 31)) (fun r626 : Int32 => if ((gI S 124 17) + r626) ≤ 24 then 0 else 3) else px_let (f_Mo_grows ((gR S 125 (gI S 124 13).toNatClampNeg) &&& 31)) (fun r629 : Int32 => if ((gI S 124 17) + r629) ≤ 24 then 0 else 3) else if ((gR S 125 (gI S 124 13).toNatClampNeg) &&& 31) = 8 then 6 else if ((gR S 125 (gI S 124 13).toNatClampNeg) &&& 31) = 19 then if 1 ≤ ((gR S 125 (gI S 124 13).toNatClampNeg) >>> ((5 : Int32) &&& 31)) then if ((gR S 125 (gI S 124 13).toNatClampNeg) &&& 31) = 18 then if (gI S 124 16) = (gI S 124 11) then 7 else px_let (f_Mo_grows ((gR S 125 (gI S 124 13).toNatClampNeg) &&& 31)) (fun r638 : Int32 => if ((gI S 124 17) + r638) ≤ 24 then 0 else 3) else px_let (f_Mo_grows ((gR S 125 (gI S 124 13).toNatClampNeg) &&& 31)) (fun r641 : Int32 => if ((gI S 124 17) + r641) ≤ 24 then 0 else 3) else 6 else if ((gR S 125 (gI S 124 13).toNatClampNeg) &&& 31) = 18 then if (gI S 124 16) = (gI S 124 11) then 7 else px_let (f_Mo_grows ((gR S 125 (gI S 124 13).toNatClampNeg) &&& 31)) (fun r646 : Int32 => if ((gI S 124 17) + r646) ≤ 24 then 0 else 3) else px_let (f_Mo_grows ((gR S 125 (gI S 124 13).toNatClampNeg) &&& 31)) (fun r649 : Int32 => if ((gI S 124 17) + r649) ≤ 24 then 0 else 3) else if ((gR S 125 (gI S 124 13).toNatClampNeg) &&& 31) = 10 then if (gR S 130 ((gI S 124 17) - 1).toNatClampNeg) < 0 then 4 else if (gR S 130 ((gI S 124 17) - 1).toNatClampNeg) < 32 then if ((gR S 125 (gI S 124 13).toNatClampNeg) &&& 31) = 8 then if (gR S 130 ((gI S 124 17) - 1).toNatClampNeg) = 0 then 6 else if ((gR S 125 (gI S 124 13).toNatClampNeg) &&& 31) = 19 then if 1 ≤ ((gR S 125 (gI S 124 13).toNatClampNeg) >>> ((5 : Int32) &&& 31)) then if ((gR S 125 (gI S 124 13).toNatClampNeg) &&& 31) = 18 then if (gI S 124 16) = (gI S 124 11) then 7 else px_let (f_Mo_grows ((gR S 125 (gI S 124 13).toNatClampNeg) &&& 31)) (fun r662 : Int32 => if ((gI S 124 17) + r662) ≤ 24 then 0 else 3) else px_let (f_Mo_grows ((gR S 125 (gI S 124 13).toNatClampNeg) &&& 31)) (fun r665 : Int32 => if ((gI S 124 17) + r665) ≤ 24 then 0 else 3) else 6 else if ((gR S 125 (gI S 124 13).toNatClampNeg) &&& 31) = 18 then if (gI S 124 16) = (gI S 124 11) then 7 else px_let (f_Mo_grows ((gR S 125 (gI S 124 13).toNatClampNeg) &&& 31)) (fun r670 : Int32 => if ((gI S 124 17) + r670) ≤ 24 then 0 else 3) else px_let (f_Mo_grows ((gR S 125 (gI S 124 13).toNatClampNeg) &&& 31)) (fun r673 : Int32 => if ((gI S 124 17) + r673) ≤ 24 then 0 else 3) else if ((gR S 125 (gI S 124 13).toNatClampNeg) &&& 31) = 19 then if 1 ≤ ((gR S 125 (gI S 124 13).toNatClampNeg) >>> ((5 : Int32) &&& 31)) then if ((gR S 125 (gI S 124 13).toNatClampNeg) &&& 31) = 18 then if (gI S 124 16) = (gI S 124 11) then 7 else px_let (f_Mo_grows ((gR S 125 (gI S 124 13).toNatClampNeg) &&& 31)) (fun r680 : Int32 => if ((gI S 124 17) + r680) ≤ 24 then 0 else 3) else px_let (f_Mo_grows ((gR S 125 (gI S 124 13).toNatClampNeg) &&& 31)) (fun r683 : Int32 => if ((gI S 124 17) + r683) ≤ 24 then 0 else 3) else 6 else if ((gR S 125 (gI S 124 13).toNatClampNeg) &&& 31) = 18 then if (gI S 124 16) = (gI S 124 11) then 7 else px_let (f_Mo_grows ((gR S 125 (gI S 124 13).toNatClampNeg) &&& 31)) (fun r688 : Int32 => if ((gI S 124 17) + r688) ≤ 24 then 0 else 3) else px_let (f_Mo_grows ((gR S 125 (gI S 124 13).toNatClampNeg) &&& 31)) (fun r691 : Int32 => if ((gI S 124 17) + r691) ≤ 24 then 0 else 3) else 4 else if ((gR S 125 (gI S 124 13).toNatClampNeg) &&& 31) = 11 then if (gR S 130 ((gI S 124 17) - 1).toNatClampNeg) < 0 then 4 else if (gR S 130 ((gI S 124 17) - 1).toNatClampNeg) < 32 then if ((gR S 125 (gI S 124 13).toNatClampNeg) &&& 31) = 8 then if (gR S 130 ((gI S 124 17) - 1).toNatClampNeg) = 0 then 6 else if ((gR S 125 (gI S 124 13).toNatClampNeg) &&& 31) = 19 then if 1 ≤ ((gR S 125 (gI S 124 13).toNatClampNeg) >>> ((5 : Int32) &&& 31)) then if ((gR S 125 (gI S 124 13).toNatClampNeg) &&& 31) = 18 then if (gI S 124 16) = (gI S 124 11) then 7 else px_let (f_Mo_grows ((gR S 125 (gI S 124 13).toNatClampNeg) &&& 31)) (fun r703 : Int32 => if ((gI S 124 17) + r703) ≤ 24 then 0 else 3) else px_let (f_Mo_grows ((gR S 125 (gI S 124 13).toNatClampNeg) &&& 31)) (fun r706 : Int32 => if ((gI S 124 17) + r706) ≤ 24 then 0 else 3) else 6 else if ((gR S 125 (gI S 124 13).toNatClampNeg) &&& 31) = 18 then if (gI S 124 16) = (gI S 124 11) then 7 else px_let (f_Mo_grows ((gR S 125 (gI S 124 13).toNatClampNeg) &&& 31)) (fun r711 : Int32 => if ((gI S 124 17) + r711) ≤ 24 then 0 else 3) else px_let (f_Mo_grows ((gR S 125 (gI S 124 13).toNatClampNeg) &&& 31)) (fun r714 : Int32 => if ((gI S 124 17) + r714) ≤ 24 then 0 else 3) else if ((gR S 125 (gI S 124 13).toNatClampNeg) &&& 31) = 19 then if 1 ≤ ((gR S 125 (gI S 124 13).toNatClampNeg) >>> ((5 : Int32) &&& 31)) then if ((gR S 125 (gI S 124 13).toNatClampNeg) &&& 31) = 18 then if (gI S 124 16) = (gI S 124 11) then 7 else px_let (f_Mo_grows ((gR S 125 (gI S 124 13).toNatClampNeg) &&& 31)) (fun r721 : Int32 => if ((gI S 124 17) + r721) ≤ 24 then 0 else 3) else px_let (f_Mo_grows ((gR S 125 (gI S 124 13).toNatClampNeg) &&& 31)) (fun r724 : Int32 => if ((gI S 124 17) + r724) ≤ 24 then 0 else 3) else 6 else if ((gR S 125 (gI S 124 13).toNatClampNeg) &&& 31) = 18 then if (gI S 124 16) = (gI S 124 11) then 7 else px_let (f_Mo_grows ((gR S 125 (gI S 124 13).toNatClampNeg) &&& 31)) (fun r729 : Int32 => if ((gI S 124 17) + r729) ≤ 24 then 0 else 3) else px_let (f_Mo_grows ((gR S 125 (gI S 124 13).toNatClampNeg) &&& 31)) (fun r732 : Int32 => if ((gI S 124 17) + r732) ≤ 24 then 0 else 3) else 4 else if ((gR S 125 (gI S 124 13).toNatClampNeg) &&& 31) = 8 then if (gR S 130 ((gI S 124 17) - 1).toNatClampNeg) = 0 then 6 else if ((gR S 125 (gI S 124 13).toNatClampNeg) &&& 31) = 19 then if 1 ≤ ((gR S 125 (gI S 124 13).toNatClampNeg) >>> ((5 : Int32) &&& 31)) then if ((gR S 125 (gI S 124 13).toNatClampNeg) &&& 31) = 18 then if (gI S 124 16) = (gI S 124 11) then 7 else px_let (f_Mo_grows ((gR S 125 (gI S 124 13).toNatClampNeg) &&& 31)) (fun r741 : Int32 => if ((gI S 124 17) + r741) ≤ 24 then 0 else 3) else px_let (f_Mo_grows ((gR S 125 (gI S 124 13).toNatClampNeg) &&& 31)) (fun r744 : Int32 => if ((gI S 124 17) + r744) ≤ 24 then 0 else 3) else 6 else if ((gR S 125 (gI S 124 13).toNatClampNeg) &&& 31) = 18 then if (gI S 124 16) = (gI S 124 11) then 7 else px_let (f_Mo_grows ((gR S 125 (gI S 124 13).toNatClampNeg) &&& 31)) (fun r749 : Int32 => if ((gI S 124 17) + r749) ≤ 24 then 0 else 3) else px_let (f_Mo_grows ((gR S 125 (gI S 124 13).toNatClampNeg) &&& 31)) (fun r752 : Int32 => if ((gI S 124 17) + r752) ≤ 24 then 0 else 3) else if ((gR S 125 (gI S 124 13).toNatClampNeg) &&& 31) = 19 then if 1 ≤ ((gR S 125 (gI S 124 13).toNatClampNeg) >>> ((5 : Int32) &&& 31)) then if ((gR S 125 (gI S 124 13).toNatClampNeg) &&& 31) = 18 then if (gI S 124 16) = (gI S 124 11) then 7 else px_let (f_Mo_grows ((gR S 125 (gI S 124 13).toNatClampNeg) &&& 31)) (fun r759 : Int32 => if ((gI S 124 17) + r759) ≤ 24 then 0 else 3) else px_let (f_Mo_grows ((gR S 125 (gI S 124 13).toNatClampNeg) &&& 31)) (fun r762 : Int32 => if ((gI S 124 17) + r762) ≤ 24 then 0 else 3) else 6 else if ((gR S 125 (gI S 124 13).toNatClampNeg) &&& 31) = 18 then if (gI S 124 16) = (gI S 124 11) then 7 else px_let (f_Mo_grows ((gR S 125 (gI S 124 13).toNatClampNeg) &&& 31)) (fun r767 : Int32 => if ((gI S 124 17) + r767) ≤ 24 then 0 else 3) else px_let (f_Mo_grows ((gR S 125 (gI S 124 13).toNatClampNeg) &&& 31)) (fun r770 : Int32 => if ((gI S 124 17) + r770) ≤ 24 then 0 else 3)) else 5 else 4
def p_Mo_check (S : xS)  : Prop := ((gI S 124 13) < 0 → True) ∧ (¬ (gI S 124 13) < 0 → ((gI S 124 13) < 64 → (vp_in (gI S 124 13) 64) ∧ ((vp_in (gI S 124 13) 64) ∧ ((((gR S 125 (gI S 124 13).toNatClampNeg) &&& 31) ≤ 20 → (((gR S 125 (gI S 124 13).toNatClampNeg) &&& 31) = 0 → True) ∧ (¬ ((gR S 125 (gI S 124 13).toNatClampNeg) &&& 31) = 0 → (∀ r7 : Int32, r7 = (f_Mo_needs ((gR S 125 (gI S 124 13).toNatClampNeg) &&& 31)) → ((gI S 124 17) < r7 → True) ∧ (¬ (gI S 124 17) < r7 → (((gR S 125 (gI S 124 13).toNatClampNeg) &&& 31) = 16 → ((gI S 124 14) < 2 → True) ∧ (¬ (gI S 124 14) < 2 → ((gI S 124 17) ≤ (gI S 124 14) → True) ∧ (¬ (gI S 124 17) ≤ (gI S 124 14) → (((gR S 125 (gI S 124 13).toNatClampNeg) &&& 31) = 17 → (∀ r14 : Int32, r14 = (f_Mo_isArgument S ((gR S 125 (gI S 124 13).toNatClampNeg) >>> ((5 : Int32) &&& 31))) → (r14 = 0 → True) ∧ (¬ r14 = 0 → ((gI S 124 17) ≤ 0 → (((gR S 125 (gI S 124 13).toNatClampNeg) &&& 31) = 10 → (((gR S 125 (gI S 124 13).toNatClampNeg) &&& 31) = 8 → True) ∧ (¬ ((gR S 125 (gI S 124 13).toNatClampNeg) &&& 31) = 8 → (((gR S 125 (gI S 124 13).toNatClampNeg) &&& 31) = 19 → (1 ≤ ((gR S 125 (gI S 124 13).toNatClampNeg) >>> ((5 : Int32) &&& 31)) → (((gR S 125 (gI S 124 13).toNatClampNeg) &&& 31) = 18 → ((gI S 124 16) = (gI S 124 11) → True) ∧ (¬ (gI S 124 16) = (gI S 124 11) → (∀ r27 : Int32, r27 = (f_Mo_grows ((gR S 125 (gI S 124 13).toNatClampNeg) &&& 31)) → (((gI S 124 17) + r27) ≤ 24 → True) ∧ (¬ ((gI S 124 17) + r27) ≤ 24 → True)))) ∧ (¬ ((gR S 125 (gI S 124 13).toNatClampNeg) &&& 31) = 18 → (∀ r30 : Int32, r30 = (f_Mo_grows ((gR S 125 (gI S 124 13).toNatClampNeg) &&& 31)) → (((gI S 124 17) + r30) ≤ 24 → True) ∧ (¬ ((gI S 124 17) + r30) ≤ 24 → True)))) ∧ (¬ 1 ≤ ((gR S 125 (gI S 124 13).toNatClampNeg) >>> ((5 : Int32) &&& 31)) → True)) ∧ (¬ ((gR S 125 (gI S 124 13).toNatClampNeg) &&& 31) = 19 → (((gR S 125 (gI S 124 13).toNatClampNeg) &&& 31) = 18 → ((gI S 124 16) = (gI S 124 11) → True) ∧ (¬ (gI S 124 16) = (gI S 124 11) → (∀ r35 : Int32, r35 = (f_Mo_grows ((gR S 125 (gI S 124 13).toNatClampNeg) &&& 31)) → (((gI S 124 17) + r35) ≤ 24 → True) ∧ (¬ ((gI S 124 17) + r35) ≤ 24 → True)))) ∧ (¬ ((gR S 125 (gI S 124 13).toNatClampNeg) &&& 31) = 18 → (∀ r38 : Int32, r38 = (f_Mo_grows ((gR S 125 (gI S 124 13).toNatClampNeg) &&& 31)) → (((gI S 124 17) + r38) ≤ 24 → True) ∧ (¬ ((gI S 124 17) + r38) ≤ 24 → True)))))) ∧ (¬ ((gR S 125 (gI S 124 13).toNatClampNeg) &&& 31) = 10 → (((gR S 125 (gI S 124 13).toNatClampNeg) &&& 31) = 11 → (((gR S 125 (gI S 124 13).toNatClampNeg) &&& 31) = 8 → True) ∧ (¬ ((gR S 125 (gI S 124 13).toNatClampNeg) &&& 31) = 8 → (((gR S 125 (gI S 124 13).toNatClampNeg) &&& 31) = 19 → (1 ≤ ((gR S 125 (gI S 124 13).toNatClampNeg) >>> ((5 : Int32) &&& 31)) → (((gR S 125 (gI S 124 13).toNatClampNeg) &&& 31) = 18 → ((gI S 124 16) = (gI S 124 11) → True) ∧ (¬ (gI S 124 16) = (gI S 124 11) → (∀ r50 : Int32, r50 = (f_Mo_grows ((gR S 125 (gI S 124 13).toNatClampNeg) &&& 31)) → (((gI S 124 17) + r50) ≤ 24 → True) ∧ (¬ ((gI S 124 17) + r50) ≤ 24 → True)))) ∧ (¬ ((gR S 125 (gI S 124 13).toNatClampNeg) &&& 31) = 18 → (∀ r53 : Int32, r53 = (f_Mo_grows ((gR S 125 (gI S 124 13).toNatClampNeg) &&& 31)) → (((gI S 124 17) + r53) ≤ 24 → True) ∧ (¬ ((gI S 124 17) + r53) ≤ 24 → True)))) ∧ (¬ 1 ≤ ((gR S 125 (gI S 124 13).toNatClampNeg) >>> ((5 : Int32) &&& 31)) → True)) ∧ (¬ ((gR S 125 (gI S 124 13).toNatClampNeg) &&& 31) = 19 → (((gR S 125 (gI S 124 13).toNatClampNeg) &&& 31) = 18 → ((gI S 124 16) = (gI S 124 11) → True) ∧ (¬ (gI S 124 16) = (gI S 124 11) → (∀ r58 : Int32, r58 = (f_Mo_grows ((gR S 125 (gI S 124 13).toNatClampNeg) &&& 31)) → (((gI S 124 17) + r58) ≤ 24 → True) ∧ (¬ ((gI S 124 17) + r58) ≤ 24 → True)))) ∧ (¬ ((gR S 125 (gI S 124 13).toNatClampNeg) &&& 31) = 18 → (∀ r61 : Int32, r61 = (f_Mo_grows ((gR S 125 (gI S 124 13).toNatClampNeg) &&& 31)) → (((gI S 124 17) + r61) ≤ 24 → True) ∧ (¬ ((gI S 124 17) + r61) ≤ 24 → True)))))) ∧ (¬ ((gR S 125 (gI S 124 13).toNatClampNeg) &&& 31) = 11 → (((gR S 125 (gI S 124 13).toNatClampNeg) &&& 31) = 8 → True) ∧ (¬ ((gR S 125 (gI S 124 13).toNatClampNeg) &&& 31) = 8 → (((gR S 125 (gI S 124 13).toNatClampNeg) &&& 31) = 19 → (1 ≤ ((gR S 125 (gI S 124 13).toNatClampNeg) >>> ((5 : Int32) &&& 31)) → (((gR S 125 (gI S 124 13).toNatClampNeg) &&& 31) = 18 → ((gI S 124 16) = (gI S 124 11) → True) ∧ (¬ (gI S 124 16) = (gI S 124 11) → (∀ r70 : Int32, r70 = (f_Mo_grows ((gR S 125 (gI S 124 13).toNatClampNeg) &&& 31)) → (((gI S 124 17) + r70) ≤ 24 → True) ∧ (¬ ((gI S 124 17) + r70) ≤ 24 → True)))) ∧ (¬ ((gR S 125 (gI S 124 13).toNatClampNeg) &&& 31) = 18 → (∀ r73 : Int32, r73 = (f_Mo_grows ((gR S 125 (gI S 124 13).toNatClampNeg) &&& 31)) → (((gI S 124 17) + r73) ≤ 24 → True) ∧ (¬ ((gI S 124 17) + r73) ≤ 24 → True)))) ∧ (¬ 1 ≤ ((gR S 125 (gI S 124 13).toNatClampNeg) >>> ((5 : Int32) &&& 31)) → True)) ∧ (¬ ((gR S 125 (gI S 124 13).toNatClampNeg) &&& 31) = 19 → (((gR S 125 (gI S 124 13).toNatClampNeg) &&& 31) = 18 → ((gI S 124 16) = (gI S 124 11) → True) ∧ (¬ (gI S 124 16) = (gI S 124 11) → (∀ r78 : Int32, r78 = (f_Mo_grows ((gR S 125 (gI S 124 13).toNatClampNeg) &&& 31)) → (((gI S 124 17) + r78) ≤ 24 → True) ∧ (¬ ((gI S 124 17) + r78) ≤ 24 → True)))) ∧ (¬ ((gR S 125 (gI S 124 13).toNatClampNeg) &&& 31) = 18 → (∀ r81 : Int32, r81 = (f_Mo_grows ((gR S 125 (gI S 124 13).toNatClampNeg) &&& 31)) → (((gI S 124 17) + r81) ≤ 24 → True) ∧ (¬ ((gI S 124 17) + r81) ≤ 24 → True)))))))) ∧ (¬ (gI S 124 17) ≤ 0 → (vp_in ((gI S 124 17) - 1) 24) ∧ ((((gR S 125 (gI S 124 13).toNatClampNeg) &&& 31) = 10 → ((gR S 130 ((gI S 124 17) - 1).toNatClampNeg) < 0 → True) ∧ (¬ (gR S 130 ((gI S 124 17) - 1).toNatClampNeg) < 0 → ((gR S 130 ((gI S 124 17) - 1).toNatClampNeg) < 32 → (((gR S 125 (gI S 124 13).toNatClampNeg) &&& 31) = 8 → ((gR S 130 ((gI S 124 17) - 1).toNatClampNeg) = 0 → True) ∧ (¬ (gR S 130 ((gI S 124 17) - 1).toNatClampNeg) = 0 → (((gR S 125 (gI S 124 13).toNatClampNeg) &&& 31) = 19 → (1 ≤ ((gR S 125 (gI S 124 13).toNatClampNeg) >>> ((5 : Int32) &&& 31)) → (((gR S 125 (gI S 124 13).toNatClampNeg) &&& 31) = 18 → ((gI S 124 16) = (gI S 124 11) → True) ∧ (¬ (gI S 124 16) = (gI S 124 11) → (∀ r94 : Int32, r94 = (f_Mo_grows ((gR S 125 (gI S 124 13).toNatClampNeg) &&& 31)) → (((gI S 124 17) + r94) ≤ 24 → True) ∧ (¬ ((gI S 124 17) + r94) ≤ 24 → True)))) ∧ (¬ ((gR S 125 (gI S 124 13).toNatClampNeg) &&& 31) = 18 → (∀ r97 : Int32, r97 = (f_Mo_grows ((gR S 125 (gI S 124 13).toNatClampNeg) &&& 31)) → (((gI S 124 17) + r97) ≤ 24 → True) ∧ (¬ ((gI S 124 17) + r97) ≤ 24 → True)))) ∧ (¬ 1 ≤ ((gR S 125 (gI S 124 13).toNatClampNeg) >>> ((5 : Int32) &&& 31)) → True)) ∧ (¬ ((gR S 125 (gI S 124 13).toNatClampNeg) &&& 31) = 19 → (((gR S 125 (gI S 124 13).toNatClampNeg) &&& 31) = 18 → ((gI S 124 16) = (gI S 124 11) → True) ∧ (¬ (gI S 124 16) = (gI S 124 11) → (∀ r102 : Int32, r102 = (f_Mo_grows ((gR S 125 (gI S 124 13).toNatClampNeg) &&& 31)) → (((gI S 124 17) + r102) ≤ 24 → True) ∧ (¬ ((gI S 124 17) + r102) ≤ 24 → True)))) ∧ (¬ ((gR S 125 (gI S 124 13).toNatClampNeg) &&& 31) = 18 → (∀ r105 : Int32, r105 = (f_Mo_grows ((gR S 125 (gI S 124 13).toNatClampNeg) &&& 31)) → (((gI S 124 17) + r105) ≤ 24 → True) ∧ (¬ ((gI S 124 17) + r105) ≤ 24 → True)))))) ∧ (¬ ((gR S 125 (gI S 124 13).toNatClampNeg) &&& 31) = 8 → (((gR S 125 (gI S 124 13).toNatClampNeg) &&& 31) = 19 → (1 ≤ ((gR S 125 (gI S 124 13).toNatClampNeg) >>> ((5 : Int32) &&& 31)) → (((gR S 125 (gI S 124 13).toNatClampNeg) &&& 31) = 18 → ((gI S 124 16) = (gI S 124 11) → True) ∧ (¬ (gI S 124 16) = (gI S 124 11) → (∀ r112 : Int32, r112 = (f_Mo_grows ((gR S 125 (gI S 124 13).toNatClampNeg) &&& 31)) → (((gI S 124 17) + r112) ≤ 24 → True) ∧ (¬ ((gI S 124 17) + r112) ≤ 24 → True)))) ∧ (¬ ((gR S 125 (gI S 124 13).toNatClampNeg) &&& 31) = 18 → (∀ r115 : Int32, r115 = (f_Mo_grows ((gR S 125 (gI S 124 13).toNatClampNeg) &&& 31)) → (((gI S 124 17) + r115) ≤ 24 → True) ∧ (¬ ((gI S 124 17) + r115) ≤ 24 → True)))) ∧ (¬ 1 ≤ ((gR S 125 (gI S 124 13).toNatClampNeg) >>> ((5 : Int32) &&& 31)) → True)) ∧ (¬ ((gR S 125 (gI S 124 13).toNatClampNeg) &&& 31) = 19 → (((gR S 125 (gI S 124 13).toNatClampNeg) &&& 31) = 18 → ((gI S 124 16) = (gI S 124 11) → True) ∧ (¬ (gI S 124 16) = (gI S 124 11) → (∀ r120 : Int32, r120 = (f_Mo_grows ((gR S 125 (gI S 124 13).toNatClampNeg) &&& 31)) → (((gI S 124 17) + r120) ≤ 24 → True) ∧ (¬ ((gI S 124 17) + r120) ≤ 24 → True)))) ∧ (¬ ((gR S 125 (gI S 124 13).toNatClampNeg) &&& 31) = 18 → (∀ r123 : Int32, r123 = (f_Mo_grows ((gR S 125 (gI S 124 13).toNatClampNeg) &&& 31)) → (((gI S 124 17) + r123) ≤ 24 → True) ∧ (¬ ((gI S 124 17) + r123) ≤ 24 → True)))))) ∧ (¬ (gR S 130 ((gI S 124 17) - 1).toNatClampNeg) < 32 → True))) ∧ (¬ ((gR S 125 (gI S 124 13).toNatClampNeg) &&& 31) = 10 → (((gR S 125 (gI S 124 13).toNatClampNeg) &&& 31) = 11 → ((gR S 130 ((gI S 124 17) - 1).toNatClampNeg) < 0 → True) ∧ (¬ (gR S 130 ((gI S 124 17) - 1).toNatClampNeg) < 0 → ((gR S 130 ((gI S 124 17) - 1).toNatClampNeg) < 32 → (((gR S 125 (gI S 124 13).toNatClampNeg) &&& 31) = 8 → ((gR S 130 ((gI S 124 17) - 1).toNatClampNeg) = 0 → True) ∧ (¬ (gR S 130 ((gI S 124 17) - 1).toNatClampNeg) = 0 → (((gR S 125 (gI S 124 13).toNatClampNeg) &&& 31) = 19 → (1 ≤ ((gR S 125 (gI S 124 13).toNatClampNeg) >>> ((5 : Int32) &&& 31)) → (((gR S 125 (gI S 124 13).toNatClampNeg) &&& 31) = 18 → ((gI S 124 16) = (gI S 124 11) → True) ∧ (¬ (gI S 124 16) = (gI S 124 11) → (∀ r135 : Int32, r135 = (f_Mo_grows ((gR S 125 (gI S 124 13).toNatClampNeg) &&& 31)) → (((gI S 124 17) + r135) ≤ 24 → True) ∧ (¬ ((gI S 124 17) + r135) ≤ 24 → True)))) ∧ (¬ ((gR S 125 (gI S 124 13).toNatClampNeg) &&& 31) = 18 → (∀ r138 : Int32, r138 = (f_Mo_grows ((gR S 125 (gI S 124 13).toNatClampNeg) &&& 31)) → (((gI S 124 17) + r138) ≤ 24 → True) ∧ (¬ ((gI S 124 17) + r138) ≤ 24 → True)))) ∧ (¬ 1 ≤ ((gR S 125 (gI S 124 13).toNatClampNeg) >>> ((5 : Int32) &&& 31)) → True)) ∧ (¬ ((gR S 125 (gI S 124 13).toNatClampNeg) &&& 31) = 19 → (((gR S 125 (gI S 124 13).toNatClampNeg) &&& 31) = 18 → ((gI S 124 16) = (gI S 124 11) → True) ∧ (¬ (gI S 124 16) = (gI S 124 11) → (∀ r143 : Int32, r143 = (f_Mo_grows ((gR S 125 (gI S 124 13).toNatClampNeg) &&& 31)) → (((gI S 124 17) + r143) ≤ 24 → True) ∧ (¬ ((gI S 124 17) + r143) ≤ 24 → True)))) ∧ (¬ ((gR S 125 (gI S 124 13).toNatClampNeg) &&& 31) = 18 → (∀ r146 : Int32, r146 = (f_Mo_grows ((gR S 125 (gI S 124 13).toNatClampNeg) &&& 31)) → (((gI S 124 17) + r146) ≤ 24 → True) ∧ (¬ ((gI S 124 17) + r146) ≤ 24 → True)))))) ∧ (¬ ((gR S 125 (gI S 124 13).toNatClampNeg) &&& 31) = 8 → (((gR S 125 (gI S 124 13).toNatClampNeg) &&& 31) = 19 → (1 ≤ ((gR S 125 (gI S 124 13).toNatClampNeg) >>> ((5 : Int32) &&& 31)) → (((gR S 125 (gI S 124 13).toNatClampNeg) &&& 31) = 18 → ((gI S 124 16) = (gI S 124 11) → True) ∧ (¬ (gI S 124 16) = (gI S 124 11) → (∀ r153 : Int32, r153 = (f_Mo_grows ((gR S 125 (gI S 124 13).toNatClampNeg) &&& 31)) → (((gI S 124 17) + r153) ≤ 24 → True) ∧ (¬ ((gI S 124 17) + r153) ≤ 24 → True)))) ∧ (¬ ((gR S 125 (gI S 124 13).toNatClampNeg) &&& 31) = 18 → (∀ r156 : Int32, r156 = (f_Mo_grows ((gR S 125 (gI S 124 13).toNatClampNeg) &&& 31)) → (((gI S 124 17) + r156) ≤ 24 → True) ∧ (¬ ((gI S 124 17) + r156) ≤ 24 → True)))) ∧ (¬ 1 ≤ ((gR S 125 (gI S 124 13).toNatClampNeg) >>> ((5 : Int32) &&& 31)) → True)) ∧ (¬ ((gR S 125 (gI S 124 13).toNatClampNeg) &&& 31) = 19 → (((gR S 125 (gI S 124 13).toNatClampNeg) &&& 31) = 18 → ((gI S 124 16) = (gI S 124 11) → True) ∧ (¬ (gI S 124 16) = (gI S 124 11) → (∀ r161 : Int32, r161 = (f_Mo_grows ((gR S 125 (gI S 124 13).toNatClampNeg) &&& 31)) → (((gI S 124 17) + r161) ≤ 24 → True) ∧ (¬ ((gI S 124 17) + r161) ≤ 24 → True)))) ∧ (¬ ((gR S 125 (gI S 124 13).toNatClampNeg) &&& 31) = 18 → (∀ r164 : Int32, r164 = (f_Mo_grows ((gR S 125 (gI S 124 13).toNatClampNeg) &&& 31)) → (((gI S 124 17) + r164) ≤ 24 → True) ∧ (¬ ((gI S 124 17) + r164) ≤ 24 → True)))))) ∧ (¬ (gR S 130 ((gI S 124 17) - 1).toNatClampNeg) < 32 → True))) ∧ (¬ ((gR S 125 (gI S 124 13).toNatClampNeg) &&& 31) = 11 → (((gR S 125 (gI S 124 13).toNatClampNeg) &&& 31) = 8 → ((gR S 130 ((gI S 124 17) - 1).toNatClampNeg) = 0 → True) ∧ (¬ (gR S 130 ((gI S 124 17) - 1).toNatClampNeg) = 0 → (((gR S 125 (gI S 124 13).toNatClampNeg) &&& 31) = 19 → (1 ≤ ((gR S 125 (gI S 124 13).toNatClampNeg) >>> ((5 : Int32) &&& 31)) → (((gR S 125 (gI S 124 13).toNatClampNeg) &&& 31) = 18 → ((gI S 124 16) = (gI S 124 11) → True) ∧ (¬ (gI S 124 16) = (gI S 124 11) → (∀ r173 : Int32, r173 = (f_Mo_grows ((gR S 125 (gI S 124 13).toNatClampNeg) &&& 31)) → (((gI S 124 17) + r173) ≤ 24 → True) ∧ (¬ ((gI S 124 17) + r173) ≤ 24 → True)))) ∧ (¬ ((gR S 125 (gI S 124 13).toNatClampNeg) &&& 31) = 18 → (∀ r176 : Int32, r176 = (f_Mo_grows ((gR S 125 (gI S 124 13).toNatClampNeg) &&& 31)) → (((gI S 124 17) + r176) ≤ 24 → True) ∧ (¬ ((gI S 124 17) + r176) ≤ 24 → True)))) ∧ (¬ 1 ≤ ((gR S 125 (gI S 124 13).toNatClampNeg) >>> ((5 : Int32) &&& 31)) → True)) ∧ (¬ ((gR S 125 (gI S 124 13).toNatClampNeg) &&& 31) = 19 → (((gR S 125 (gI S 124 13).toNatClampNeg) &&& 31) = 18 → ((gI S 124 16) = (gI S 124 11) → True) ∧ (¬ (gI S 124 16) = (gI S 124 11) → (∀ r181 : Int32, r181 = (f_Mo_grows ((gR S 125 (gI S 124 13).toNatClampNeg) &&& 31)) → (((gI S 124 17) + r181) ≤ 24 → True) ∧ (¬ ((gI S 124 17) + r181) ≤ 24 → True)))) ∧ (¬ ((gR S 125 (gI S 124 13).toNatClampNeg) &&& 31) = 18 → (∀ r184 : Int32, r184 = (f_Mo_grows ((gR S 125 (gI S 124 13).toNatClampNeg) &&& 31)) → (((gI S 124 17) + r184) ≤ 24 → True) ∧ (¬ ((gI S 124 17) + r184) ≤ 24 → True)))))) ∧ (¬ ((gR S 125 (gI S 124 13).toNatClampNeg) &&& 31) = 8 → (((gR S 125 (gI S 124 13).toNatClampNeg) &&& 31) = 19 → (1 ≤ ((gR S 125 (gI S 124 13).toNatClampNeg) >>> ((5 : Int32) &&& 31)) → (((gR S 125 (gI S 124 13).toNatClampNeg) &&& 31) = 18 → ((gI S 124 16) = (gI S 124 11) → True) ∧ (¬ (gI S 124 16) = (gI S 124 11) → (∀ r191 : Int32, r191 = (f_Mo_grows ((gR S 125 (gI S 124 13).toNatClampNeg) &&& 31)) → (((gI S 124 17) + r191) ≤ 24 → True) ∧ (¬ ((gI S 124 17) + r191) ≤ 24 → True)))) ∧ (¬ ((gR S 125 (gI S 124 13).toNatClampNeg) &&& 31) = 18 → (∀ r194 : Int32, r194 = (f_Mo_grows ((gR S 125 (gI S 124 13).toNatClampNeg) &&& 31)) → (((gI S 124 17) + r194) ≤ 24 → True) ∧ (¬ ((gI S 124 17) + r194) ≤ 24 → True)))) ∧ (¬ 1 ≤ ((gR S 125 (gI S 124 13).toNatClampNeg) >>> ((5 : Int32) &&& 31)) → True)) ∧ (¬ ((gR S 125 (gI S 124 13).toNatClampNeg) &&& 31) = 19 → (((gR S 125 (gI S 124 13).toNatClampNeg) &&& 31) = 18 → ((gI S 124 16) = (gI S 124 11) → True) ∧ (¬ (gI S 124 16) = (gI S 124 11) → (∀ r199 : Int32, r199 = (f_Mo_grows ((gR S 125 (gI S 124 13).toNatClampNeg) &&& 31)) → (((gI S 124 17) + r199) ≤ 24 → True) ∧ (¬ ((gI S 124 17) + r199) ≤ 24 → True)))) ∧ (¬ ((gR S 125 (gI S 124 13).toNatClampNeg) &&& 31) = 18 → (∀ r202 : Int32, r202 = (f_Mo_grows ((gR S 125 (gI S 124 13).toNatClampNeg) &&& 31)) → (((gI S 124 17) + r202) ≤ 24 → True) ∧ (¬ ((gI S 124 17) + r202) ≤ 24 → True)))))))))))) ∧ (¬ ((gR S 125 (gI S 124 13).toNatClampNeg) &&& 31) = 17 → ((gI S 124 17) ≤ 0 → (((gR S 125 (gI S 124 13).toNatClampNeg) &&& 31) = 10 → (((gR S 125 (gI S 124 13).toNatClampNeg) &&& 31) = 8 → True) ∧ (¬ ((gR S 125 (gI S 124 13).toNatClampNeg) &&& 31) = 8 → (((gR S 125 (gI S 124 13).toNatClampNeg) &&& 31) = 19 → (1 ≤ ((gR S 125 (gI S 124 13).toNatClampNeg) >>> ((5 : Int32) &&& 31)) → (((gR S 125 (gI S 124 13).toNatClampNeg) &&& 31) = 18 → ((gI S 124 16) = (gI S 124 11) → True) ∧ (¬ (gI S 124 16) = (gI S 124 11) → (∀ r215 : Int32, r215 = (f_Mo_grows ((gR S 125 (gI S 124 13).toNatClampNeg) &&& 31)) → (((gI S 124 17) + r215) ≤ 24 → True) ∧ (¬ ((gI S 124 17) + r215) ≤ 24 → True)))) ∧ (¬ ((gR S 125 (gI S 124 13).toNatClampNeg) &&& 31) = 18 → (∀ r218 : Int32, r218 = (f_Mo_grows ((gR S 125 (gI S 124 13).toNatClampNeg) &&& 31)) → (((gI S 124 17) + r218) ≤ 24 → True) ∧ (¬ ((gI S 124 17) + r218) ≤ 24 → True)))) ∧ (¬ 1 ≤ ((gR S 125 (gI S 124 13).toNatClampNeg) >>> ((5 : Int32) &&& 31)) → True)) ∧ (¬ ((gR S 125 (gI S 124 13).toNatClampNeg) &&& 31) = 19 → (((gR S 125 (gI S 124 13).toNatClampNeg) &&& 31) = 18 → ((gI S 124 16) = (gI S 124 11) → True) ∧ (¬ (gI S 124 16) = (gI S 124 11) → (∀ r223 : Int32, r223 = (f_Mo_grows ((gR S 125 (gI S 124 13).toNatClampNeg) &&& 31)) → (((gI S 124 17) + r223) ≤ 24 → True) ∧ (¬ ((gI S 124 17) + r223) ≤ 24 → True)))) ∧ (¬ ((gR S 125 (gI S 124 13).toNatClampNeg) &&& 31) = 18 → (∀ r226 : Int32, r226 = (f_Mo_grows ((gR S 125 (gI S 124 13).toNatClampNeg) &&& 31)) → (((gI S 124 17) + r226) ≤ 24 → True) ∧ (¬ ((gI S 124 17) + r226) ≤ 24 → True)))))) ∧ (¬ ((gR S 125 (gI S 124 13).toNatClampNeg) &&& 31) = 10 → (((gR S 125 (gI S 124 13).toNatClampNeg) &&& 31) = 11 → (((gR S 125 (gI S 124 13).toNatClampNeg) &&& 31) = 8 → True) ∧ (¬ ((gR S 125 (gI S 124 13).toNatClampNeg) &&& 31) = 8 → (((gR S 125 (gI S 124 13).toNatClampNeg) &&& 31) = 19 → (1 ≤ ((gR S 125 (gI S 124 13).toNatClampNeg) >>> ((5 : Int32) &&& 31)) → (((gR S 125 (gI S 124 13).toNatClampNeg) &&& 31) = 18 → ((gI S 124 16) = (gI S 124 11) → True) ∧ (¬ (gI S 124 16) = (gI S 124 11) → (∀ r238 : Int32, r238 = (f_Mo_grows ((gR S 125 (gI S 124 13).toNatClampNeg) &&& 31)) → (((gI S 124 17) + r238) ≤ 24 → True) ∧ (¬ ((gI S 124 17) + r238) ≤ 24 → True)))) ∧ (¬ ((gR S 125 (gI S 124 13).toNatClampNeg) &&& 31) = 18 → (∀ r241 : Int32, r241 = (f_Mo_grows ((gR S 125 (gI S 124 13).toNatClampNeg) &&& 31)) → (((gI S 124 17) + r241) ≤ 24 → True) ∧ (¬ ((gI S 124 17) + r241) ≤ 24 → True)))) ∧ (¬ 1 ≤ ((gR S 125 (gI S 124 13).toNatClampNeg) >>> ((5 : Int32) &&& 31)) → True)) ∧ (¬ ((gR S 125 (gI S 124 13).toNatClampNeg) &&& 31) = 19 → (((gR S 125 (gI S 124 13).toNatClampNeg) &&& 31) = 18 → ((gI S 124 16) = (gI S 124 11) → True) ∧ (¬ (gI S 124 16) = (gI S 124 11) → (∀ r246 : Int32, r246 = (f_Mo_grows ((gR S 125 (gI S 124 13).toNatClampNeg) &&& 31)) → (((gI S 124 17) + r246) ≤ 24 → True) ∧ (¬ ((gI S 124 17) + r246) ≤ 24 → True)))) ∧ (¬ ((gR S 125 (gI S 124 13).toNatClampNeg) &&& 31) = 18 → (∀ r249 : Int32, r249 = (f_Mo_grows ((gR S 125 (gI S 124 13).toNatClampNeg) &&& 31)) → (((gI S 124 17) + r249) ≤ 24 → True) ∧ (¬ ((gI S 124 17) + r249) ≤ 24 → True)))))) ∧ (¬ ((gR S 125 (gI S 124 13).toNatClampNeg) &&& 31) = 11 → (((gR S 125 (gI S 124 13).toNatClampNeg) &&& 31) = 8 → True) ∧ (¬ ((gR S 125 (gI S 124 13).toNatClampNeg) &&& 31) = 8 → (((gR S 125 (gI S 124 13).toNatClampNeg) &&& 31) = 19 → (1 ≤ ((gR S 125 (gI S 124 13).toNatClampNeg) >>> ((5 : Int32) &&& 31)) → (((gR S 125 (gI S 124 13).toNatClampNeg) &&& 31) = 18 → ((gI S 124 16) = (gI S 124 11) → True) ∧ (¬ (gI S 124 16) = (gI S 124 11) → (∀ r258 : Int32, r258 = (f_Mo_grows ((gR S 125 (gI S 124 13).toNatClampNeg) &&& 31)) → (((gI S 124 17) + r258) ≤ 24 → True) ∧ (¬ ((gI S 124 17) + r258) ≤ 24 → True)))) ∧ (¬ ((gR S 125 (gI S 124 13).toNatClampNeg) &&& 31) = 18 → (∀ r261 : Int32, r261 = (f_Mo_grows ((gR S 125 (gI S 124 13).toNatClampNeg) &&& 31)) → (((gI S 124 17) + r261) ≤ 24 → True) ∧ (¬ ((gI S 124 17) + r261) ≤ 24 → True)))) ∧ (¬ 1 ≤ ((gR S 125 (gI S 124 13).toNatClampNeg) >>> ((5 : Int32) &&& 31)) → True)) ∧ (¬ ((gR S 125 (gI S 124 13).toNatClampNeg) &&& 31) = 19 → (((gR S 125 (gI S 124 13).toNatClampNeg) &&& 31) = 18 → ((gI S 124 16) = (gI S 124 11) → True) ∧ (¬ (gI S 124 16) = (gI S 124 11) → (∀ r266 : Int32, r266 = (f_Mo_grows ((gR S 125 (gI S 124 13).toNatClampNeg) &&& 31)) → (((gI S 124 17) + r266) ≤ 24 → True) ∧ (¬ ((gI S 124 17) + r266) ≤ 24 → True)))) ∧ (¬ ((gR S 125 (gI S 124 13).toNatClampNeg) &&& 31) = 18 → (∀ r269 : Int32, r269 = (f_Mo_grows ((gR S 125 (gI S 124 13).toNatClampNeg) &&& 31)) → (((gI S 124 17) + r269) ≤ 24 → True) ∧ (¬ ((gI S 124 17) + r269) ≤ 24 → True)))))))) ∧ (¬ (gI S 124 17) ≤ 0 → (vp_in ((gI S 124 17) - 1) 24) ∧ ((((gR S 125 (gI S 124 13).toNatClampNeg) &&& 31) = 10 → ((gR S 130 ((gI S 124 17) - 1).toNatClampNeg) < 0 → True) ∧ (¬ (gR S 130 ((gI S 124 17) - 1).toNatClampNeg) < 0 → ((gR S 130 ((gI S 124 17) - 1).toNatClampNeg) < 32 → (((gR S 125 (gI S 124 13).toNatClampNeg) &&& 31) = 8 → ((gR S 130 ((gI S 124 17) - 1).toNatClampNeg) = 0 → True) ∧ (¬ (gR S 130 ((gI S 124 17) - 1).toNatClampNeg) = 0 → (((gR S 125 (gI S 124 13).toNatClampNeg) &&& 31) = 19 → (1 ≤ ((gR S 125 (gI S 124 13).toNatClampNeg) >>> ((5 : Int32) &&& 31)) → (((gR S 125 (gI S 124 13).toNatClampNeg) &&& 31) = 18 → ((gI S 124 16) = (gI S 124 11) → True) ∧ (¬ (gI S 124 16) = (gI S 124 11) → (∀ r282 : Int32, r282 = (f_Mo_grows ((gR S 125 (gI S 124 13).toNatClampNeg) &&& 31)) → (((gI S 124 17) + r282) ≤ 24 → True) ∧ (¬ ((gI S 124 17) + r282) ≤ 24 → True)))) ∧ (¬ ((gR S 125 (gI S 124 13).toNatClampNeg) &&& 31) = 18 → (∀ r285 : Int32, r285 = (f_Mo_grows ((gR S 125 (gI S 124 13).toNatClampNeg) &&& 31)) → (((gI S 124 17) + r285) ≤ 24 → True) ∧ (¬ ((gI S 124 17) + r285) ≤ 24 → True)))) ∧ (¬ 1 ≤ ((gR S 125 (gI S 124 13).toNatClampNeg) >>> ((5 : Int32) &&& 31)) → True)) ∧ (¬ ((gR S 125 (gI S 124 13).toNatClampNeg) &&& 31) = 19 → (((gR S 125 (gI S 124 13).toNatClampNeg) &&& 31) = 18 → ((gI S 124 16) = (gI S 124 11) → True) ∧ (¬ (gI S 124 16) = (gI S 124 11) → (∀ r290 : Int32, r290 = (f_Mo_grows ((gR S 125 (gI S 124 13).toNatClampNeg) &&& 31)) → (((gI S 124 17) + r290) ≤ 24 → True) ∧ (¬ ((gI S 124 17) + r290) ≤ 24 → True)))) ∧ (¬ ((gR S 125 (gI S 124 13).toNatClampNeg) &&& 31) = 18 → (∀ r293 : Int32, r293 = (f_Mo_grows ((gR S 125 (gI S 124 13).toNatClampNeg) &&& 31)) → (((gI S 124 17) + r293) ≤ 24 → True) ∧ (¬ ((gI S 124 17) + r293) ≤ 24 → True)))))) ∧ (¬ ((gR S 125 (gI S 124 13).toNatClampNeg) &&& 31) = 8 → (((gR S 125 (gI S 124 13).toNatClampNeg) &&& 31) = 19 → (1 ≤ ((gR S 125 (gI S 124 13).toNatClampNeg) >>> ((5 : Int32) &&& 31)) → (((gR S 125 (gI S 124 13).toNatClampNeg) &&& 31) = 18 → ((gI S 124 16) = (gI S 124 11) → True) ∧ (¬ (gI S 124 16) = (gI S 124 11) → (∀ r300 : Int32, r300 = (f_Mo_grows ((gR S 125 (gI S 124 13).toNatClampNeg) &&& 31)) → (((gI S 124 17) + r300) ≤ 24 → True) ∧ (¬ ((gI S 124 17) + r300) ≤ 24 → True)))) ∧ (¬ ((gR S 125 (gI S 124 13).toNatClampNeg) &&& 31) = 18 → (∀ r303 : Int32, r303 = (f_Mo_grows ((gR S 125 (gI S 124 13).toNatClampNeg) &&& 31)) → (((gI S 124 17) + r303) ≤ 24 → True) ∧ (¬ ((gI S 124 17) + r303) ≤ 24 → True)))) ∧ (¬ 1 ≤ ((gR S 125 (gI S 124 13).toNatClampNeg) >>> ((5 : Int32) &&& 31)) → True)) ∧ (¬ ((gR S 125 (gI S 124 13).toNatClampNeg) &&& 31) = 19 → (((gR S 125 (gI S 124 13).toNatClampNeg) &&& 31) = 18 → ((gI S 124 16) = (gI S 124 11) → True) ∧ (¬ (gI S 124 16) = (gI S 124 11) → (∀ r308 : Int32, r308 = (f_Mo_grows ((gR S 125 (gI S 124 13).toNatClampNeg) &&& 31)) → (((gI S 124 17) + r308) ≤ 24 → True) ∧ (¬ ((gI S 124 17) + r308) ≤ 24 → True)))) ∧ (¬ ((gR S 125 (gI S 124 13).toNatClampNeg) &&& 31) = 18 → (∀ r311 : Int32, r311 = (f_Mo_grows ((gR S 125 (gI S 124 13).toNatClampNeg) &&& 31)) → (((gI S 124 17) + r311) ≤ 24 → True) ∧ (¬ ((gI S 124 17) + r311) ≤ 24 → True)))))) ∧ (¬ (gR S 130 ((gI S 124 17) - 1).toNatClampNeg) < 32 → True))) ∧ (¬ ((gR S 125 (gI S 124 13).toNatClampNeg) &&& 31) = 10 → (((gR S 125 (gI S 124 13).toNatClampNeg) &&& 31) = 11 → ((gR S 130 ((gI S 124 17) - 1).toNatClampNeg) < 0 → True) ∧ (¬ (gR S 130 ((gI S 124 17) - 1).toNatClampNeg) < 0 → ((gR S 130 ((gI S 124 17) - 1).toNatClampNeg) < 32 → (((gR S 125 (gI S 124 13).toNatClampNeg) &&& 31) = 8 → ((gR S 130 ((gI S 124 17) - 1).toNatClampNeg) = 0 → True) ∧ (¬ (gR S 130 ((gI S 124 17) - 1).toNatClampNeg) = 0 → (((gR S 125 (gI S 124 13).toNatClampNeg) &&& 31) = 19 → (1 ≤ ((gR S 125 (gI S 124 13).toNatClampNeg) >>> ((5 : Int32) &&& 31)) → (((gR S 125 (gI S 124 13).toNatClampNeg) &&& 31) = 18 → ((gI S 124 16) = (gI S 124 11) → True) ∧ (¬ (gI S 124 16) = (gI S 124 11) → (∀ r323 : Int32, r323 = (f_Mo_grows ((gR S 125 (gI S 124 13).toNatClampNeg) &&& 31)) → (((gI S 124 17) + r323) ≤ 24 → True) ∧ (¬ ((gI S 124 17) + r323) ≤ 24 → True)))) ∧ (¬ ((gR S 125 (gI S 124 13).toNatClampNeg) &&& 31) = 18 → (∀ r326 : Int32, r326 = (f_Mo_grows ((gR S 125 (gI S 124 13).toNatClampNeg) &&& 31)) → (((gI S 124 17) + r326) ≤ 24 → True) ∧ (¬ ((gI S 124 17) + r326) ≤ 24 → True)))) ∧ (¬ 1 ≤ ((gR S 125 (gI S 124 13).toNatClampNeg) >>> ((5 : Int32) &&& 31)) → True)) ∧ (¬ ((gR S 125 (gI S 124 13).toNatClampNeg) &&& 31) = 19 → (((gR S 125 (gI S 124 13).toNatClampNeg) &&& 31) = 18 → ((gI S 124 16) = (gI S 124 11) → True) ∧ (¬ (gI S 124 16) = (gI S 124 11) → (∀ r331 : Int32, r331 = (f_Mo_grows ((gR S 125 (gI S 124 13).toNatClampNeg) &&& 31)) → (((gI S 124 17) + r331) ≤ 24 → True) ∧ (¬ ((gI S 124 17) + r331) ≤ 24 → True)))) ∧ (¬ ((gR S 125 (gI S 124 13).toNatClampNeg) &&& 31) = 18 → (∀ r334 : Int32, r334 = (f_Mo_grows ((gR S 125 (gI S 124 13).toNatClampNeg) &&& 31)) → (((gI S 124 17) + r334) ≤ 24 → True) ∧ (¬ ((gI S 124 17) + r334) ≤ 24 → True)))))) ∧ (¬ ((gR S 125 (gI S 124 13).toNatClampNeg) &&& 31) = 8 → (((gR S 125 (gI S 124 13).toNatClampNeg) &&& 31) = 19 → (1 ≤ ((gR S 125 (gI S 124 13).toNatClampNeg) >>> ((5 : Int32) &&& 31)) → (((gR S 125 (gI S 124 13).toNatClampNeg) &&& 31) = 18 → ((gI S 124 16) = (gI S 124 11) → True) ∧ (¬ (gI S 124 16) = (gI S 124 11) → (∀ r341 : Int32, r341 = (f_Mo_grows ((gR S 125 (gI S 124 13).toNatClampNeg) &&& 31)) → (((gI S 124 17) + r341) ≤ 24 → True) ∧ (¬ ((gI S 124 17) + r341) ≤ 24 → True)))) ∧ (¬ ((gR S 125 (gI S 124 13).toNatClampNeg) &&& 31) = 18 → (∀ r344 : Int32, r344 = (f_Mo_grows ((gR S 125 (gI S 124 13).toNatClampNeg) &&& 31)) → (((gI S 124 17) + r344) ≤ 24 → True) ∧ (¬ ((gI S 124 17) + r344) ≤ 24 → True)))) ∧ (¬ 1 ≤ ((gR S 125 (gI S 124 13).toNatClampNeg) >>> ((5 : Int32) &&& 31)) → True)) ∧ (¬ ((gR S 125 (gI S 124 13).toNatClampNeg) &&& 31) = 19 → (((gR S 125 (gI S 124 13).toNatClampNeg) &&& 31) = 18 → ((gI S 124 16) = (gI S 124 11) → True) ∧ (¬ (gI S 124 16) = (gI S 124 11) → (∀ r349 : Int32, r349 = (f_Mo_grows ((gR S 125 (gI S 124 13).toNatClampNeg) &&& 31)) → (((gI S 124 17) + r349) ≤ 24 → True) ∧ (¬ ((gI S 124 17) + r349) ≤ 24 → True)))) ∧ (¬ ((gR S 125 (gI S 124 13).toNatClampNeg) &&& 31) = 18 → (∀ r352 : Int32, r352 = (f_Mo_grows ((gR S 125 (gI S 124 13).toNatClampNeg) &&& 31)) → (((gI S 124 17) + r352) ≤ 24 → True) ∧ (¬ ((gI S 124 17) + r352) ≤ 24 → True)))))) ∧ (¬ (gR S 130 ((gI S 124 17) - 1).toNatClampNeg) < 32 → True))) ∧ (¬ ((gR S 125 (gI S 124 13).toNatClampNeg) &&& 31) = 11 → (((gR S 125 (gI S 124 13).toNatClampNeg) &&& 31) = 8 → ((gR S 130 ((gI S 124 17) - 1).toNatClampNeg) = 0 → True) ∧ (¬ (gR S 130 ((gI S 124 17) - 1).toNatClampNeg) = 0 → (((gR S 125 (gI S 124 13).toNatClampNeg) &&& 31) = 19 → (1 ≤ ((gR S 125 (gI S 124 13).toNatClampNeg) >>> ((5 : Int32) &&& 31)) → (((gR S 125 (gI S 124 13).toNatClampNeg) &&& 31) = 18 → ((gI S 124 16) = (gI S 124 11) → True) ∧ (¬ (gI S 124 16) = (gI S 124 11) → (∀ r361 : Int32, r361 = (f_Mo_grows ((gR S 125 (gI S 124 13).toNatClampNeg) &&& 31)) → (((gI S 124 17) + r361) ≤ 24 → True) ∧ (¬ ((gI S 124 17) + r361) ≤ 24 → True)))) ∧ (¬ ((gR S 125 (gI S 124 13).toNatClampNeg) &&& 31) = 18 → (∀ r364 : Int32, r364 = (f_Mo_grows ((gR S 125 (gI S 124 13).toNatClampNeg) &&& 31)) → (((gI S 124 17) + r364) ≤ 24 → True) ∧ (¬ ((gI S 124 17) + r364) ≤ 24 → True)))) ∧ (¬ 1 ≤ ((gR S 125 (gI S 124 13).toNatClampNeg) >>> ((5 : Int32) &&& 31)) → True)) ∧ (¬ ((gR S 125 (gI S 124 13).toNatClampNeg) &&& 31) = 19 → (((gR S 125 (gI S 124 13).toNatClampNeg) &&& 31) = 18 → ((gI S 124 16) = (gI S 124 11) → True) ∧ (¬ (gI S 124 16) = (gI S 124 11) → (∀ r369 : Int32, r369 = (f_Mo_grows ((gR S 125 (gI S 124 13).toNatClampNeg) &&& 31)) → (((gI S 124 17) + r369) ≤ 24 → True) ∧ (¬ ((gI S 124 17) + r369) ≤ 24 → True)))) ∧ (¬ ((gR S 125 (gI S 124 13).toNatClampNeg) &&& 31) = 18 → (∀ r372 : Int32, r372 = (f_Mo_grows ((gR S 125 (gI S 124 13).toNatClampNeg) &&& 31)) → (((gI S 124 17) + r372) ≤ 24 → True) ∧ (¬ ((gI S 124 17) + r372) ≤ 24 → True)))))) ∧ (¬ ((gR S 125 (gI S 124 13).toNatClampNeg) &&& 31) = 8 → (((gR S 125 (gI S 124 13).toNatClampNeg) &&& 31) = 19 → (1 ≤ ((gR S 125 (gI S 124 13).toNatClampNeg) >>> ((5 : Int32) &&& 31)) → (((gR S 125 (gI S 124 13).toNatClampNeg) &&& 31) = 18 → ((gI S 124 16) = (gI S 124 11) → True) ∧ (¬ (gI S 124 16) = (gI S 124 11) → (∀ r379 : Int32, r379 = (f_Mo_grows ((gR S 125 (gI S 124 13).toNatClampNeg) &&& 31)) → (((gI S 124 17) + r379) ≤ 24 → True) ∧ (¬ ((gI S 124 17) + r379) ≤ 24 → True)))) ∧ (¬ ((gR S 125 (gI S 124 13).toNatClampNeg) &&& 31) = 18 → (∀ r382 : Int32, r382 = (f_Mo_grows ((gR S 125 (gI S 124 13).toNatClampNeg) &&& 31)) → (((gI S 124 17) + r382) ≤ 24 → True) ∧ (¬ ((gI S 124 17) + r382) ≤ 24 → True)))) ∧ (¬ 1 ≤ ((gR S 125 (gI S 124 13).toNatClampNeg) >>> ((5 : Int32) &&& 31)) → True)) ∧ (¬ ((gR S 125 (gI S 124 13).toNatClampNeg) &&& 31) = 19 → (((gR S 125 (gI S 124 13).toNatClampNeg) &&& 31) = 18 → ((gI S 124 16) = (gI S 124 11) → True) ∧ (¬ (gI S 124 16) = (gI S 124 11) → (∀ r387 : Int32, r387 = (f_Mo_grows ((gR S 125 (gI S 124 13).toNatClampNeg) &&& 31)) → (((gI S 124 17) + r387) ≤ 24 → True) ∧ (¬ ((gI S 124 17) + r387) ≤ 24 → True)))) ∧ (¬ ((gR S 125 (gI S 124 13).toNatClampNeg) &&& 31) = 18 → (∀ r390 : Int32, r390 = (f_Mo_grows ((gR S 125 (gI S 124 13).toNatClampNeg) &&& 31)) → (((gI S 124 17) + r390) ≤ 24 → True) ∧ (¬ ((gI S 124 17) + r390) ≤ 24 → True))))))))))))) ∧ (¬ ((gR S 125 (gI S 124 13).toNatClampNeg) &&& 31) = 16 → (((gR S 125 (gI S 124 13).toNatClampNeg) &&& 31) = 17 → (∀ r394 : Int32, r394 = (f_Mo_isArgument S ((gR S 125 (gI S 124 13).toNatClampNeg) >>> ((5 : Int32) &&& 31))) → (r394 = 0 → True) ∧ (¬ r394 = 0 → ((gI S 124 17) ≤ 0 → (((gR S 125 (gI S 124 13).toNatClampNeg) &&& 31) = 10 → (((gR S 125 (gI S 124 13).toNatClampNeg) &&& 31) = 8 → True) ∧ (¬ ((gR S 125 (gI S 124 13).toNatClampNeg) &&& 31) = 8 → (((gR S 125 (gI S 124 13).toNatClampNeg) &&& 31) = 19 → (1 ≤ ((gR S 125 (gI S 124 13).toNatClampNeg) >>> ((5 : Int32) &&& 31)) → (((gR S 125 (gI S 124 13).toNatClampNeg) &&& 31) = 18 → ((gI S 124 16) = (gI S 124 11) → True) ∧ (¬ (gI S 124 16) = (gI S 124 11) → (∀ r407 : Int32, r407 = (f_Mo_grows ((gR S 125 (gI S 124 13).toNatClampNeg) &&& 31)) → (((gI S 124 17) + r407) ≤ 24 → True) ∧ (¬ ((gI S 124 17) + r407) ≤ 24 → True)))) ∧ (¬ ((gR S 125 (gI S 124 13).toNatClampNeg) &&& 31) = 18 → (∀ r410 : Int32, r410 = (f_Mo_grows ((gR S 125 (gI S 124 13).toNatClampNeg) &&& 31)) → (((gI S 124 17) + r410) ≤ 24 → True) ∧ (¬ ((gI S 124 17) + r410) ≤ 24 → True)))) ∧ (¬ 1 ≤ ((gR S 125 (gI S 124 13).toNatClampNeg) >>> ((5 : Int32) &&& 31)) → True)) ∧ (¬ ((gR S 125 (gI S 124 13).toNatClampNeg) &&& 31) = 19 → (((gR S 125 (gI S 124 13).toNatClampNeg) &&& 31) = 18 → ((gI S 124 16) = (gI S 124 11) → True) ∧ (¬ (gI S 124 16) = (gI S 124 11) → (∀ r415 : Int32, r415 = (f_Mo_grows ((gR S 125 (gI S 124 13).toNatClampNeg) &&& 31)) → (((gI S 124 17) + r415) ≤ 24 → True) ∧ (¬ ((gI S 124 17) + r415) ≤ 24 → True)))) ∧ (¬ ((gR S 125 (gI S 124 13).toNatClampNeg) &&& 31) = 18 → (∀ r418 : Int32, r418 = (f_Mo_grows ((gR S 125 (gI S 124 13).toNatClampNeg) &&& 31)) → (((gI S 124 17) + r418) ≤ 24 → True) ∧ (¬ ((gI S 124 17) + r418) ≤ 24 → True)))))) ∧ (¬ ((gR S 125 (gI S 124 13).toNatClampNeg) &&& 31) = 10 → (((gR S 125 (gI S 124 13).toNatClampNeg) &&& 31) = 11 → (((gR S 125 (gI S 124 13).toNatClampNeg) &&& 31) = 8 → True) ∧ (¬ ((gR S 125 (gI S 124 13).toNatClampNeg) &&& 31) = 8 → (((gR S 125 (gI S 124 13).toNatClampNeg) &&& 31) = 19 → (1 ≤ ((gR S 125 (gI S 124 13).toNatClampNeg) >>> ((5 : Int32) &&& 31)) → (((gR S 125 (gI S 124 13).toNatClampNeg) &&& 31) = 18 → ((gI S 124 16) = (gI S 124 11) → True) ∧ (¬ (gI S 124 16) = (gI S 124 11) → (∀ r430 : Int32, r430 = (f_Mo_grows ((gR S 125 (gI S 124 13).toNatClampNeg) &&& 31)) → (((gI S 124 17) + r430) ≤ 24 → True) ∧ (¬ ((gI S 124 17) + r430) ≤ 24 → True)))) ∧ (¬ ((gR S 125 (gI S 124 13).toNatClampNeg) &&& 31) = 18 → (∀ r433 : Int32, r433 = (f_Mo_grows ((gR S 125 (gI S 124 13).toNatClampNeg) &&& 31)) → (((gI S 124 17) + r433) ≤ 24 → True) ∧ (¬ ((gI S 124 17) + r433) ≤ 24 → True)))) ∧ (¬ 1 ≤ ((gR S 125 (gI S 124 13).toNatClampNeg) >>> ((5 : Int32) &&& 31)) → True)) ∧ (¬ ((gR S 125 (gI S 124 13).toNatClampNeg) &&& 31) = 19 → (((gR S 125 (gI S 124 13).toNatClampNeg) &&& 31) = 18 → ((gI S 124 16) = (gI S 124 11) → True) ∧ (¬ (gI S 124 16) = (gI S 124 11) → (∀ r438 : Int32, r438 = (f_Mo_grows ((gR S 125 (gI S 124 13).toNatClampNeg) &&& 31)) → (((gI S 124 17) + r438) ≤ 24 → True) ∧ (¬ ((gI S 124 17) + r438) ≤ 24 → True)))) ∧ (¬ ((gR S 125 (gI S 124 13).toNatClampNeg) &&& 31) = 18 → (∀ r441 : Int32, r441 = (f_Mo_grows ((gR S 125 (gI S 124 13).toNatClampNeg) &&& 31)) → (((gI S 124 17) + r441) ≤ 24 → True) ∧ (¬ ((gI S 124 17) + r441) ≤ 24 → True)))))) ∧ (¬ ((gR S 125 (gI S 124 13).toNatClampNeg) &&& 31) = 11 → (((gR S 125 (gI S 124 13).toNatClampNeg) &&& 31) = 8 → True) ∧ (¬ ((gR S 125 (gI S 124 13).toNatClampNeg) &&& 31) = 8 → (((gR S 125 (gI S 124 13).toNatClampNeg) &&& 31) = 19 → (1 ≤ ((gR S 125 (gI S 124 13).toNatClampNeg) >>> ((5 : Int32) &&& 31)) → (((gR S 125 (gI S 124 13).toNatClampNeg) &&& 31) = 18 → ((gI S 124 16) = (gI S 124 11) → True) ∧ (¬ (gI S 124 16) = (gI S 124 11) → (∀ r450 : Int32, r450 = (f_Mo_grows ((gR S 125 (gI S 124 13).toNatClampNeg) &&& 31)) → (((gI S 124 17) + r450) ≤ 24 → True) ∧ (¬ ((gI S 124 17) + r450) ≤ 24 → True)))) ∧ (¬ ((gR S 125 (gI S 124 13).toNatClampNeg) &&& 31) = 18 → (∀ r453 : Int32, r453 = (f_Mo_grows ((gR S 125 (gI S 124 13).toNatClampNeg) &&& 31)) → (((gI S 124 17) + r453) ≤ 24 → True) ∧ (¬ ((gI S 124 17) + r453) ≤ 24 → True)))) ∧ (¬ 1 ≤ ((gR S 125 (gI S 124 13).toNatClampNeg) >>> ((5 : Int32) &&& 31)) → True)) ∧ (¬ ((gR S 125 (gI S 124 13).toNatClampNeg) &&& 31) = 19 → (((gR S 125 (gI S 124 13).toNatClampNeg) &&& 31) = 18 → ((gI S 124 16) = (gI S 124 11) → True) ∧ (¬ (gI S 124 16) = (gI S 124 11) → (∀ r458 : Int32, r458 = (f_Mo_grows ((gR S 125 (gI S 124 13).toNatClampNeg) &&& 31)) → (((gI S 124 17) + r458) ≤ 24 → True) ∧ (¬ ((gI S 124 17) + r458) ≤ 24 → True)))) ∧ (¬ ((gR S 125 (gI S 124 13).toNatClampNeg) &&& 31) = 18 → (∀ r461 : Int32, r461 = (f_Mo_grows ((gR S 125 (gI S 124 13).toNatClampNeg) &&& 31)) → (((gI S 124 17) + r461) ≤ 24 → True) ∧ (¬ ((gI S 124 17) + r461) ≤ 24 → True)))))))) ∧ (¬ (gI S 124 17) ≤ 0 → (vp_in ((gI S 124 17) - 1) 24) ∧ ((((gR S 125 (gI S 124 13).toNatClampNeg) &&& 31) = 10 → ((gR S 130 ((gI S 124 17) - 1).toNatClampNeg) < 0 → True) ∧ (¬ (gR S 130 ((gI S 124 17) - 1).toNatClampNeg) < 0 → ((gR S 130 ((gI S 124 17) - 1).toNatClampNeg) < 32 → (((gR S 125 (gI S 124 13).toNatClampNeg) &&& 31) = 8 → ((gR S 130 ((gI S 124 17) - 1).toNatClampNeg) = 0 → True) ∧ (¬ (gR S 130 ((gI S 124 17) - 1).toNatClampNeg) = 0 → (((gR S 125 (gI S 124 13).toNatClampNeg) &&& 31) = 19 → (1 ≤ ((gR S 125 (gI S 124 13).toNatClampNeg) >>> ((5 : Int32) &&& 31)) → (((gR S 125 (gI S 124 13).toNatClampNeg) &&& 31) = 18 → ((gI S 124 16) = (gI S 124 11) → True) ∧ (¬ (gI S 124 16) = (gI S 124 11) → (∀ r474 : Int32, r474 = (f_Mo_grows ((gR S 125 (gI S 124 13).toNatClampNeg) &&& 31)) → (((gI S 124 17) + r474) ≤ 24 → True) ∧ (¬ ((gI S 124 17) + r474) ≤ 24 → True)))) ∧ (¬ ((gR S 125 (gI S 124 13).toNatClampNeg) &&& 31) = 18 → (∀ r477 : Int32, r477 = (f_Mo_grows ((gR S 125 (gI S 124 13).toNatClampNeg) &&& 31)) → (((gI S 124 17) + r477) ≤ 24 → True) ∧ (¬ ((gI S 124 17) + r477) ≤ 24 → True)))) ∧ (¬ 1 ≤ ((gR S 125 (gI S 124 13).toNatClampNeg) >>> ((5 : Int32) &&& 31)) → True)) ∧ (¬ ((gR S 125 (gI S 124 13).toNatClampNeg) &&& 31) = 19 → (((gR S 125 (gI S 124 13).toNatClampNeg) &&& 31) = 18 → ((gI S 124 16) = (gI S 124 11) → True) ∧ (¬ (gI S 124 16) = (gI S 124 11) → (∀ r482 : Int32, r482 = (f_Mo_grows ((gR S 125 (gI S 124 13).toNatClampNeg) &&& 31)) → (((gI S 124 17) + r482) ≤ 24 → True) ∧ (¬ ((gI S 124 17) + r482) ≤ 24 → True)))) ∧ (¬ ((gR S 125 (gI S 124 13).toNatClampNeg) &&& 31) = 18 → (∀ r485 : Int32, r485 = (f_Mo_grows ((gR S 125 (gI S 124 13).toNatClampNeg) &&& 31)) → (((gI S 124 17) + r485) ≤ 24 → True) ∧ (¬ ((gI S 124 17) + r485) ≤ 24 → True)))))) ∧ (¬ ((gR S 125 (gI S 124 13).toNatClampNeg) &&& 31) = 8 → (((gR S 125 (gI S 124 13).toNatClampNeg) &&& 31) = 19 → (1 ≤ ((gR S 125 (gI S 124 13).toNatClampNeg) >>> ((5 : Int32) &&& 31)) → (((gR S 125 (gI S 124 13).toNatClampNeg) &&& 31) = 18 → ((gI S 124 16) = (gI S 124 11) → True) ∧ (¬ (gI S 124 16) = (gI S 124 11) → (∀ r492 : Int32, r492 = (f_Mo_grows ((gR S 125 (gI S 124 13).toNatClampNeg) &&& 31)) → (((gI S 124 17) + r492) ≤ 24 → True) ∧ (¬ ((gI S 124 17) + r492) ≤ 24 → True)))) ∧ (¬ ((gR S 125 (gI S 124 13).toNatClampNeg) &&& 31) = 18 → (∀ r495 : Int32, r495 = (f_Mo_grows ((gR S 125 (gI S 124 13).toNatClampNeg) &&& 31)) → (((gI S 124 17) + r495) ≤ 24 → True) ∧ (¬ ((gI S 124 17) + r495) ≤ 24 → True)))) ∧ (¬ 1 ≤ ((gR S 125 (gI S 124 13).toNatClampNeg) >>> ((5 : Int32) &&& 31)) → True)) ∧ (¬ ((gR S 125 (gI S 124 13).toNatClampNeg) &&& 31) = 19 → (((gR S 125 (gI S 124 13).toNatClampNeg) &&& 31) = 18 → ((gI S 124 16) = (gI S 124 11) → True) ∧ (¬ (gI S 124 16) = (gI S 124 11) → (∀ r500 : Int32, r500 = (f_Mo_grows ((gR S 125 (gI S 124 13).toNatClampNeg) &&& 31)) → (((gI S 124 17) + r500) ≤ 24 → True) ∧ (¬ ((gI S 124 17) + r500) ≤ 24 → True)))) ∧ (¬ ((gR S 125 (gI S 124 13).toNatClampNeg) &&& 31) = 18 → (∀ r503 : Int32, r503 = (f_Mo_grows ((gR S 125 (gI S 124 13).toNatClampNeg) &&& 31)) → (((gI S 124 17) + r503) ≤ 24 → True) ∧ (¬ ((gI S 124 17) + r503) ≤ 24 → True)))))) ∧ (¬ (gR S 130 ((gI S 124 17) - 1).toNatClampNeg) < 32 → True))) ∧ (¬ ((gR S 125 (gI S 124 13).toNatClampNeg) &&& 31) = 10 → (((gR S 125 (gI S 124 13).toNatClampNeg) &&& 31) = 11 → ((gR S 130 ((gI S 124 17) - 1).toNatClampNeg) < 0 → True) ∧ (¬ (gR S 130 ((gI S 124 17) - 1).toNatClampNeg) < 0 → ((gR S 130 ((gI S 124 17) - 1).toNatClampNeg) < 32 → (((gR S 125 (gI S 124 13).toNatClampNeg) &&& 31) = 8 → ((gR S 130 ((gI S 124 17) - 1).toNatClampNeg) = 0 → True) ∧ (¬ (gR S 130 ((gI S 124 17) - 1).toNatClampNeg) = 0 → (((gR S 125 (gI S 124 13).toNatClampNeg) &&& 31) = 19 → (1 ≤ ((gR S 125 (gI S 124 13).toNatClampNeg) >>> ((5 : Int32) &&& 31)) → (((gR S 125 (gI S 124 13).toNatClampNeg) &&& 31) = 18 → ((gI S 124 16) = (gI S 124 11) → True) ∧ (¬ (gI S 124 16) = (gI S 124 11) → (∀ r515 : Int32, r515 = (f_Mo_grows ((gR S 125 (gI S 124 13).toNatClampNeg) &&& 31)) → (((gI S 124 17) + r515) ≤ 24 → True) ∧ (¬ ((gI S 124 17) + r515) ≤ 24 → True)))) ∧ (¬ ((gR S 125 (gI S 124 13).toNatClampNeg) &&& 31) = 18 → (∀ r518 : Int32, r518 = (f_Mo_grows ((gR S 125 (gI S 124 13).toNatClampNeg) &&& 31)) → (((gI S 124 17) + r518) ≤ 24 → True) ∧ (¬ ((gI S 124 17) + r518) ≤ 24 → True)))) ∧ (¬ 1 ≤ ((gR S 125 (gI S 124 13).toNatClampNeg) >>> ((5 : Int32) &&& 31)) → True)) ∧ (¬ ((gR S 125 (gI S 124 13).toNatClampNeg) &&& 31) = 19 → (((gR S 125 (gI S 124 13).toNatClampNeg) &&& 31) = 18 → ((gI S 124 16) = (gI S 124 11) → True) ∧ (¬ (gI S 124 16) = (gI S 124 11) → (∀ r523 : Int32, r523 = (f_Mo_grows ((gR S 125 (gI S 124 13).toNatClampNeg) &&& 31)) → (((gI S 124 17) + r523) ≤ 24 → True) ∧ (¬ ((gI S 124 17) + r523) ≤ 24 → True)))) ∧ (¬ ((gR S 125 (gI S 124 13).toNatClampNeg) &&& 31) = 18 → (∀ r526 : Int32, r526 = (f_Mo_grows ((gR S 125 (gI S 124 13).toNatClampNeg) &&& 31)) → (((gI S 124 17) + r526) ≤ 24 → True) ∧ (¬ ((gI S 124 17) + r526) ≤ 24 → True)))))) ∧ (¬ ((gR S 125 (gI S 124 13).toNatClampNeg) &&& 31) = 8 → (((gR S 125 (gI S 124 13).toNatClampNeg) &&& 31) = 19 → (1 ≤ ((gR S 125 (gI S 124 13).toNatClampNeg) >>> ((5 : Int32) &&& 31)) → (((gR S 125 (gI S 124 13).toNatClampNeg) &&& 31) = 18 → ((gI S 124 16) = (gI S 124 11) → True) ∧ (¬ (gI S 124 16) = (gI S 124 11) → (∀ r533 : Int32, r533 = (f_Mo_grows ((gR S 125 (gI S 124 13).toNatClampNeg) &&& 31)) → (((gI S 124 17) + r533) ≤ 24 → True) ∧ (¬ ((gI S 124 17) + r533) ≤ 24 → True)))) ∧ (¬ ((gR S 125 (gI S 124 13).toNatClampNeg) &&& 31) = 18 → (∀ r536 : Int32, r536 = (f_Mo_grows ((gR S 125 (gI S 124 13).toNatClampNeg) &&& 31)) → (((gI S 124 17) + r536) ≤ 24 → True) ∧ (¬ ((gI S 124 17) + r536) ≤ 24 → True)))) ∧ (¬ 1 ≤ ((gR S 125 (gI S 124 13).toNatClampNeg) >>> ((5 : Int32) &&& 31)) → True)) ∧ (¬ ((gR S 125 (gI S 124 13).toNatClampNeg) &&& 31) = 19 → (((gR S 125 (gI S 124 13).toNatClampNeg) &&& 31) = 18 → ((gI S 124 16) = (gI S 124 11) → True) ∧ (¬ (gI S 124 16) = (gI S 124 11) → (∀ r541 : Int32, r541 = (f_Mo_grows ((gR S 125 (gI S 124 13).toNatClampNeg) &&& 31)) → (((gI S 124 17) + r541) ≤ 24 → True) ∧ (¬ ((gI S 124 17) + r541) ≤ 24 → True)))) ∧ (¬ ((gR S 125 (gI S 124 13).toNatClampNeg) &&& 31) = 18 → (∀ r544 : Int32, r544 = (f_Mo_grows ((gR S 125 (gI S 124 13).toNatClampNeg) &&& 31)) → (((gI S 124 17) + r544) ≤ 24 → True) ∧ (¬ ((gI S 124 17) + r544) ≤ 24 → True)))))) ∧ (¬ (gR S 130 ((gI S 124 17) - 1).toNatClampNeg) < 32 → True))) ∧ (¬ ((gR S 125 (gI S 124 13).toNatClampNeg) &&& 31) = 11 → (((gR S 125 (gI S 124 13).toNatClampNeg) &&& 31) = 8 → ((gR S 130 ((gI S 124 17) - 1).toNatClampNeg) = 0 → True) ∧ (¬ (gR S 130 ((gI S 124 17) - 1).toNatClampNeg) = 0 → (((gR S 125 (gI S 124 13).toNatClampNeg) &&& 31) = 19 → (1 ≤ ((gR S 125 (gI S 124 13).toNatClampNeg) >>> ((5 : Int32) &&& 31)) → (((gR S 125 (gI S 124 13).toNatClampNeg) &&& 31) = 18 → ((gI S 124 16) = (gI S 124 11) → True) ∧ (¬ (gI S 124 16) = (gI S 124 11) → (∀ r553 : Int32, r553 = (f_Mo_grows ((gR S 125 (gI S 124 13).toNatClampNeg) &&& 31)) → (((gI S 124 17) + r553) ≤ 24 → True) ∧ (¬ ((gI S 124 17) + r553) ≤ 24 → True)))) ∧ (¬ ((gR S 125 (gI S 124 13).toNatClampNeg) &&& 31) = 18 → (∀ r556 : Int32, r556 = (f_Mo_grows ((gR S 125 (gI S 124 13).toNatClampNeg) &&& 31)) → (((gI S 124 17) + r556) ≤ 24 → True) ∧ (¬ ((gI S 124 17) + r556) ≤ 24 → True)))) ∧ (¬ 1 ≤ ((gR S 125 (gI S 124 13).toNatClampNeg) >>> ((5 : Int32) &&& 31)) → True)) ∧ (¬ ((gR S 125 (gI S 124 13).toNatClampNeg) &&& 31) = 19 → (((gR S 125 (gI S 124 13).toNatClampNeg) &&& 31) = 18 → ((gI S 124 16) = (gI S 124 11) → True) ∧ (¬ (gI S 124 16) = (gI S 124 11) → (∀ r561 : Int32, r561 = (f_Mo_grows ((gR S 125 (gI S 124 13).toNatClampNeg) &&& 31)) → (((gI S 124 17) + r561) ≤ 24 → True) ∧ (¬ ((gI S 124 17) + r561) ≤ 24 → True)))) ∧ (¬ ((gR S 125 (gI S 124 13).toNatClampNeg) &&& 31) = 18 → (∀ r564 : Int32, r564 = (f_Mo_grows ((gR S 125 (gI S 124 13).toNatClampNeg) &&& 31)) → (((gI S 124 17) + r564) ≤ 24 → True) ∧ (¬ ((gI S 124 17) + r564) ≤ 24 → True)))))) ∧ (¬ ((gR S 125 (gI S 124 13).toNatClampNeg) &&& 31) = 8 → (((gR S 125 (gI S 124 13).toNatClampNeg) &&& 31) = 19 → (1 ≤ ((gR S 125 (gI S 124 13).toNatClampNeg) >>> ((5 : Int32) &&& 31)) → (((gR S 125 (gI S 124 13).toNatClampNeg) &&& 31) = 18 → ((gI S 124 16) = (gI S 124 11) → True) ∧ (¬ (gI S 124 16) = (gI S 124 11) → (∀ r571 : Int32, r571 = (f_Mo_grows ((gR S 125 (gI S 124 13).toNatClampNeg) &&& 31)) → (((gI S 124 17) + r571) ≤ 24 → True) ∧ (¬ ((gI S 124 17) + r571) ≤ 24 → True)))) ∧ (¬ ((gR S 125 (gI S 124 13).toNatClampNeg) &&& 31) = 18 → (∀ r574 : Int32, r574 = (f_Mo_grows ((gR S 125 (gI S 124 13).toNatClampNeg) &&& 31)) → (((gI S 124 17) + r574) ≤ 24 → True) ∧ (¬ ((gI S 124 17) + r574) ≤ 24 → True)))) ∧ (¬ 1 ≤ ((gR S 125 (gI S 124 13).toNatClampNeg) >>> ((5 : Int32) &&& 31)) → True)) ∧ (¬ ((gR S 125 (gI S 124 13).toNatClampNeg) &&& 31) = 19 → (((gR S 125 (gI S 124 13).toNatClampNeg) &&& 31) = 18 → ((gI S 124 16) = (gI S 124 11) → True) ∧ (¬ (gI S 124 16) = (gI S 124 11) → (∀ r579 : Int32, r579 = (f_Mo_grows ((gR S 125 (gI S 124 13).toNatClampNeg) &&& 31)) → (((gI S 124 17) + r579) ≤ 24 → True) ∧ (¬ ((gI S 124 17) + r579) ≤ 24 → True)))) ∧ (¬ ((gR S 125 (gI S 124 13).toNatClampNeg) &&& 31) = 18 → (∀ r582 : Int32, r582 = (f_Mo_grows ((gR S 125 (gI S 124 13).toNatClampNeg) &&& 31)) → (((gI S 124 17) + r582) ≤ 24 → True) ∧ (¬ ((gI S 124 17) + r582) ≤ 24 → True)))))))))))) ∧ (¬ ((gR S 125 (gI S 124 13).toNatClampNeg) &&& 31) = 17 → ((gI S 124 17) ≤ 0 → (((gR S 125 (gI S 124 13).toNatClampNeg) &&& 31) = 10 → (((gR S 125 (gI S 124 13).toNatClampNeg) &&& 31) = 8 → True) ∧ (¬ ((gR S 125 (gI S 124 13).toNatClampNeg) &&& 31) = 8 → (((gR S 125 (gI S 124 13).toNatClampNeg) &&& 31) = 19 → (1 ≤ ((gR S 125 (gI S 124 13).toNatClampNeg) >>> ((5 : Int32) &&& 31)) → (((gR S 125 (gI S 124 13).toNatClampNeg) &&& 31) = 18 → ((gI S 124 16) = (gI S 124 11) → True) ∧ (¬ (gI S 124 16) = (gI S 124 11) → (∀ r595 : Int32, r595 = (f_Mo_grows ((gR S 125 (gI S 124 13).toNatClampNeg) &&& 31)) → (((gI S 124 17) + r595) ≤ 24 → True) ∧ (¬ ((gI S 124 17) + r595) ≤ 24 → True)))) ∧ (¬ ((gR S 125 (gI S 124 13).toNatClampNeg) &&& 31) = 18 → (∀ r598 : Int32, r598 = (f_Mo_grows ((gR S 125 (gI S 124 13).toNatClampNeg) &&& 31)) → (((gI S 124 17) + r598) ≤ 24 → True) ∧ (¬ ((gI S 124 17) + r598) ≤ 24 → True)))) ∧ (¬ 1 ≤ ((gR S 125 (gI S 124 13).toNatClampNeg) >>> ((5 : Int32) &&& 31)) → True)) ∧ (¬ ((gR S 125 (gI S 124 13).toNatClampNeg) &&& 31) = 19 → (((gR S 125 (gI S 124 13).toNatClampNeg) &&& 31) = 18 → ((gI S 124 16) = (gI S 124 11) → True) ∧ (¬ (gI S 124 16) = (gI S 124 11) → (∀ r603 : Int32, r603 = (f_Mo_grows ((gR S 125 (gI S 124 13).toNatClampNeg) &&& 31)) → (((gI S 124 17) + r603) ≤ 24 → True) ∧ (¬ ((gI S 124 17) + r603) ≤ 24 → True)))) ∧ (¬ ((gR S 125 (gI S 124 13).toNatClampNeg) &&& 31) = 18 → (∀ r606 : Int32, r606 = (f_Mo_grows ((gR S 125 (gI S 124 13).toNatClampNeg) &&& 31)) → (((gI S 124 17) + r606) ≤ 24 → True) ∧ (¬ ((gI S 124 17) + r606) ≤ 24 → True)))))) ∧ (¬ ((gR S 125 (gI S 124 13).toNatClampNeg) &&& 31) = 10 → (((gR S 125 (gI S 124 13).toNatClampNeg) &&& 31) = 11 → (((gR S 125 (gI S 124 13).toNatClampNeg) &&& 31) = 8 → True) ∧ (¬ ((gR S 125 (gI S 124 13).toNatClampNeg) &&& 31) = 8 → (((gR S 125 (gI S 124 13).toNatClampNeg) &&& 31) = 19 → (1 ≤ ((gR S 125 (gI S 124 13).toNatClampNeg) >>> ((5 : Int32) &&& 31)) → (((gR S 125 (gI S 124 13).toNatClampNeg) &&& 31) = 18 → ((gI S 124 16) = (gI S 124 11) → True) ∧ (¬ (gI S 124 16) = (gI S 124 11) → (∀ r618 : Int32, r618 = (f_Mo_grows ((gR S 125 (gI S 124 13).toNatClampNeg) &&& 31)) → (((gI S 124 17) + r618) ≤ 24 → True) ∧ (¬ ((gI S 124 17) + r618) ≤ 24 → True)))) ∧ (¬ ((gR S 125 (gI S 124 13).toNatClampNeg) &&& 31) = 18 → (∀ r621 : Int32, r621 = (f_Mo_grows ((gR S 125 (gI S 124 13).toNatClampNeg) &&& 31)) → (((gI S 124 17) + r621) ≤ 24 → True) ∧ (¬ ((gI S 124 17) + r621) ≤ 24 → True)))) ∧ (¬ 1 ≤ ((gR S 125 (gI S 124 13).toNatClampNeg) >>> ((5 : Int32) &&& 31)) → True)) ∧ (¬ ((gR S 125 (gI S 124 13).toNatClampNeg) &&& 31) = 19 → (((gR S 125 (gI S 124 13).toNatClampNeg) &&& 31) = 18 → ((gI S 124 16) = (gI S 124 11) → True) ∧ (¬ (gI S 124 16) = (gI S 124 11) → (∀ r626 : Int32, r626 = (f_Mo_grows ((gR S 125 (gI S 124 13).toNatClampNeg) &&& 31)) → (((gI S 124 17) + r626) ≤ 24 → True) ∧ (¬ ((gI S 124 17) + r626) ≤ 24 → True)))) ∧ (¬ ((gR S 125 (gI S 124 13).toNatClampNeg) &&& 31) = 18 → (∀ r629 : Int32, r629 = (f_Mo_grows ((gR S 125 (gI S 124 13).toNatClampNeg) &&& 31)) → (((gI S 124 17) + r629) ≤ 24 → True) ∧ (¬ ((gI S 124 17) + r629) ≤ 24 → True)))))) ∧ (¬ ((gR S 125 (gI S 124 13).toNatClampNeg) &&& 31) = 11 → (((gR S 125 (gI S 124 13).toNatClampNeg) &&& 31) = 8 → True) ∧ (¬ ((gR S 125 (gI S 124 13).toNatClampNeg) &&& 31) = 8 → (((gR S 125 (gI S 124 13).toNatClampNeg) &&& 31) = 19 → (1 ≤ ((gR S 125 (gI S 124 13).toNatClampNeg) >>> ((5 : Int32) &&& 31)) → (((gR S 125 (gI S 124 13).toNatClampNeg) &&& 31) = 18 → ((gI S 124 16) = (gI S 124 11) → True) ∧ (¬ (gI S 124 16) = (gI S 124 11) → (∀ r638 : Int32, r638 = (f_Mo_grows ((gR S 125 (gI S 124 13).toNatClampNeg) &&& 31)) → (((gI S 124 17) + r638) ≤ 24 → True) ∧ (¬ ((gI S 124 17) + r638) ≤ 24 → True)))) ∧ (¬ ((gR S 125 (gI S 124 13).toNatClampNeg) &&& 31) = 18 → (∀ r641 : Int32, r641 = (f_Mo_grows ((gR S 125 (gI S 124 13).toNatClampNeg) &&& 31)) → (((gI S 124 17) + r641) ≤ 24 → True) ∧ (¬ ((gI S 124 17) + r641) ≤ 24 → True)))) ∧ (¬ 1 ≤ ((gR S 125 (gI S 124 13).toNatClampNeg) >>> ((5 : Int32) &&& 31)) → True)) ∧ (¬ ((gR S 125 (gI S 124 13).toNatClampNeg) &&& 31) = 19 → (((gR S 125 (gI S 124 13).toNatClampNeg) &&& 31) = 18 → ((gI S 124 16) = (gI S 124 11) → True) ∧ (¬ (gI S 124 16) = (gI S 124 11) → (∀ r646 : Int32, r646 = (f_Mo_grows ((gR S 125 (gI S 124 13).toNatClampNeg) &&& 31)) → (((gI S 124 17) + r646) ≤ 24 → True) ∧ (¬ ((gI S 124 17) + r646) ≤ 24 → True)))) ∧ (¬ ((gR S 125 (gI S 124 13).toNatClampNeg) &&& 31) = 18 → (∀ r649 : Int32, r649 = (f_Mo_grows ((gR S 125 (gI S 124 13).toNatClampNeg) &&& 31)) → (((gI S 124 17) + r649) ≤ 24 → True) ∧ (¬ ((gI S 124 17) + r649) ≤ 24 → True)))))))) ∧ (¬ (gI S 124 17) ≤ 0 → (vp_in ((gI S 124 17) - 1) 24) ∧ ((((gR S 125 (gI S 124 13).toNatClampNeg) &&& 31) = 10 → ((gR S 130 ((gI S 124 17) - 1).toNatClampNeg) < 0 → True) ∧ (¬ (gR S 130 ((gI S 124 17) - 1).toNatClampNeg) < 0 → ((gR S 130 ((gI S 124 17) - 1).toNatClampNeg) < 32 → (((gR S 125 (gI S 124 13).toNatClampNeg) &&& 31) = 8 → ((gR S 130 ((gI S 124 17) - 1).toNatClampNeg) = 0 → True) ∧ (¬ (gR S 130 ((gI S 124 17) - 1).toNatClampNeg) = 0 → (((gR S 125 (gI S 124 13).toNatClampNeg) &&& 31) = 19 → (1 ≤ ((gR S 125 (gI S 124 13).toNatClampNeg) >>> ((5 : Int32) &&& 31)) → (((gR S 125 (gI S 124 13).toNatClampNeg) &&& 31) = 18 → ((gI S 124 16) = (gI S 124 11) → True) ∧ (¬ (gI S 124 16) = (gI S 124 11) → (∀ r662 : Int32, r662 = (f_Mo_grows ((gR S 125 (gI S 124 13).toNatClampNeg) &&& 31)) → (((gI S 124 17) + r662) ≤ 24 → True) ∧ (¬ ((gI S 124 17) + r662) ≤ 24 → True)))) ∧ (¬ ((gR S 125 (gI S 124 13).toNatClampNeg) &&& 31) = 18 → (∀ r665 : Int32, r665 = (f_Mo_grows ((gR S 125 (gI S 124 13).toNatClampNeg) &&& 31)) → (((gI S 124 17) + r665) ≤ 24 → True) ∧ (¬ ((gI S 124 17) + r665) ≤ 24 → True)))) ∧ (¬ 1 ≤ ((gR S 125 (gI S 124 13).toNatClampNeg) >>> ((5 : Int32) &&& 31)) → True)) ∧ (¬ ((gR S 125 (gI S 124 13).toNatClampNeg) &&& 31) = 19 → (((gR S 125 (gI S 124 13).toNatClampNeg) &&& 31) = 18 → ((gI S 124 16) = (gI S 124 11) → True) ∧ (¬ (gI S 124 16) = (gI S 124 11) → (∀ r670 : Int32, r670 = (f_Mo_grows ((gR S 125 (gI S 124 13).toNatClampNeg) &&& 31)) → (((gI S 124 17) + r670) ≤ 24 → True) ∧ (¬ ((gI S 124 17) + r670) ≤ 24 → True)))) ∧ (¬ ((gR S 125 (gI S 124 13).toNatClampNeg) &&& 31) = 18 → (∀ r673 : Int32, r673 = (f_Mo_grows ((gR S 125 (gI S 124 13).toNatClampNeg) &&& 31)) → (((gI S 124 17) + r673) ≤ 24 → True) ∧ (¬ ((gI S 124 17) + r673) ≤ 24 → True)))))) ∧ (¬ ((gR S 125 (gI S 124 13).toNatClampNeg) &&& 31) = 8 → (((gR S 125 (gI S 124 13).toNatClampNeg) &&& 31) = 19 → (1 ≤ ((gR S 125 (gI S 124 13).toNatClampNeg) >>> ((5 : Int32) &&& 31)) → (((gR S 125 (gI S 124 13).toNatClampNeg) &&& 31) = 18 → ((gI S 124 16) = (gI S 124 11) → True) ∧ (¬ (gI S 124 16) = (gI S 124 11) → (∀ r680 : Int32, r680 = (f_Mo_grows ((gR S 125 (gI S 124 13).toNatClampNeg) &&& 31)) → (((gI S 124 17) + r680) ≤ 24 → True) ∧ (¬ ((gI S 124 17) + r680) ≤ 24 → True)))) ∧ (¬ ((gR S 125 (gI S 124 13).toNatClampNeg) &&& 31) = 18 → (∀ r683 : Int32, r683 = (f_Mo_grows ((gR S 125 (gI S 124 13).toNatClampNeg) &&& 31)) → (((gI S 124 17) + r683) ≤ 24 → True) ∧ (¬ ((gI S 124 17) + r683) ≤ 24 → True)))) ∧ (¬ 1 ≤ ((gR S 125 (gI S 124 13).toNatClampNeg) >>> ((5 : Int32) &&& 31)) → True)) ∧ (¬ ((gR S 125 (gI S 124 13).toNatClampNeg) &&& 31) = 19 → (((gR S 125 (gI S 124 13).toNatClampNeg) &&& 31) = 18 → ((gI S 124 16) = (gI S 124 11) → True) ∧ (¬ (gI S 124 16) = (gI S 124 11) → (∀ r688 : Int32, r688 = (f_Mo_grows ((gR S 125 (gI S 124 13).toNatClampNeg) &&& 31)) → (((gI S 124 17) + r688) ≤ 24 → True) ∧ (¬ ((gI S 124 17) + r688) ≤ 24 → True)))) ∧ (¬ ((gR S 125 (gI S 124 13).toNatClampNeg) &&& 31) = 18 → (∀ r691 : Int32, r691 = (f_Mo_grows ((gR S 125 (gI S 124 13).toNatClampNeg) &&& 31)) → (((gI S 124 17) + r691) ≤ 24 → True) ∧ (¬ ((gI S 124 17) + r691) ≤ 24 → True)))))) ∧ (¬ (gR S 130 ((gI S 124 17) - 1).toNatClampNeg) < 32 → True))) ∧ (¬ ((gR S 125 (gI S 124 13).toNatClampNeg) &&& 31) = 10 → (((gR S 125 (gI S 124 13).toNatClampNeg) &&& 31) = 11 → ((gR S 130 ((gI S 124 17) - 1).toNatClampNeg) < 0 → True) ∧ (¬ (gR S 130 ((gI S 124 17) - 1).toNatClampNeg) < 0 → ((gR S 130 ((gI S 124 17) - 1).toNatClampNeg) < 32 → (((gR S 125 (gI S 124 13).toNatClampNeg) &&& 31) = 8 → ((gR S 130 ((gI S 124 17) - 1).toNatClampNeg) = 0 → True) ∧ (¬ (gR S 130 ((gI S 124 17) - 1).toNatClampNeg) = 0 → (((gR S 125 (gI S 124 13).toNatClampNeg) &&& 31) = 19 → (1 ≤ ((gR S 125 (gI S 124 13).toNatClampNeg) >>> ((5 : Int32) &&& 31)) → (((gR S 125 (gI S 124 13).toNatClampNeg) &&& 31) = 18 → ((gI S 124 16) = (gI S 124 11) → True) ∧ (¬ (gI S 124 16) = (gI S 124 11) → (∀ r703 : Int32, r703 = (f_Mo_grows ((gR S 125 (gI S 124 13).toNatClampNeg) &&& 31)) → (((gI S 124 17) + r703) ≤ 24 → True) ∧ (¬ ((gI S 124 17) + r703) ≤ 24 → True)))) ∧ (¬ ((gR S 125 (gI S 124 13).toNatClampNeg) &&& 31) = 18 → (∀ r706 : Int32, r706 = (f_Mo_grows ((gR S 125 (gI S 124 13).toNatClampNeg) &&& 31)) → (((gI S 124 17) + r706) ≤ 24 → True) ∧ (¬ ((gI S 124 17) + r706) ≤ 24 → True)))) ∧ (¬ 1 ≤ ((gR S 125 (gI S 124 13).toNatClampNeg) >>> ((5 : Int32) &&& 31)) → True)) ∧ (¬ ((gR S 125 (gI S 124 13).toNatClampNeg) &&& 31) = 19 → (((gR S 125 (gI S 124 13).toNatClampNeg) &&& 31) = 18 → ((gI S 124 16) = (gI S 124 11) → True) ∧ (¬ (gI S 124 16) = (gI S 124 11) → (∀ r711 : Int32, r711 = (f_Mo_grows ((gR S 125 (gI S 124 13).toNatClampNeg) &&& 31)) → (((gI S 124 17) + r711) ≤ 24 → True) ∧ (¬ ((gI S 124 17) + r711) ≤ 24 → True)))) ∧ (¬ ((gR S 125 (gI S 124 13).toNatClampNeg) &&& 31) = 18 → (∀ r714 : Int32, r714 = (f_Mo_grows ((gR S 125 (gI S 124 13).toNatClampNeg) &&& 31)) → (((gI S 124 17) + r714) ≤ 24 → True) ∧ (¬ ((gI S 124 17) + r714) ≤ 24 → True)))))) ∧ (¬ ((gR S 125 (gI S 124 13).toNatClampNeg) &&& 31) = 8 → (((gR S 125 (gI S 124 13).toNatClampNeg) &&& 31) = 19 → (1 ≤ ((gR S 125 (gI S 124 13).toNatClampNeg) >>> ((5 : Int32) &&& 31)) → (((gR S 125 (gI S 124 13).toNatClampNeg) &&& 31) = 18 → ((gI S 124 16) = (gI S 124 11) → True) ∧ (¬ (gI S 124 16) = (gI S 124 11) → (∀ r721 : Int32, r721 = (f_Mo_grows ((gR S 125 (gI S 124 13).toNatClampNeg) &&& 31)) → (((gI S 124 17) + r721) ≤ 24 → True) ∧ (¬ ((gI S 124 17) + r721) ≤ 24 → True)))) ∧ (¬ ((gR S 125 (gI S 124 13).toNatClampNeg) &&& 31) = 18 → (∀ r724 : Int32, r724 = (f_Mo_grows ((gR S 125 (gI S 124 13).toNatClampNeg) &&& 31)) → (((gI S 124 17) + r724) ≤ 24 → True) ∧ (¬ ((gI S 124 17) + r724) ≤ 24 → True)))) ∧ (¬ 1 ≤ ((gR S 125 (gI S 124 13).toNatClampNeg) >>> ((5 : Int32) &&& 31)) → True)) ∧ (¬ ((gR S 125 (gI S 124 13).toNatClampNeg) &&& 31) = 19 → (((gR S 125 (gI S 124 13).toNatClampNeg) &&& 31) = 18 → ((gI S 124 16) = (gI S 124 11) → True) ∧ (¬ (gI S 124 16) = (gI S 124 11) → (∀ r729 : Int32, r729 = (f_Mo_grows ((gR S 125 (gI S 124 13).toNatClampNeg) &&& 31)) → (((gI S 124 17) + r729) ≤ 24 → True) ∧ (¬ ((gI S 124 17) + r729) ≤ 24 → True)))) ∧ (¬ ((gR S 125 (gI S 124 13).toNatClampNeg) &&& 31) = 18 → (∀ r732 : Int32, r732 = (f_Mo_grows ((gR S 125 (gI S 124 13).toNatClampNeg) &&& 31)) → (((gI S 124 17) + r732) ≤ 24 → True) ∧ (¬ ((gI S 124 17) + r732) ≤ 24 → True)))))) ∧ (¬ (gR S 130 ((gI S 124 17) - 1).toNatClampNeg) < 32 → True))) ∧ (¬ ((gR S 125 (gI S 124 13).toNatClampNeg) &&& 31) = 11 → (((gR S 125 (gI S 124 13).toNatClampNeg) &&& 31) = 8 → ((gR S 130 ((gI S 124 17) - 1).toNatClampNeg) = 0 → True) ∧ (¬ (gR S 130 ((gI S 124 17) - 1).toNatClampNeg) = 0 → (((gR S 125 (gI S 124 13).toNatClampNeg) &&& 31) = 19 → (1 ≤ ((gR S 125 (gI S 124 13).toNatClampNeg) >>> ((5 : Int32) &&& 31)) → (((gR S 125 (gI S 124 13).toNatClampNeg) &&& 31) = 18 → ((gI S 124 16) = (gI S 124 11) → True) ∧ (¬ (gI S 124 16) = (gI S 124 11) → (∀ r741 : Int32, r741 = (f_Mo_grows ((gR S 125 (gI S 124 13).toNatClampNeg) &&& 31)) → (((gI S 124 17) + r741) ≤ 24 → True) ∧ (¬ ((gI S 124 17) + r741) ≤ 24 → True)))) ∧ (¬ ((gR S 125 (gI S 124 13).toNatClampNeg) &&& 31) = 18 → (∀ r744 : Int32, r744 = (f_Mo_grows ((gR S 125 (gI S 124 13).toNatClampNeg) &&& 31)) → (((gI S 124 17) + r744) ≤ 24 → True) ∧ (¬ ((gI S 124 17) + r744) ≤ 24 → True)))) ∧ (¬ 1 ≤ ((gR S 125 (gI S 124 13).toNatClampNeg) >>> ((5 : Int32) &&& 31)) → True)) ∧ (¬ ((gR S 125 (gI S 124 13).toNatClampNeg) &&& 31) = 19 → (((gR S 125 (gI S 124 13).toNatClampNeg) &&& 31) = 18 → ((gI S 124 16) = (gI S 124 11) → True) ∧ (¬ (gI S 124 16) = (gI S 124 11) → (∀ r749 : Int32, r749 = (f_Mo_grows ((gR S 125 (gI S 124 13).toNatClampNeg) &&& 31)) → (((gI S 124 17) + r749) ≤ 24 → True) ∧ (¬ ((gI S 124 17) + r749) ≤ 24 → True)))) ∧ (¬ ((gR S 125 (gI S 124 13).toNatClampNeg) &&& 31) = 18 → (∀ r752 : Int32, r752 = (f_Mo_grows ((gR S 125 (gI S 124 13).toNatClampNeg) &&& 31)) → (((gI S 124 17) + r752) ≤ 24 → True) ∧ (¬ ((gI S 124 17) + r752) ≤ 24 → True)))))) ∧ (¬ ((gR S 125 (gI S 124 13).toNatClampNeg) &&& 31) = 8 → (((gR S 125 (gI S 124 13).toNatClampNeg) &&& 31) = 19 → (1 ≤ ((gR S 125 (gI S 124 13).toNatClampNeg) >>> ((5 : Int32) &&& 31)) → (((gR S 125 (gI S 124 13).toNatClampNeg) &&& 31) = 18 → ((gI S 124 16) = (gI S 124 11) → True) ∧ (¬ (gI S 124 16) = (gI S 124 11) → (∀ r759 : Int32, r759 = (f_Mo_grows ((gR S 125 (gI S 124 13).toNatClampNeg) &&& 31)) → (((gI S 124 17) + r759) ≤ 24 → True) ∧ (¬ ((gI S 124 17) + r759) ≤ 24 → True)))) ∧ (¬ ((gR S 125 (gI S 124 13).toNatClampNeg) &&& 31) = 18 → (∀ r762 : Int32, r762 = (f_Mo_grows ((gR S 125 (gI S 124 13).toNatClampNeg) &&& 31)) → (((gI S 124 17) + r762) ≤ 24 → True) ∧ (¬ ((gI S 124 17) + r762) ≤ 24 → True)))) ∧ (¬ 1 ≤ ((gR S 125 (gI S 124 13).toNatClampNeg) >>> ((5 : Int32) &&& 31)) → True)) ∧ (¬ ((gR S 125 (gI S 124 13).toNatClampNeg) &&& 31) = 19 → (((gR S 125 (gI S 124 13).toNatClampNeg) &&& 31) = 18 → ((gI S 124 16) = (gI S 124 11) → True) ∧ (¬ (gI S 124 16) = (gI S 124 11) → (∀ r767 : Int32, r767 = (f_Mo_grows ((gR S 125 (gI S 124 13).toNatClampNeg) &&& 31)) → (((gI S 124 17) + r767) ≤ 24 → True) ∧ (¬ ((gI S 124 17) + r767) ≤ 24 → True)))) ∧ (¬ ((gR S 125 (gI S 124 13).toNatClampNeg) &&& 31) = 18 → (∀ r770 : Int32, r770 = (f_Mo_grows ((gR S 125 (gI S 124 13).toNatClampNeg) &&& 31)) → (((gI S 124 17) + r770) ≤ 24 → True) ∧ (¬ ((gI S 124 17) + r770) ≤ 24 → True))))))))))))))) ∧ (¬ ((gR S 125 (gI S 124 13).toNatClampNeg) &&& 31) ≤ 20 → True)))) ∧ (¬ (gI S 124 13) < 64 → True))
abbrev rm_Mo_check : Room := { frames := 1, cells := 0, slots := 0, locals := 22 }
set_option maxHeartbeats 4000000 in
set_option maxRecDepth 100000 in
theorem c_Mo_check (l : Launch) (D : va_G) (aC : Nat → ClassId) (ad : Nat → Nat) (n : Nat) (hn : 135 ≤ n) (c0 : Nat → va_E) (S : xS)   (hp : p_Mo_check S ) : px_M l y_Mo_check (Cond.code y_Mo_check b_Mo_check 4 (some .int) :: WS) rm_Mo_check GG D CLS (TYS aC) [.ref (ad 124)] ad (ye aC ad S c0) n (some (.int (f_Mo_check S))) (ye aC ad S c0) := by
  obtain ⟨F, hF⟩ : ∃ F, F = f_Mo_check S := ⟨_, rfl⟩
  rw [← hF]
  unfold f_Mo_check at hF
  refine px_start GG_k (by decide) (Nat.le_of_ble_eq_true rfl) ?_
  intro p e s m args below meth cd X hr hk
  refine j_L (L' := [(0, .ref (ad 124))]) rfl ?_
  unfold p_Mo_check at hp
  refine j_aload_n X d_Mo_check_0 0 rfl ?_
  refine j_get X fd_Mo_66_Mo 124 (by omega) y_Mo rfl d_Mo_check_1 ?_
  refine j_if_lt X (tgt := 16) d_Mo_check_4 (by decide) (fun h1 => ?_) (fun h1 => ?_)
  · replace hp := hp.1 h1
    replace hF := hF.trans (if_pos h1)
    refine j_iconst X (v := 4) d_Mo_check_16 (by decide) ?_
    exact j_iret X hr hk (by rw [hF]) rfl d_Mo_check_17
  · replace hp := hp.2 h1
    replace hF := hF.trans (if_neg h1)
    refine j_aload_n X d_Mo_check_7 0 rfl ?_
    refine j_get X fd_Mo_66_Mo 124 (by omega) y_Mo rfl d_Mo_check_8 ?_
    refine j_bipush X (v := 64) d_Mo_check_11 (by decide) ?_
    refine j_icmp_lt X (tgt := 18) d_Mo_check_13 (by decide) (fun h2 => ?_) (fun h2 => ?_)
    · replace hp := hp.1 h2
      replace hF := hF.trans (if_pos h2)
      refine j_aload_n X d_Mo_check_18 0 rfl ?_
      refine j_get X fd_Mo_7_Mo 124 (by omega) y_Mo rfl d_Mo_check_19 ?_
      refine j_aload_n X d_Mo_check_22 0 rfl ?_
      refine j_get X fd_Mo_66_Mo 124 (by omega) y_Mo rfl d_Mo_check_23 ?_
      obtain ⟨o3, hp⟩ := hp
      refine j_iald X 125 0 (by omega) y_program rfl o3 d_Mo_check_26 ?_
      refine j_bipush X (v := 31) d_Mo_check_27 (by decide) ?_
      refine j_iand X d_Mo_check_29 ?_
      refine j_istore_n X d_Mo_check_30 [(1, .int ((gR S 125 (gI S 124 13).toNatClampNeg) &&& 31)), (0, .ref (ad 124))] (by decide) rfl ?_
      refine j_aload_n X d_Mo_check_31 1 rfl ?_
      refine j_get X fd_Mo_7_Mo 124 (by omega) y_Mo rfl d_Mo_check_32 ?_
      refine j_aload_n X d_Mo_check_35 1 rfl ?_
      refine j_get X fd_Mo_66_Mo 124 (by omega) y_Mo rfl d_Mo_check_36 ?_
      obtain ⟨o4, hp⟩ := hp
      refine j_iald X 125 0 (by omega) y_program rfl o4 d_Mo_check_39 ?_
      refine j_iconst X (v := 5) d_Mo_check_40 (by decide) ?_
      refine j_ishr X d_Mo_check_41 ?_
      refine j_istore_n X d_Mo_check_42 [(2, .int ((gR S 125 (gI S 124 13).toNatClampNeg) >>> ((5 : Int32) &&& 31))), (1, .int ((gR S 125 (gI S 124 13).toNatClampNeg) &&& 31)), (0, .ref (ad 124))] (by decide) rfl ?_
      refine j_iload_n X d_Mo_check_43 1 rfl ?_
      refine j_bipush X (v := 20) d_Mo_check_44 (by decide) ?_
      refine j_icmp_le X (tgt := 51) d_Mo_check_46 (by decide) (fun h5 => ?_) (fun h5 => ?_)
      · replace hp := hp.1 h5
        replace hF := hF.trans (if_pos h5)
        refine j_iload_n X d_Mo_check_51 1 rfl ?_
        refine j_if_ne X (tgt := 57) d_Mo_check_52 (by decide) (fun h6 => ?_) (fun h6 => ?_)
        · replace hp := hp.2 h6
          replace hF := hF.trans (if_neg h6)
          refine j_aload_n X d_Mo_check_57 2 rfl ?_
          refine j_get X fd_Mo_75_Mo 124 (by omega) y_Mo rfl d_Mo_check_58 ?_
          refine j_iload_n X d_Mo_check_61 1 rfl ?_
          refine j_callP (st := [.int (gI S 124 17)]) X hY_Mo_needs (c_Mo_needs l ((gR S 125 (gI S 124 13).toNatClampNeg) &&& 31) ) mw_664 hT_Mo_needs rfl rfl (Nat.le_of_ble_eq_true rfl) d_Mo_check_62 rfl rfl ⟨by decide, by decide⟩ ⟨Nat.zero_le _, Nat.zero_le _⟩ (j_st (st' := [.int (f_Mo_needs ((gR S 125 (gI S 124 13).toNatClampNeg) &&& 31)), .int (gI S 124 17)]) rfl ?_)
          refine j_topi (fun r7 e8 => ?_)
          replace hp := hp r7 e8
          replace hF := hF.trans (px_let_eq e8)
          refine j_icmp_lt X (tgt := 107) d_Mo_check_65 (by decide) (fun h9 => ?_) (fun h9 => ?_)
          · replace hp := hp.1 h9
            replace hF := hF.trans (if_pos h9)
            refine j_iconst X (v := 2) d_Mo_check_107 (by decide) ?_
            exact j_iret X hr hk (by rw [hF]) rfl d_Mo_check_108
          · replace hp := hp.2 h9
            replace hF := hF.trans (if_neg h9)
            refine j_iload_n X d_Mo_check_68 1 rfl ?_
            refine j_bipush X (v := 16) d_Mo_check_69 (by decide) ?_
            refine j_icmp_ne X (tgt := 93) d_Mo_check_71 (by decide) (fun h10 => ?_) (fun h10 => ?_)
            · replace hp := hp.2 h10
              replace hF := hF.trans (if_neg h10)
              refine j_iload_n X d_Mo_check_93 1 rfl ?_
              refine j_bipush X (v := 17) d_Mo_check_94 (by decide) ?_
              refine j_icmp_ne X (tgt := 109) d_Mo_check_96 (by decide) (fun h393 => ?_) (fun h393 => ?_)
              · replace hp := hp.2 h393
                replace hF := hF.trans (if_neg h393)
                refine j_aload_n X d_Mo_check_109 2 rfl ?_
                refine j_get X fd_Mo_75_Mo 124 (by omega) y_Mo rfl d_Mo_check_110 ?_
                refine j_if_le X (tgt := 130) d_Mo_check_113 (by decide) (fun h585 => ?_) (fun h585 => ?_)
                · replace hp := hp.1 h585
                  replace hF := hF.trans (if_pos h585)
                  refine j_iconst X (v := 0) d_Mo_check_130 (by decide) ?_
                  refine j_istore_n X d_Mo_check_131 [(3, .int 0), (2, .int ((gR S 125 (gI S 124 13).toNatClampNeg) >>> ((5 : Int32) &&& 31))), (1, .int ((gR S 125 (gI S 124 13).toNatClampNeg) &&& 31)), (0, .ref (ad 124))] (by decide) rfl ?_
                  refine j_iload_n X d_Mo_check_132 2 rfl ?_
                  refine j_bipush X (v := 10) d_Mo_check_133 (by decide) ?_
                  refine j_icmp_eq X (tgt := 144) d_Mo_check_135 (by decide) (fun h586 => ?_) (fun h586 => ?_)
                  · replace hp := hp.1 h586
                    replace hF := hF.trans (if_pos h586)
                    refine j_iload_n X d_Mo_check_144 0 rfl ?_
                    refine j_if_lt X (tgt := 154) d_Mo_check_145 (by decide) (fun h => absurd h (by decide)) (fun _ => ?_)
                    refine j_iload_n X d_Mo_check_148 0 rfl ?_
                    refine j_bipush X (v := 32) d_Mo_check_149 (by decide) ?_
                    refine j_icmp_lt X (tgt := 156) d_Mo_check_151 (by decide) (fun _ => ?_) (fun h => absurd (by decide) h)
                    refine j_iload_n X d_Mo_check_156 2 rfl ?_
                    refine j_bipush X (v := 8) d_Mo_check_157 (by decide) ?_
                    refine j_icmp_ne X (tgt := 166) d_Mo_check_159 (by decide) (fun h589 => ?_) (fun h589 => ?_)
                    · replace hp := hp.2 h589
                      replace hF := hF.trans (if_neg h589)
                      refine j_iload_n X d_Mo_check_166 2 rfl ?_
                      refine j_bipush X (v := 19) d_Mo_check_167 (by decide) ?_
                      refine j_icmp_ne X (tgt := 180) d_Mo_check_169 (by decide) (fun h591 => ?_) (fun h591 => ?_)
                      · replace hp := hp.2 h591
                        replace hF := hF.trans (if_neg h591)
                        refine j_iload_n X d_Mo_check_180 2 rfl ?_
                        refine j_bipush X (v := 18) d_Mo_check_181 (by decide) ?_
                        refine j_icmp_ne X (tgt := 200) d_Mo_check_183 (by decide) (fun h601 => ?_) (fun h601 => ?_)
                        · replace hp := hp.2 h601
                          replace hF := hF.trans (if_neg h601)
                          refine j_aload_n X d_Mo_check_200 3 rfl ?_
                          refine j_get X fd_Mo_75_Mo 124 (by omega) y_Mo rfl d_Mo_check_201 ?_
                          refine j_iload_n X d_Mo_check_204 2 rfl ?_
                          refine j_callP (st := [.int (gI S 124 17)]) X hY_Mo_grows (c_Mo_grows l ((gR S 125 (gI S 124 13).toNatClampNeg) &&& 31) ) mw_671 hT_Mo_grows rfl rfl (Nat.le_of_ble_eq_true rfl) d_Mo_check_205 rfl rfl ⟨by decide, by decide⟩ ⟨Nat.zero_le _, Nat.zero_le _⟩ (j_st (st' := [.int (f_Mo_grows ((gR S 125 (gI S 124 13).toNatClampNeg) &&& 31)), .int (gI S 124 17)]) rfl ?_)
                          refine j_topi (fun r606 e607 => ?_)
                          replace hp := hp r606 e607
                          replace hF := hF.trans (px_let_eq e607)
                          refine j_iadd X d_Mo_check_208 ?_
                          refine j_bipush X (v := 24) d_Mo_check_209 (by decide) ?_
                          refine j_icmp_le X (tgt := 218) d_Mo_check_211 (by decide) (fun h608 => ?_) (fun h608 => ?_)
                          · replace hp := hp.1 h608
                            replace hF := hF.trans (if_pos h608)
                            refine j_iconst X (v := 0) d_Mo_check_218 (by decide) ?_
                            exact j_iret X hr hk (by rw [hF]) rfl d_Mo_check_219
                          · replace hp := hp.2 h608
                            replace hF := hF.trans (if_neg h608)
                            refine j_iconst X (v := 3) d_Mo_check_214 (by decide) ?_
                            refine j_goto X (tgt := 219) d_Mo_check_215 (by decide) ?_
                            exact j_iret X hr hk (by rw [hF]) rfl d_Mo_check_219
                        · replace hp := hp.1 h601
                          replace hF := hF.trans (if_pos h601)
                          refine j_aload_n X d_Mo_check_186 3 rfl ?_
                          refine j_get X fd_Mo_72_Mo 124 (by omega) y_Mo rfl d_Mo_check_187 ?_
                          refine j_aload_n X d_Mo_check_190 3 rfl ?_
                          refine j_get X fd_Mo_60_Mo 124 (by omega) y_Mo rfl d_Mo_check_191 ?_
                          refine j_icmp_ne X (tgt := 200) d_Mo_check_194 (by decide) (fun h602 => ?_) (fun h602 => ?_)
                          · replace hp := hp.2 h602
                            replace hF := hF.trans (if_neg h602)
                            refine j_aload_n X d_Mo_check_200 3 rfl ?_
                            refine j_get X fd_Mo_75_Mo 124 (by omega) y_Mo rfl d_Mo_check_201 ?_
                            refine j_iload_n X d_Mo_check_204 2 rfl ?_
                            refine j_callP (st := [.int (gI S 124 17)]) X hY_Mo_grows (c_Mo_grows l ((gR S 125 (gI S 124 13).toNatClampNeg) &&& 31) ) mw_671 hT_Mo_grows rfl rfl (Nat.le_of_ble_eq_true rfl) d_Mo_check_205 rfl rfl ⟨by decide, by decide⟩ ⟨Nat.zero_le _, Nat.zero_le _⟩ (j_st (st' := [.int (f_Mo_grows ((gR S 125 (gI S 124 13).toNatClampNeg) &&& 31)), .int (gI S 124 17)]) rfl ?_)
                            refine j_topi (fun r603 e604 => ?_)
                            replace hp := hp r603 e604
                            replace hF := hF.trans (px_let_eq e604)
                            refine j_iadd X d_Mo_check_208 ?_
                            refine j_bipush X (v := 24) d_Mo_check_209 (by decide) ?_
                            refine j_icmp_le X (tgt := 218) d_Mo_check_211 (by decide) (fun h605 => ?_) (fun h605 => ?_)
                            · replace hp := hp.1 h605
                              replace hF := hF.trans (if_pos h605)
                              refine j_iconst X (v := 0) d_Mo_check_218 (by decide) ?_
                              exact j_iret X hr hk (by rw [hF]) rfl d_Mo_check_219
                            · replace hp := hp.2 h605
                              replace hF := hF.trans (if_neg h605)
                              refine j_iconst X (v := 3) d_Mo_check_214 (by decide) ?_
                              refine j_goto X (tgt := 219) d_Mo_check_215 (by decide) ?_
                              exact j_iret X hr hk (by rw [hF]) rfl d_Mo_check_219
                          · replace hp := hp.1 h602
                            replace hF := hF.trans (if_pos h602)
                            refine j_bipush X (v := 7) d_Mo_check_197 (by decide) ?_
                            exact j_iret X hr hk (by rw [hF]) rfl d_Mo_check_199
                      · replace hp := hp.1 h591
                        replace hF := hF.trans (if_pos h591)
                        refine j_iload_n X d_Mo_check_172 1 rfl ?_
                        refine j_iconst X (v := 1) d_Mo_check_173 (by decide) ?_
                        refine j_icmp_ge X (tgt := 180) d_Mo_check_174 (by decide) (fun h592 => ?_) (fun h592 => ?_)
                        · replace hp := hp.1 h592
                          replace hF := hF.trans (if_pos h592)
                          refine j_iload_n X d_Mo_check_180 2 rfl ?_
                          refine j_bipush X (v := 18) d_Mo_check_181 (by decide) ?_
                          refine j_icmp_ne X (tgt := 200) d_Mo_check_183 (by decide) (fun h593 => ?_) (fun h593 => ?_)
                          · replace hp := hp.2 h593
                            replace hF := hF.trans (if_neg h593)
                            refine j_aload_n X d_Mo_check_200 3 rfl ?_
                            refine j_get X fd_Mo_75_Mo 124 (by omega) y_Mo rfl d_Mo_check_201 ?_
                            refine j_iload_n X d_Mo_check_204 2 rfl ?_
                            refine j_callP (st := [.int (gI S 124 17)]) X hY_Mo_grows (c_Mo_grows l ((gR S 125 (gI S 124 13).toNatClampNeg) &&& 31) ) mw_671 hT_Mo_grows rfl rfl (Nat.le_of_ble_eq_true rfl) d_Mo_check_205 rfl rfl ⟨by decide, by decide⟩ ⟨Nat.zero_le _, Nat.zero_le _⟩ (j_st (st' := [.int (f_Mo_grows ((gR S 125 (gI S 124 13).toNatClampNeg) &&& 31)), .int (gI S 124 17)]) rfl ?_)
                            refine j_topi (fun r598 e599 => ?_)
                            replace hp := hp r598 e599
                            replace hF := hF.trans (px_let_eq e599)
                            refine j_iadd X d_Mo_check_208 ?_
                            refine j_bipush X (v := 24) d_Mo_check_209 (by decide) ?_
                            refine j_icmp_le X (tgt := 218) d_Mo_check_211 (by decide) (fun h600 => ?_) (fun h600 => ?_)
                            · replace hp := hp.1 h600
                              replace hF := hF.trans (if_pos h600)
                              refine j_iconst X (v := 0) d_Mo_check_218 (by decide) ?_
                              exact j_iret X hr hk (by rw [hF]) rfl d_Mo_check_219
                            · replace hp := hp.2 h600
                              replace hF := hF.trans (if_neg h600)
                              refine j_iconst X (v := 3) d_Mo_check_214 (by decide) ?_
                              refine j_goto X (tgt := 219) d_Mo_check_215 (by decide) ?_
                              exact j_iret X hr hk (by rw [hF]) rfl d_Mo_check_219
                          · replace hp := hp.1 h593
                            replace hF := hF.trans (if_pos h593)
                            refine j_aload_n X d_Mo_check_186 3 rfl ?_
                            refine j_get X fd_Mo_72_Mo 124 (by omega) y_Mo rfl d_Mo_check_187 ?_
                            refine j_aload_n X d_Mo_check_190 3 rfl ?_
                            refine j_get X fd_Mo_60_Mo 124 (by omega) y_Mo rfl d_Mo_check_191 ?_
                            refine j_icmp_ne X (tgt := 200) d_Mo_check_194 (by decide) (fun h594 => ?_) (fun h594 => ?_)
                            · replace hp := hp.2 h594
                              replace hF := hF.trans (if_neg h594)
                              refine j_aload_n X d_Mo_check_200 3 rfl ?_
                              refine j_get X fd_Mo_75_Mo 124 (by omega) y_Mo rfl d_Mo_check_201 ?_
                              refine j_iload_n X d_Mo_check_204 2 rfl ?_
                              refine j_callP (st := [.int (gI S 124 17)]) X hY_Mo_grows (c_Mo_grows l ((gR S 125 (gI S 124 13).toNatClampNeg) &&& 31) ) mw_671 hT_Mo_grows rfl rfl (Nat.le_of_ble_eq_true rfl) d_Mo_check_205 rfl rfl ⟨by decide, by decide⟩ ⟨Nat.zero_le _, Nat.zero_le _⟩ (j_st (st' := [.int (f_Mo_grows ((gR S 125 (gI S 124 13).toNatClampNeg) &&& 31)), .int (gI S 124 17)]) rfl ?_)
                              refine j_topi (fun r595 e596 => ?_)
                              replace hp := hp r595 e596
                              replace hF := hF.trans (px_let_eq e596)
                              refine j_iadd X d_Mo_check_208 ?_
                              refine j_bipush X (v := 24) d_Mo_check_209 (by decide) ?_
                              refine j_icmp_le X (tgt := 218) d_Mo_check_211 (by decide) (fun h597 => ?_) (fun h597 => ?_)
                              · replace hp := hp.1 h597
                                replace hF := hF.trans (if_pos h597)
                                refine j_iconst X (v := 0) d_Mo_check_218 (by decide) ?_
                                exact j_iret X hr hk (by rw [hF]) rfl d_Mo_check_219
                              · replace hp := hp.2 h597
                                replace hF := hF.trans (if_neg h597)
                                refine j_iconst X (v := 3) d_Mo_check_214 (by decide) ?_
                                refine j_goto X (tgt := 219) d_Mo_check_215 (by decide) ?_
                                exact j_iret X hr hk (by rw [hF]) rfl d_Mo_check_219
                            · replace hp := hp.1 h594
                              replace hF := hF.trans (if_pos h594)
                              refine j_bipush X (v := 7) d_Mo_check_197 (by decide) ?_
                              exact j_iret X hr hk (by rw [hF]) rfl d_Mo_check_199
                        · replace hp := hp.2 h592
                          replace hF := hF.trans (if_neg h592)
                          refine j_bipush X (v := 6) d_Mo_check_177 (by decide) ?_
                          exact j_iret X hr hk (by rw [hF]) rfl d_Mo_check_179
                    · replace hp := hp.1 h589
                      replace hF := hF.trans (if_pos h589)
                      refine j_iload_n X d_Mo_check_162 0 rfl ?_
                      refine j_if_eq X (tgt := 177) d_Mo_check_163 (by decide) (fun _ => ?_) (fun h => absurd (by decide) h)
                      refine j_bipush X (v := 6) d_Mo_check_177 (by decide) ?_
                      exact j_iret X hr hk (by rw [hF]) rfl d_Mo_check_179
                  · replace hp := hp.2 h586
                    replace hF := hF.trans (if_neg h586)
                    refine j_iload_n X d_Mo_check_138 2 rfl ?_
                    refine j_bipush X (v := 11) d_Mo_check_139 (by decide) ?_
                    refine j_icmp_ne X (tgt := 156) d_Mo_check_141 (by decide) (fun h609 => ?_) (fun h609 => ?_)
                    · replace hp := hp.2 h609
                      replace hF := hF.trans (if_neg h609)
                      refine j_iload_n X d_Mo_check_156 2 rfl ?_
                      refine j_bipush X (v := 8) d_Mo_check_157 (by decide) ?_
                      refine j_icmp_ne X (tgt := 166) d_Mo_check_159 (by decide) (fun h632 => ?_) (fun h632 => ?_)
                      · replace hp := hp.2 h632
                        replace hF := hF.trans (if_neg h632)
                        refine j_iload_n X d_Mo_check_166 2 rfl ?_
                        refine j_bipush X (v := 19) d_Mo_check_167 (by decide) ?_
                        refine j_icmp_ne X (tgt := 180) d_Mo_check_169 (by decide) (fun h634 => ?_) (fun h634 => ?_)
                        · replace hp := hp.2 h634
                          replace hF := hF.trans (if_neg h634)
                          refine j_iload_n X d_Mo_check_180 2 rfl ?_
                          refine j_bipush X (v := 18) d_Mo_check_181 (by decide) ?_
                          refine j_icmp_ne X (tgt := 200) d_Mo_check_183 (by decide) (fun h644 => ?_) (fun h644 => ?_)
                          · replace hp := hp.2 h644
                            replace hF := hF.trans (if_neg h644)
                            refine j_aload_n X d_Mo_check_200 3 rfl ?_
                            refine j_get X fd_Mo_75_Mo 124 (by omega) y_Mo rfl d_Mo_check_201 ?_
                            refine j_iload_n X d_Mo_check_204 2 rfl ?_
                            refine j_callP (st := [.int (gI S 124 17)]) X hY_Mo_grows (c_Mo_grows l ((gR S 125 (gI S 124 13).toNatClampNeg) &&& 31) ) mw_671 hT_Mo_grows rfl rfl (Nat.le_of_ble_eq_true rfl) d_Mo_check_205 rfl rfl ⟨by decide, by decide⟩ ⟨Nat.zero_le _, Nat.zero_le _⟩ (j_st (st' := [.int (f_Mo_grows ((gR S 125 (gI S 124 13).toNatClampNeg) &&& 31)), .int (gI S 124 17)]) rfl ?_)
                            refine j_topi (fun r649 e650 => ?_)
                            replace hp := hp r649 e650
                            replace hF := hF.trans (px_let_eq e650)
                            refine j_iadd X d_Mo_check_208 ?_
                            refine j_bipush X (v := 24) d_Mo_check_209 (by decide) ?_
                            refine j_icmp_le X (tgt := 218) d_Mo_check_211 (by decide) (fun h651 => ?_) (fun h651 => ?_)
                            · replace hp := hp.1 h651
                              replace hF := hF.trans (if_pos h651)
                              refine j_iconst X (v := 0) d_Mo_check_218 (by decide) ?_
                              exact j_iret X hr hk (by rw [hF]) rfl d_Mo_check_219
                            · replace hp := hp.2 h651
                              replace hF := hF.trans (if_neg h651)
                              refine j_iconst X (v := 3) d_Mo_check_214 (by decide) ?_
                              refine j_goto X (tgt := 219) d_Mo_check_215 (by decide) ?_
                              exact j_iret X hr hk (by rw [hF]) rfl d_Mo_check_219
                          · replace hp := hp.1 h644
                            replace hF := hF.trans (if_pos h644)
                            refine j_aload_n X d_Mo_check_186 3 rfl ?_
                            refine j_get X fd_Mo_72_Mo 124 (by omega) y_Mo rfl d_Mo_check_187 ?_
                            refine j_aload_n X d_Mo_check_190 3 rfl ?_
                            refine j_get X fd_Mo_60_Mo 124 (by omega) y_Mo rfl d_Mo_check_191 ?_
                            refine j_icmp_ne X (tgt := 200) d_Mo_check_194 (by decide) (fun h645 => ?_) (fun h645 => ?_)
                            · replace hp := hp.2 h645
                              replace hF := hF.trans (if_neg h645)
                              refine j_aload_n X d_Mo_check_200 3 rfl ?_
                              refine j_get X fd_Mo_75_Mo 124 (by omega) y_Mo rfl d_Mo_check_201 ?_
                              refine j_iload_n X d_Mo_check_204 2 rfl ?_
                              refine j_callP (st := [.int (gI S 124 17)]) X hY_Mo_grows (c_Mo_grows l ((gR S 125 (gI S 124 13).toNatClampNeg) &&& 31) ) mw_671 hT_Mo_grows rfl rfl (Nat.le_of_ble_eq_true rfl) d_Mo_check_205 rfl rfl ⟨by decide, by decide⟩ ⟨Nat.zero_le _, Nat.zero_le _⟩ (j_st (st' := [.int (f_Mo_grows ((gR S 125 (gI S 124 13).toNatClampNeg) &&& 31)), .int (gI S 124 17)]) rfl ?_)
                              refine j_topi (fun r646 e647 => ?_)
                              replace hp := hp r646 e647
                              replace hF := hF.trans (px_let_eq e647)
                              refine j_iadd X d_Mo_check_208 ?_
                              refine j_bipush X (v := 24) d_Mo_check_209 (by decide) ?_
                              refine j_icmp_le X (tgt := 218) d_Mo_check_211 (by decide) (fun h648 => ?_) (fun h648 => ?_)
                              · replace hp := hp.1 h648
                                replace hF := hF.trans (if_pos h648)
                                refine j_iconst X (v := 0) d_Mo_check_218 (by decide) ?_
                                exact j_iret X hr hk (by rw [hF]) rfl d_Mo_check_219
                              · replace hp := hp.2 h648
                                replace hF := hF.trans (if_neg h648)
                                refine j_iconst X (v := 3) d_Mo_check_214 (by decide) ?_
                                refine j_goto X (tgt := 219) d_Mo_check_215 (by decide) ?_
                                exact j_iret X hr hk (by rw [hF]) rfl d_Mo_check_219
                            · replace hp := hp.1 h645
                              replace hF := hF.trans (if_pos h645)
                              refine j_bipush X (v := 7) d_Mo_check_197 (by decide) ?_
                              exact j_iret X hr hk (by rw [hF]) rfl d_Mo_check_199
                        · replace hp := hp.1 h634
                          replace hF := hF.trans (if_pos h634)
                          refine j_iload_n X d_Mo_check_172 1 rfl ?_
                          refine j_iconst X (v := 1) d_Mo_check_173 (by decide) ?_
                          refine j_icmp_ge X (tgt := 180) d_Mo_check_174 (by decide) (fun h635 => ?_) (fun h635 => ?_)
                          · replace hp := hp.1 h635
                            replace hF := hF.trans (if_pos h635)
                            refine j_iload_n X d_Mo_check_180 2 rfl ?_
                            refine j_bipush X (v := 18) d_Mo_check_181 (by decide) ?_
                            refine j_icmp_ne X (tgt := 200) d_Mo_check_183 (by decide) (fun h636 => ?_) (fun h636 => ?_)
                            · replace hp := hp.2 h636
                              replace hF := hF.trans (if_neg h636)
                              refine j_aload_n X d_Mo_check_200 3 rfl ?_
                              refine j_get X fd_Mo_75_Mo 124 (by omega) y_Mo rfl d_Mo_check_201 ?_
                              refine j_iload_n X d_Mo_check_204 2 rfl ?_
                              refine j_callP (st := [.int (gI S 124 17)]) X hY_Mo_grows (c_Mo_grows l ((gR S 125 (gI S 124 13).toNatClampNeg) &&& 31) ) mw_671 hT_Mo_grows rfl rfl (Nat.le_of_ble_eq_true rfl) d_Mo_check_205 rfl rfl ⟨by decide, by decide⟩ ⟨Nat.zero_le _, Nat.zero_le _⟩ (j_st (st' := [.int (f_Mo_grows ((gR S 125 (gI S 124 13).toNatClampNeg) &&& 31)), .int (gI S 124 17)]) rfl ?_)
                              refine j_topi (fun r641 e642 => ?_)
                              replace hp := hp r641 e642
                              replace hF := hF.trans (px_let_eq e642)
                              refine j_iadd X d_Mo_check_208 ?_
                              refine j_bipush X (v := 24) d_Mo_check_209 (by decide) ?_
                              refine j_icmp_le X (tgt := 218) d_Mo_check_211 (by decide) (fun h643 => ?_) (fun h643 => ?_)
                              · replace hp := hp.1 h643
                                replace hF := hF.trans (if_pos h643)
                                refine j_iconst X (v := 0) d_Mo_check_218 (by decide) ?_
                                exact j_iret X hr hk (by rw [hF]) rfl d_Mo_check_219
                              · replace hp := hp.2 h643
                                replace hF := hF.trans (if_neg h643)
                                refine j_iconst X (v := 3) d_Mo_check_214 (by decide) ?_
                                refine j_goto X (tgt := 219) d_Mo_check_215 (by decide) ?_
                                exact j_iret X hr hk (by rw [hF]) rfl d_Mo_check_219
                            · replace hp := hp.1 h636
                              replace hF := hF.trans (if_pos h636)
                              refine j_aload_n X d_Mo_check_186 3 rfl ?_
                              refine j_get X fd_Mo_72_Mo 124 (by omega) y_Mo rfl d_Mo_check_187 ?_
                              refine j_aload_n X d_Mo_check_190 3 rfl ?_
                              refine j_get X fd_Mo_60_Mo 124 (by omega) y_Mo rfl d_Mo_check_191 ?_
                              refine j_icmp_ne X (tgt := 200) d_Mo_check_194 (by decide) (fun h637 => ?_) (fun h637 => ?_)
                              · replace hp := hp.2 h637
                                replace hF := hF.trans (if_neg h637)
                                refine j_aload_n X d_Mo_check_200 3 rfl ?_
                                refine j_get X fd_Mo_75_Mo 124 (by omega) y_Mo rfl d_Mo_check_201 ?_
                                refine j_iload_n X d_Mo_check_204 2 rfl ?_
                                refine j_callP (st := [.int (gI S 124 17)]) X hY_Mo_grows (c_Mo_grows l ((gR S 125 (gI S 124 13).toNatClampNeg) &&& 31) ) mw_671 hT_Mo_grows rfl rfl (Nat.le_of_ble_eq_true rfl) d_Mo_check_205 rfl rfl ⟨by decide, by decide⟩ ⟨Nat.zero_le _, Nat.zero_le _⟩ (j_st (st' := [.int (f_Mo_grows ((gR S 125 (gI S 124 13).toNatClampNeg) &&& 31)), .int (gI S 124 17)]) rfl ?_)
                                refine j_topi (fun r638 e639 => ?_)
                                replace hp := hp r638 e639
                                replace hF := hF.trans (px_let_eq e639)
                                refine j_iadd X d_Mo_check_208 ?_
                                refine j_bipush X (v := 24) d_Mo_check_209 (by decide) ?_
                                refine j_icmp_le X (tgt := 218) d_Mo_check_211 (by decide) (fun h640 => ?_) (fun h640 => ?_)
                                · replace hp := hp.1 h640
                                  replace hF := hF.trans (if_pos h640)
                                  refine j_iconst X (v := 0) d_Mo_check_218 (by decide) ?_
                                  exact j_iret X hr hk (by rw [hF]) rfl d_Mo_check_219
                                · replace hp := hp.2 h640
                                  replace hF := hF.trans (if_neg h640)
                                  refine j_iconst X (v := 3) d_Mo_check_214 (by decide) ?_
                                  refine j_goto X (tgt := 219) d_Mo_check_215 (by decide) ?_
                                  exact j_iret X hr hk (by rw [hF]) rfl d_Mo_check_219
                              · replace hp := hp.1 h637
                                replace hF := hF.trans (if_pos h637)
                                refine j_bipush X (v := 7) d_Mo_check_197 (by decide) ?_
                                exact j_iret X hr hk (by rw [hF]) rfl d_Mo_check_199
                          · replace hp := hp.2 h635
                            replace hF := hF.trans (if_neg h635)
                            refine j_bipush X (v := 6) d_Mo_check_177 (by decide) ?_
                            exact j_iret X hr hk (by rw [hF]) rfl d_Mo_check_179
                      · replace hp := hp.1 h632
                        replace hF := hF.trans (if_pos h632)
                        refine j_iload_n X d_Mo_check_162 0 rfl ?_
                        refine j_if_eq X (tgt := 177) d_Mo_check_163 (by decide) (fun _ => ?_) (fun h => absurd (by decide) h)
                        refine j_bipush X (v := 6) d_Mo_check_177 (by decide) ?_
                        exact j_iret X hr hk (by rw [hF]) rfl d_Mo_check_179
                    · replace hp := hp.1 h609
                      replace hF := hF.trans (if_pos h609)
                      refine j_iload_n X d_Mo_check_144 0 rfl ?_
                      refine j_if_lt X (tgt := 154) d_Mo_check_145 (by decide) (fun h => absurd h (by decide)) (fun _ => ?_)
                      refine j_iload_n X d_Mo_check_148 0 rfl ?_
                      refine j_bipush X (v := 32) d_Mo_check_149 (by decide) ?_
                      refine j_icmp_lt X (tgt := 156) d_Mo_check_151 (by decide) (fun _ => ?_) (fun h => absurd (by decide) h)
                      refine j_iload_n X d_Mo_check_156 2 rfl ?_
                      refine j_bipush X (v := 8) d_Mo_check_157 (by decide) ?_
                      refine j_icmp_ne X (tgt := 166) d_Mo_check_159 (by decide) (fun h612 => ?_) (fun h612 => ?_)
                      · replace hp := hp.2 h612
                        replace hF := hF.trans (if_neg h612)
                        refine j_iload_n X d_Mo_check_166 2 rfl ?_
                        refine j_bipush X (v := 19) d_Mo_check_167 (by decide) ?_
                        refine j_icmp_ne X (tgt := 180) d_Mo_check_169 (by decide) (fun h614 => ?_) (fun h614 => ?_)
                        · replace hp := hp.2 h614
                          replace hF := hF.trans (if_neg h614)
                          refine j_iload_n X d_Mo_check_180 2 rfl ?_
                          refine j_bipush X (v := 18) d_Mo_check_181 (by decide) ?_
                          refine j_icmp_ne X (tgt := 200) d_Mo_check_183 (by decide) (fun h624 => ?_) (fun h624 => ?_)
                          · replace hp := hp.2 h624
                            replace hF := hF.trans (if_neg h624)
                            refine j_aload_n X d_Mo_check_200 3 rfl ?_
                            refine j_get X fd_Mo_75_Mo 124 (by omega) y_Mo rfl d_Mo_check_201 ?_
                            refine j_iload_n X d_Mo_check_204 2 rfl ?_
                            refine j_callP (st := [.int (gI S 124 17)]) X hY_Mo_grows (c_Mo_grows l ((gR S 125 (gI S 124 13).toNatClampNeg) &&& 31) ) mw_671 hT_Mo_grows rfl rfl (Nat.le_of_ble_eq_true rfl) d_Mo_check_205 rfl rfl ⟨by decide, by decide⟩ ⟨Nat.zero_le _, Nat.zero_le _⟩ (j_st (st' := [.int (f_Mo_grows ((gR S 125 (gI S 124 13).toNatClampNeg) &&& 31)), .int (gI S 124 17)]) rfl ?_)
                            refine j_topi (fun r629 e630 => ?_)
                            replace hp := hp r629 e630
                            replace hF := hF.trans (px_let_eq e630)
                            refine j_iadd X d_Mo_check_208 ?_
                            refine j_bipush X (v := 24) d_Mo_check_209 (by decide) ?_
                            refine j_icmp_le X (tgt := 218) d_Mo_check_211 (by decide) (fun h631 => ?_) (fun h631 => ?_)
                            · replace hp := hp.1 h631
                              replace hF := hF.trans (if_pos h631)
                              refine j_iconst X (v := 0) d_Mo_check_218 (by decide) ?_
                              exact j_iret X hr hk (by rw [hF]) rfl d_Mo_check_219
                            · replace hp := hp.2 h631
                              replace hF := hF.trans (if_neg h631)
                              refine j_iconst X (v := 3) d_Mo_check_214 (by decide) ?_
                              refine j_goto X (tgt := 219) d_Mo_check_215 (by decide) ?_
                              exact j_iret X hr hk (by rw [hF]) rfl d_Mo_check_219
                          · replace hp := hp.1 h624
                            replace hF := hF.trans (if_pos h624)
                            refine j_aload_n X d_Mo_check_186 3 rfl ?_
                            refine j_get X fd_Mo_72_Mo 124 (by omega) y_Mo rfl d_Mo_check_187 ?_
                            refine j_aload_n X d_Mo_check_190 3 rfl ?_
                            refine j_get X fd_Mo_60_Mo 124 (by omega) y_Mo rfl d_Mo_check_191 ?_
                            refine j_icmp_ne X (tgt := 200) d_Mo_check_194 (by decide) (fun h625 => ?_) (fun h625 => ?_)
                            · replace hp := hp.2 h625
                              replace hF := hF.trans (if_neg h625)
                              refine j_aload_n X d_Mo_check_200 3 rfl ?_
                              refine j_get X fd_Mo_75_Mo 124 (by omega) y_Mo rfl d_Mo_check_201 ?_
                              refine j_iload_n X d_Mo_check_204 2 rfl ?_
                              refine j_callP (st := [.int (gI S 124 17)]) X hY_Mo_grows (c_Mo_grows l ((gR S 125 (gI S 124 13).toNatClampNeg) &&& 31) ) mw_671 hT_Mo_grows rfl rfl (Nat.le_of_ble_eq_true rfl) d_Mo_check_205 rfl rfl ⟨by decide, by decide⟩ ⟨Nat.zero_le _, Nat.zero_le _⟩ (j_st (st' := [.int (f_Mo_grows ((gR S 125 (gI S 124 13).toNatClampNeg) &&& 31)), .int (gI S 124 17)]) rfl ?_)
                              refine j_topi (fun r626 e627 => ?_)
                              replace hp := hp r626 e627
                              replace hF := hF.trans (px_let_eq e627)
                              refine j_iadd X d_Mo_check_208 ?_
                              refine j_bipush X (v := 24) d_Mo_check_209 (by decide) ?_
                              refine j_icmp_le X (tgt := 218) d_Mo_check_211 (by decide) (fun h628 => ?_) (fun h628 => ?_)
                              · replace hp := hp.1 h628
                                replace hF := hF.trans (if_pos h628)
                                refine j_iconst X (v := 0) d_Mo_check_218 (by decide) ?_
                                exact j_iret X hr hk (by rw [hF]) rfl d_Mo_check_219
                              · replace hp := hp.2 h628
                                replace hF := hF.trans (if_neg h628)
                                refine j_iconst X (v := 3) d_Mo_check_214 (by decide) ?_
                                refine j_goto X (tgt := 219) d_Mo_check_215 (by decide) ?_
                                exact j_iret X hr hk (by rw [hF]) rfl d_Mo_check_219
                            · replace hp := hp.1 h625
                              replace hF := hF.trans (if_pos h625)
                              refine j_bipush X (v := 7) d_Mo_check_197 (by decide) ?_
                              exact j_iret X hr hk (by rw [hF]) rfl d_Mo_check_199
                        · replace hp := hp.1 h614
                          replace hF := hF.trans (if_pos h614)
                          refine j_iload_n X d_Mo_check_172 1 rfl ?_
                          refine j_iconst X (v := 1) d_Mo_check_173 (by decide) ?_
                          refine j_icmp_ge X (tgt := 180) d_Mo_check_174 (by decide) (fun h615 => ?_) (fun h615 => ?_)
                          · replace hp := hp.1 h615
                            replace hF := hF.trans (if_pos h615)
                            refine j_iload_n X d_Mo_check_180 2 rfl ?_
                            refine j_bipush X (v := 18) d_Mo_check_181 (by decide) ?_
                            refine j_icmp_ne X (tgt := 200) d_Mo_check_183 (by decide) (fun h616 => ?_) (fun h616 => ?_)
                            · replace hp := hp.2 h616
                              replace hF := hF.trans (if_neg h616)
                              refine j_aload_n X d_Mo_check_200 3 rfl ?_
                              refine j_get X fd_Mo_75_Mo 124 (by omega) y_Mo rfl d_Mo_check_201 ?_
                              refine j_iload_n X d_Mo_check_204 2 rfl ?_
                              refine j_callP (st := [.int (gI S 124 17)]) X hY_Mo_grows (c_Mo_grows l ((gR S 125 (gI S 124 13).toNatClampNeg) &&& 31) ) mw_671 hT_Mo_grows rfl rfl (Nat.le_of_ble_eq_true rfl) d_Mo_check_205 rfl rfl ⟨by decide, by decide⟩ ⟨Nat.zero_le _, Nat.zero_le _⟩ (j_st (st' := [.int (f_Mo_grows ((gR S 125 (gI S 124 13).toNatClampNeg) &&& 31)), .int (gI S 124 17)]) rfl ?_)
                              refine j_topi (fun r621 e622 => ?_)
                              replace hp := hp r621 e622
                              replace hF := hF.trans (px_let_eq e622)
                              refine j_iadd X d_Mo_check_208 ?_
                              refine j_bipush X (v := 24) d_Mo_check_209 (by decide) ?_
                              refine j_icmp_le X (tgt := 218) d_Mo_check_211 (by decide) (fun h623 => ?_) (fun h623 => ?_)
                              · replace hp := hp.1 h623
                                replace hF := hF.trans (if_pos h623)
                                refine j_iconst X (v := 0) d_Mo_check_218 (by decide) ?_
                                exact j_iret X hr hk (by rw [hF]) rfl d_Mo_check_219
                              · replace hp := hp.2 h623
                                replace hF := hF.trans (if_neg h623)
                                refine j_iconst X (v := 3) d_Mo_check_214 (by decide) ?_
                                refine j_goto X (tgt := 219) d_Mo_check_215 (by decide) ?_
                                exact j_iret X hr hk (by rw [hF]) rfl d_Mo_check_219
                            · replace hp := hp.1 h616
                              replace hF := hF.trans (if_pos h616)
                              refine j_aload_n X d_Mo_check_186 3 rfl ?_
                              refine j_get X fd_Mo_72_Mo 124 (by omega) y_Mo rfl d_Mo_check_187 ?_
                              refine j_aload_n X d_Mo_check_190 3 rfl ?_
                              refine j_get X fd_Mo_60_Mo 124 (by omega) y_Mo rfl d_Mo_check_191 ?_
                              refine j_icmp_ne X (tgt := 200) d_Mo_check_194 (by decide) (fun h617 => ?_) (fun h617 => ?_)
                              · replace hp := hp.2 h617
                                replace hF := hF.trans (if_neg h617)
                                refine j_aload_n X d_Mo_check_200 3 rfl ?_
                                refine j_get X fd_Mo_75_Mo 124 (by omega) y_Mo rfl d_Mo_check_201 ?_
                                refine j_iload_n X d_Mo_check_204 2 rfl ?_
                                refine j_callP (st := [.int (gI S 124 17)]) X hY_Mo_grows (c_Mo_grows l ((gR S 125 (gI S 124 13).toNatClampNeg) &&& 31) ) mw_671 hT_Mo_grows rfl rfl (Nat.le_of_ble_eq_true rfl) d_Mo_check_205 rfl rfl ⟨by decide, by decide⟩ ⟨Nat.zero_le _, Nat.zero_le _⟩ (j_st (st' := [.int (f_Mo_grows ((gR S 125 (gI S 124 13).toNatClampNeg) &&& 31)), .int (gI S 124 17)]) rfl ?_)
                                refine j_topi (fun r618 e619 => ?_)
                                replace hp := hp r618 e619
                                replace hF := hF.trans (px_let_eq e619)
                                refine j_iadd X d_Mo_check_208 ?_
                                refine j_bipush X (v := 24) d_Mo_check_209 (by decide) ?_
                                refine j_icmp_le X (tgt := 218) d_Mo_check_211 (by decide) (fun h620 => ?_) (fun h620 => ?_)
                                · replace hp := hp.1 h620
                                  replace hF := hF.trans (if_pos h620)
                                  refine j_iconst X (v := 0) d_Mo_check_218 (by decide) ?_
                                  exact j_iret X hr hk (by rw [hF]) rfl d_Mo_check_219
                                · replace hp := hp.2 h620
                                  replace hF := hF.trans (if_neg h620)
                                  refine j_iconst X (v := 3) d_Mo_check_214 (by decide) ?_
                                  refine j_goto X (tgt := 219) d_Mo_check_215 (by decide) ?_
                                  exact j_iret X hr hk (by rw [hF]) rfl d_Mo_check_219
                              · replace hp := hp.1 h617
                                replace hF := hF.trans (if_pos h617)
                                refine j_bipush X (v := 7) d_Mo_check_197 (by decide) ?_
                                exact j_iret X hr hk (by rw [hF]) rfl d_Mo_check_199
                          · replace hp := hp.2 h615
                            replace hF := hF.trans (if_neg h615)
                            refine j_bipush X (v := 6) d_Mo_check_177 (by decide) ?_
                            exact j_iret X hr hk (by rw [hF]) rfl d_Mo_check_179
                      · replace hp := hp.1 h612
                        replace hF := hF.trans (if_pos h612)
                        refine j_iload_n X d_Mo_check_162 0 rfl ?_
                        refine j_if_eq X (tgt := 177) d_Mo_check_163 (by decide) (fun _ => ?_) (fun h => absurd (by decide) h)
                        refine j_bipush X (v := 6) d_Mo_check_177 (by decide) ?_
                        exact j_iret X hr hk (by rw [hF]) rfl d_Mo_check_179
                · replace hp := hp.2 h585
                  replace hF := hF.trans (if_neg h585)
                  refine j_aload_n X d_Mo_check_116 2 rfl ?_
                  refine j_get X fd_Mo_26_Mo 124 (by omega) y_Mo rfl d_Mo_check_117 ?_
                  refine j_aload_n X d_Mo_check_120 2 rfl ?_
                  refine j_get X fd_Mo_75_Mo 124 (by omega) y_Mo rfl d_Mo_check_121 ?_
                  refine j_iconst X (v := 1) d_Mo_check_124 (by decide) ?_
                  refine j_isub X d_Mo_check_125 ?_
                  obtain ⟨o652, hp⟩ := hp
                  refine j_iald X 130 0 (by omega) y_stack rfl o652 d_Mo_check_126 ?_
                  refine j_goto X (tgt := 131) d_Mo_check_127 (by decide) ?_
                  refine j_istore_n X d_Mo_check_131 [(3, .int (gR S 130 ((gI S 124 17) - 1).toNatClampNeg)), (2, .int ((gR S 125 (gI S 124 13).toNatClampNeg) >>> ((5 : Int32) &&& 31))), (1, .int ((gR S 125 (gI S 124 13).toNatClampNeg) &&& 31)), (0, .ref (ad 124))] (by decide) rfl ?_
                  refine j_iload_n X d_Mo_check_132 2 rfl ?_
                  refine j_bipush X (v := 10) d_Mo_check_133 (by decide) ?_
                  refine j_icmp_eq X (tgt := 144) d_Mo_check_135 (by decide) (fun h653 => ?_) (fun h653 => ?_)
                  · replace hp := hp.1 h653
                    replace hF := hF.trans (if_pos h653)
                    refine j_iload_n X d_Mo_check_144 0 rfl ?_
                    refine j_if_lt X (tgt := 154) d_Mo_check_145 (by decide) (fun h654 => ?_) (fun h654 => ?_)
                    · replace hp := hp.1 h654
                      replace hF := hF.trans (if_pos h654)
                      refine j_iconst X (v := 4) d_Mo_check_154 (by decide) ?_
                      exact j_iret X hr hk (by rw [hF]) rfl d_Mo_check_155
                    · replace hp := hp.2 h654
                      replace hF := hF.trans (if_neg h654)
                      refine j_iload_n X d_Mo_check_148 0 rfl ?_
                      refine j_bipush X (v := 32) d_Mo_check_149 (by decide) ?_
                      refine j_icmp_lt X (tgt := 156) d_Mo_check_151 (by decide) (fun h655 => ?_) (fun h655 => ?_)
                      · replace hp := hp.1 h655
                        replace hF := hF.trans (if_pos h655)
                        refine j_iload_n X d_Mo_check_156 2 rfl ?_
                        refine j_bipush X (v := 8) d_Mo_check_157 (by decide) ?_
                        refine j_icmp_ne X (tgt := 166) d_Mo_check_159 (by decide) (fun h656 => ?_) (fun h656 => ?_)
                        · replace hp := hp.2 h656
                          replace hF := hF.trans (if_neg h656)
                          refine j_iload_n X d_Mo_check_166 2 rfl ?_
                          refine j_bipush X (v := 19) d_Mo_check_167 (by decide) ?_
                          refine j_icmp_ne X (tgt := 180) d_Mo_check_169 (by decide) (fun h676 => ?_) (fun h676 => ?_)
                          · replace hp := hp.2 h676
                            replace hF := hF.trans (if_neg h676)
                            refine j_iload_n X d_Mo_check_180 2 rfl ?_
                            refine j_bipush X (v := 18) d_Mo_check_181 (by decide) ?_
                            refine j_icmp_ne X (tgt := 200) d_Mo_check_183 (by decide) (fun h686 => ?_) (fun h686 => ?_)
                            · replace hp := hp.2 h686
                              replace hF := hF.trans (if_neg h686)
                              refine j_aload_n X d_Mo_check_200 3 rfl ?_
                              refine j_get X fd_Mo_75_Mo 124 (by omega) y_Mo rfl d_Mo_check_201 ?_
                              refine j_iload_n X d_Mo_check_204 2 rfl ?_
                              refine j_callP (st := [.int (gI S 124 17)]) X hY_Mo_grows (c_Mo_grows l ((gR S 125 (gI S 124 13).toNatClampNeg) &&& 31) ) mw_671 hT_Mo_grows rfl rfl (Nat.le_of_ble_eq_true rfl) d_Mo_check_205 rfl rfl ⟨by decide, by decide⟩ ⟨Nat.zero_le _, Nat.zero_le _⟩ (j_st (st' := [.int (f_Mo_grows ((gR S 125 (gI S 124 13).toNatClampNeg) &&& 31)), .int (gI S 124 17)]) rfl ?_)
                              refine j_topi (fun r691 e692 => ?_)
                              replace hp := hp r691 e692
                              replace hF := hF.trans (px_let_eq e692)
                              refine j_iadd X d_Mo_check_208 ?_
                              refine j_bipush X (v := 24) d_Mo_check_209 (by decide) ?_
                              refine j_icmp_le X (tgt := 218) d_Mo_check_211 (by decide) (fun h693 => ?_) (fun h693 => ?_)
                              · replace hp := hp.1 h693
                                replace hF := hF.trans (if_pos h693)
                                refine j_iconst X (v := 0) d_Mo_check_218 (by decide) ?_
                                exact j_iret X hr hk (by rw [hF]) rfl d_Mo_check_219
                              · replace hp := hp.2 h693
                                replace hF := hF.trans (if_neg h693)
                                refine j_iconst X (v := 3) d_Mo_check_214 (by decide) ?_
                                refine j_goto X (tgt := 219) d_Mo_check_215 (by decide) ?_
                                exact j_iret X hr hk (by rw [hF]) rfl d_Mo_check_219
                            · replace hp := hp.1 h686
                              replace hF := hF.trans (if_pos h686)
                              refine j_aload_n X d_Mo_check_186 3 rfl ?_
                              refine j_get X fd_Mo_72_Mo 124 (by omega) y_Mo rfl d_Mo_check_187 ?_
                              refine j_aload_n X d_Mo_check_190 3 rfl ?_
                              refine j_get X fd_Mo_60_Mo 124 (by omega) y_Mo rfl d_Mo_check_191 ?_
                              refine j_icmp_ne X (tgt := 200) d_Mo_check_194 (by decide) (fun h687 => ?_) (fun h687 => ?_)
                              · replace hp := hp.2 h687
                                replace hF := hF.trans (if_neg h687)
                                refine j_aload_n X d_Mo_check_200 3 rfl ?_
                                refine j_get X fd_Mo_75_Mo 124 (by omega) y_Mo rfl d_Mo_check_201 ?_
                                refine j_iload_n X d_Mo_check_204 2 rfl ?_
                                refine j_callP (st := [.int (gI S 124 17)]) X hY_Mo_grows (c_Mo_grows l ((gR S 125 (gI S 124 13).toNatClampNeg) &&& 31) ) mw_671 hT_Mo_grows rfl rfl (Nat.le_of_ble_eq_true rfl) d_Mo_check_205 rfl rfl ⟨by decide, by decide⟩ ⟨Nat.zero_le _, Nat.zero_le _⟩ (j_st (st' := [.int (f_Mo_grows ((gR S 125 (gI S 124 13).toNatClampNeg) &&& 31)), .int (gI S 124 17)]) rfl ?_)
                                refine j_topi (fun r688 e689 => ?_)
                                replace hp := hp r688 e689
                                replace hF := hF.trans (px_let_eq e689)
                                refine j_iadd X d_Mo_check_208 ?_
                                refine j_bipush X (v := 24) d_Mo_check_209 (by decide) ?_
                                refine j_icmp_le X (tgt := 218) d_Mo_check_211 (by decide) (fun h690 => ?_) (fun h690 => ?_)
                                · replace hp := hp.1 h690
                                  replace hF := hF.trans (if_pos h690)
                                  refine j_iconst X (v := 0) d_Mo_check_218 (by decide) ?_
                                  exact j_iret X hr hk (by rw [hF]) rfl d_Mo_check_219
                                · replace hp := hp.2 h690
                                  replace hF := hF.trans (if_neg h690)
                                  refine j_iconst X (v := 3) d_Mo_check_214 (by decide) ?_
                                  refine j_goto X (tgt := 219) d_Mo_check_215 (by decide) ?_
                                  exact j_iret X hr hk (by rw [hF]) rfl d_Mo_check_219
                              · replace hp := hp.1 h687
                                replace hF := hF.trans (if_pos h687)
                                refine j_bipush X (v := 7) d_Mo_check_197 (by decide) ?_
                                exact j_iret X hr hk (by rw [hF]) rfl d_Mo_check_199
                          · replace hp := hp.1 h676
                            replace hF := hF.trans (if_pos h676)
                            refine j_iload_n X d_Mo_check_172 1 rfl ?_
                            refine j_iconst X (v := 1) d_Mo_check_173 (by decide) ?_
                            refine j_icmp_ge X (tgt := 180) d_Mo_check_174 (by decide) (fun h677 => ?_) (fun h677 => ?_)
                            · replace hp := hp.1 h677
                              replace hF := hF.trans (if_pos h677)
                              refine j_iload_n X d_Mo_check_180 2 rfl ?_
                              refine j_bipush X (v := 18) d_Mo_check_181 (by decide) ?_
                              refine j_icmp_ne X (tgt := 200) d_Mo_check_183 (by decide) (fun h678 => ?_) (fun h678 => ?_)
                              · replace hp := hp.2 h678
                                replace hF := hF.trans (if_neg h678)
                                refine j_aload_n X d_Mo_check_200 3 rfl ?_
                                refine j_get X fd_Mo_75_Mo 124 (by omega) y_Mo rfl d_Mo_check_201 ?_
                                refine j_iload_n X d_Mo_check_204 2 rfl ?_
                                refine j_callP (st := [.int (gI S 124 17)]) X hY_Mo_grows (c_Mo_grows l ((gR S 125 (gI S 124 13).toNatClampNeg) &&& 31) ) mw_671 hT_Mo_grows rfl rfl (Nat.le_of_ble_eq_true rfl) d_Mo_check_205 rfl rfl ⟨by decide, by decide⟩ ⟨Nat.zero_le _, Nat.zero_le _⟩ (j_st (st' := [.int (f_Mo_grows ((gR S 125 (gI S 124 13).toNatClampNeg) &&& 31)), .int (gI S 124 17)]) rfl ?_)
                                refine j_topi (fun r683 e684 => ?_)
                                replace hp := hp r683 e684
                                replace hF := hF.trans (px_let_eq e684)
                                refine j_iadd X d_Mo_check_208 ?_
                                refine j_bipush X (v := 24) d_Mo_check_209 (by decide) ?_
                                refine j_icmp_le X (tgt := 218) d_Mo_check_211 (by decide) (fun h685 => ?_) (fun h685 => ?_)
                                · replace hp := hp.1 h685
                                  replace hF := hF.trans (if_pos h685)
                                  refine j_iconst X (v := 0) d_Mo_check_218 (by decide) ?_
                                  exact j_iret X hr hk (by rw [hF]) rfl d_Mo_check_219
                                · replace hp := hp.2 h685
                                  replace hF := hF.trans (if_neg h685)
                                  refine j_iconst X (v := 3) d_Mo_check_214 (by decide) ?_
                                  refine j_goto X (tgt := 219) d_Mo_check_215 (by decide) ?_
                                  exact j_iret X hr hk (by rw [hF]) rfl d_Mo_check_219
                              · replace hp := hp.1 h678
                                replace hF := hF.trans (if_pos h678)
                                refine j_aload_n X d_Mo_check_186 3 rfl ?_
                                refine j_get X fd_Mo_72_Mo 124 (by omega) y_Mo rfl d_Mo_check_187 ?_
                                refine j_aload_n X d_Mo_check_190 3 rfl ?_
                                refine j_get X fd_Mo_60_Mo 124 (by omega) y_Mo rfl d_Mo_check_191 ?_
                                refine j_icmp_ne X (tgt := 200) d_Mo_check_194 (by decide) (fun h679 => ?_) (fun h679 => ?_)
                                · replace hp := hp.2 h679
                                  replace hF := hF.trans (if_neg h679)
                                  refine j_aload_n X d_Mo_check_200 3 rfl ?_
                                  refine j_get X fd_Mo_75_Mo 124 (by omega) y_Mo rfl d_Mo_check_201 ?_
                                  refine j_iload_n X d_Mo_check_204 2 rfl ?_
                                  refine j_callP (st := [.int (gI S 124 17)]) X hY_Mo_grows (c_Mo_grows l ((gR S 125 (gI S 124 13).toNatClampNeg) &&& 31) ) mw_671 hT_Mo_grows rfl rfl (Nat.le_of_ble_eq_true rfl) d_Mo_check_205 rfl rfl ⟨by decide, by decide⟩ ⟨Nat.zero_le _, Nat.zero_le _⟩ (j_st (st' := [.int (f_Mo_grows ((gR S 125 (gI S 124 13).toNatClampNeg) &&& 31)), .int (gI S 124 17)]) rfl ?_)
                                  refine j_topi (fun r680 e681 => ?_)
                                  replace hp := hp r680 e681
                                  replace hF := hF.trans (px_let_eq e681)
                                  refine j_iadd X d_Mo_check_208 ?_
                                  refine j_bipush X (v := 24) d_Mo_check_209 (by decide) ?_
                                  refine j_icmp_le X (tgt := 218) d_Mo_check_211 (by decide) (fun h682 => ?_) (fun h682 => ?_)
                                  · replace hp := hp.1 h682
                                    replace hF := hF.trans (if_pos h682)
                                    refine j_iconst X (v := 0) d_Mo_check_218 (by decide) ?_
                                    exact j_iret X hr hk (by rw [hF]) rfl d_Mo_check_219
                                  · replace hp := hp.2 h682
                                    replace hF := hF.trans (if_neg h682)
                                    refine j_iconst X (v := 3) d_Mo_check_214 (by decide) ?_
                                    refine j_goto X (tgt := 219) d_Mo_check_215 (by decide) ?_
                                    exact j_iret X hr hk (by rw [hF]) rfl d_Mo_check_219
                                · replace hp := hp.1 h679
                                  replace hF := hF.trans (if_pos h679)
                                  refine j_bipush X (v := 7) d_Mo_check_197 (by decide) ?_
                                  exact j_iret X hr hk (by rw [hF]) rfl d_Mo_check_199
                            · replace hp := hp.2 h677
                              replace hF := hF.trans (if_neg h677)
                              refine j_bipush X (v := 6) d_Mo_check_177 (by decide) ?_
                              exact j_iret X hr hk (by rw [hF]) rfl d_Mo_check_179
                        · replace hp := hp.1 h656
                          replace hF := hF.trans (if_pos h656)
                          refine j_iload_n X d_Mo_check_162 0 rfl ?_
                          refine j_if_eq X (tgt := 177) d_Mo_check_163 (by decide) (fun h657 => ?_) (fun h657 => ?_)
                          · replace hp := hp.1 h657
                            replace hF := hF.trans (if_pos h657)
                            refine j_bipush X (v := 6) d_Mo_check_177 (by decide) ?_
                            exact j_iret X hr hk (by rw [hF]) rfl d_Mo_check_179
                          · replace hp := hp.2 h657
                            replace hF := hF.trans (if_neg h657)
                            refine j_iload_n X d_Mo_check_166 2 rfl ?_
                            refine j_bipush X (v := 19) d_Mo_check_167 (by decide) ?_
                            refine j_icmp_ne X (tgt := 180) d_Mo_check_169 (by decide) (fun h658 => ?_) (fun h658 => ?_)
                            · replace hp := hp.2 h658
                              replace hF := hF.trans (if_neg h658)
                              refine j_iload_n X d_Mo_check_180 2 rfl ?_
                              refine j_bipush X (v := 18) d_Mo_check_181 (by decide) ?_
                              refine j_icmp_ne X (tgt := 200) d_Mo_check_183 (by decide) (fun h668 => ?_) (fun h668 => ?_)
                              · replace hp := hp.2 h668
                                replace hF := hF.trans (if_neg h668)
                                refine j_aload_n X d_Mo_check_200 3 rfl ?_
                                refine j_get X fd_Mo_75_Mo 124 (by omega) y_Mo rfl d_Mo_check_201 ?_
                                refine j_iload_n X d_Mo_check_204 2 rfl ?_
                                refine j_callP (st := [.int (gI S 124 17)]) X hY_Mo_grows (c_Mo_grows l ((gR S 125 (gI S 124 13).toNatClampNeg) &&& 31) ) mw_671 hT_Mo_grows rfl rfl (Nat.le_of_ble_eq_true rfl) d_Mo_check_205 rfl rfl ⟨by decide, by decide⟩ ⟨Nat.zero_le _, Nat.zero_le _⟩ (j_st (st' := [.int (f_Mo_grows ((gR S 125 (gI S 124 13).toNatClampNeg) &&& 31)), .int (gI S 124 17)]) rfl ?_)
                                refine j_topi (fun r673 e674 => ?_)
                                replace hp := hp r673 e674
                                replace hF := hF.trans (px_let_eq e674)
                                refine j_iadd X d_Mo_check_208 ?_
                                refine j_bipush X (v := 24) d_Mo_check_209 (by decide) ?_
                                refine j_icmp_le X (tgt := 218) d_Mo_check_211 (by decide) (fun h675 => ?_) (fun h675 => ?_)
                                · replace hp := hp.1 h675
                                  replace hF := hF.trans (if_pos h675)
                                  refine j_iconst X (v := 0) d_Mo_check_218 (by decide) ?_
                                  exact j_iret X hr hk (by rw [hF]) rfl d_Mo_check_219
                                · replace hp := hp.2 h675
                                  replace hF := hF.trans (if_neg h675)
                                  refine j_iconst X (v := 3) d_Mo_check_214 (by decide) ?_
                                  refine j_goto X (tgt := 219) d_Mo_check_215 (by decide) ?_
                                  exact j_iret X hr hk (by rw [hF]) rfl d_Mo_check_219
                              · replace hp := hp.1 h668
                                replace hF := hF.trans (if_pos h668)
                                refine j_aload_n X d_Mo_check_186 3 rfl ?_
                                refine j_get X fd_Mo_72_Mo 124 (by omega) y_Mo rfl d_Mo_check_187 ?_
                                refine j_aload_n X d_Mo_check_190 3 rfl ?_
                                refine j_get X fd_Mo_60_Mo 124 (by omega) y_Mo rfl d_Mo_check_191 ?_
                                refine j_icmp_ne X (tgt := 200) d_Mo_check_194 (by decide) (fun h669 => ?_) (fun h669 => ?_)
                                · replace hp := hp.2 h669
                                  replace hF := hF.trans (if_neg h669)
                                  refine j_aload_n X d_Mo_check_200 3 rfl ?_
                                  refine j_get X fd_Mo_75_Mo 124 (by omega) y_Mo rfl d_Mo_check_201 ?_
                                  refine j_iload_n X d_Mo_check_204 2 rfl ?_
                                  refine j_callP (st := [.int (gI S 124 17)]) X hY_Mo_grows (c_Mo_grows l ((gR S 125 (gI S 124 13).toNatClampNeg) &&& 31) ) mw_671 hT_Mo_grows rfl rfl (Nat.le_of_ble_eq_true rfl) d_Mo_check_205 rfl rfl ⟨by decide, by decide⟩ ⟨Nat.zero_le _, Nat.zero_le _⟩ (j_st (st' := [.int (f_Mo_grows ((gR S 125 (gI S 124 13).toNatClampNeg) &&& 31)), .int (gI S 124 17)]) rfl ?_)
                                  refine j_topi (fun r670 e671 => ?_)
                                  replace hp := hp r670 e671
                                  replace hF := hF.trans (px_let_eq e671)
                                  refine j_iadd X d_Mo_check_208 ?_
                                  refine j_bipush X (v := 24) d_Mo_check_209 (by decide) ?_
                                  refine j_icmp_le X (tgt := 218) d_Mo_check_211 (by decide) (fun h672 => ?_) (fun h672 => ?_)
                                  · replace hp := hp.1 h672
                                    replace hF := hF.trans (if_pos h672)
                                    refine j_iconst X (v := 0) d_Mo_check_218 (by decide) ?_
                                    exact j_iret X hr hk (by rw [hF]) rfl d_Mo_check_219
                                  · replace hp := hp.2 h672
                                    replace hF := hF.trans (if_neg h672)
                                    refine j_iconst X (v := 3) d_Mo_check_214 (by decide) ?_
                                    refine j_goto X (tgt := 219) d_Mo_check_215 (by decide) ?_
                                    exact j_iret X hr hk (by rw [hF]) rfl d_Mo_check_219
                                · replace hp := hp.1 h669
                                  replace hF := hF.trans (if_pos h669)
                                  refine j_bipush X (v := 7) d_Mo_check_197 (by decide) ?_
                                  exact j_iret X hr hk (by rw [hF]) rfl d_Mo_check_199
                            · replace hp := hp.1 h658
                              replace hF := hF.trans (if_pos h658)
                              refine j_iload_n X d_Mo_check_172 1 rfl ?_
                              refine j_iconst X (v := 1) d_Mo_check_173 (by decide) ?_
                              refine j_icmp_ge X (tgt := 180) d_Mo_check_174 (by decide) (fun h659 => ?_) (fun h659 => ?_)
                              · replace hp := hp.1 h659
                                replace hF := hF.trans (if_pos h659)
                                refine j_iload_n X d_Mo_check_180 2 rfl ?_
                                refine j_bipush X (v := 18) d_Mo_check_181 (by decide) ?_
                                refine j_icmp_ne X (tgt := 200) d_Mo_check_183 (by decide) (fun h660 => ?_) (fun h660 => ?_)
                                · replace hp := hp.2 h660
                                  replace hF := hF.trans (if_neg h660)
                                  refine j_aload_n X d_Mo_check_200 3 rfl ?_
                                  refine j_get X fd_Mo_75_Mo 124 (by omega) y_Mo rfl d_Mo_check_201 ?_
                                  refine j_iload_n X d_Mo_check_204 2 rfl ?_
                                  refine j_callP (st := [.int (gI S 124 17)]) X hY_Mo_grows (c_Mo_grows l ((gR S 125 (gI S 124 13).toNatClampNeg) &&& 31) ) mw_671 hT_Mo_grows rfl rfl (Nat.le_of_ble_eq_true rfl) d_Mo_check_205 rfl rfl ⟨by decide, by decide⟩ ⟨Nat.zero_le _, Nat.zero_le _⟩ (j_st (st' := [.int (f_Mo_grows ((gR S 125 (gI S 124 13).toNatClampNeg) &&& 31)), .int (gI S 124 17)]) rfl ?_)
                                  refine j_topi (fun r665 e666 => ?_)
                                  replace hp := hp r665 e666
                                  replace hF := hF.trans (px_let_eq e666)
                                  refine j_iadd X d_Mo_check_208 ?_
                                  refine j_bipush X (v := 24) d_Mo_check_209 (by decide) ?_
                                  refine j_icmp_le X (tgt := 218) d_Mo_check_211 (by decide) (fun h667 => ?_) (fun h667 => ?_)
                                  · replace hp := hp.1 h667
                                    replace hF := hF.trans (if_pos h667)
                                    refine j_iconst X (v := 0) d_Mo_check_218 (by decide) ?_
                                    exact j_iret X hr hk (by rw [hF]) rfl d_Mo_check_219
                                  · replace hp := hp.2 h667
                                    replace hF := hF.trans (if_neg h667)
                                    refine j_iconst X (v := 3) d_Mo_check_214 (by decide) ?_
                                    refine j_goto X (tgt := 219) d_Mo_check_215 (by decide) ?_
                                    exact j_iret X hr hk (by rw [hF]) rfl d_Mo_check_219
                                · replace hp := hp.1 h660
                                  replace hF := hF.trans (if_pos h660)
                                  refine j_aload_n X d_Mo_check_186 3 rfl ?_
                                  refine j_get X fd_Mo_72_Mo 124 (by omega) y_Mo rfl d_Mo_check_187 ?_
                                  refine j_aload_n X d_Mo_check_190 3 rfl ?_
                                  refine j_get X fd_Mo_60_Mo 124 (by omega) y_Mo rfl d_Mo_check_191 ?_
                                  refine j_icmp_ne X (tgt := 200) d_Mo_check_194 (by decide) (fun h661 => ?_) (fun h661 => ?_)
                                  · replace hp := hp.2 h661
                                    replace hF := hF.trans (if_neg h661)
                                    refine j_aload_n X d_Mo_check_200 3 rfl ?_
                                    refine j_get X fd_Mo_75_Mo 124 (by omega) y_Mo rfl d_Mo_check_201 ?_
                                    refine j_iload_n X d_Mo_check_204 2 rfl ?_
                                    refine j_callP (st := [.int (gI S 124 17)]) X hY_Mo_grows (c_Mo_grows l ((gR S 125 (gI S 124 13).toNatClampNeg) &&& 31) ) mw_671 hT_Mo_grows rfl rfl (Nat.le_of_ble_eq_true rfl) d_Mo_check_205 rfl rfl ⟨by decide, by decide⟩ ⟨Nat.zero_le _, Nat.zero_le _⟩ (j_st (st' := [.int (f_Mo_grows ((gR S 125 (gI S 124 13).toNatClampNeg) &&& 31)), .int (gI S 124 17)]) rfl ?_)
                                    refine j_topi (fun r662 e663 => ?_)
                                    replace hp := hp r662 e663
                                    replace hF := hF.trans (px_let_eq e663)
                                    refine j_iadd X d_Mo_check_208 ?_
                                    refine j_bipush X (v := 24) d_Mo_check_209 (by decide) ?_
                                    refine j_icmp_le X (tgt := 218) d_Mo_check_211 (by decide) (fun h664 => ?_) (fun h664 => ?_)
                                    · replace hp := hp.1 h664
                                      replace hF := hF.trans (if_pos h664)
                                      refine j_iconst X (v := 0) d_Mo_check_218 (by decide) ?_
                                      exact j_iret X hr hk (by rw [hF]) rfl d_Mo_check_219
                                    · replace hp := hp.2 h664
                                      replace hF := hF.trans (if_neg h664)
                                      refine j_iconst X (v := 3) d_Mo_check_214 (by decide) ?_
                                      refine j_goto X (tgt := 219) d_Mo_check_215 (by decide) ?_
                                      exact j_iret X hr hk (by rw [hF]) rfl d_Mo_check_219
                                  · replace hp := hp.1 h661
                                    replace hF := hF.trans (if_pos h661)
                                    refine j_bipush X (v := 7) d_Mo_check_197 (by decide) ?_
                                    exact j_iret X hr hk (by rw [hF]) rfl d_Mo_check_199
                              · replace hp := hp.2 h659
                                replace hF := hF.trans (if_neg h659)
                                refine j_bipush X (v := 6) d_Mo_check_177 (by decide) ?_
                                exact j_iret X hr hk (by rw [hF]) rfl d_Mo_check_179
                      · replace hp := hp.2 h655
                        replace hF := hF.trans (if_neg h655)
                        refine j_iconst X (v := 4) d_Mo_check_154 (by decide) ?_
                        exact j_iret X hr hk (by rw [hF]) rfl d_Mo_check_155
                  · replace hp := hp.2 h653
                    replace hF := hF.trans (if_neg h653)
                    refine j_iload_n X d_Mo_check_138 2 rfl ?_
                    refine j_bipush X (v := 11) d_Mo_check_139 (by decide) ?_
                    refine j_icmp_ne X (tgt := 156) d_Mo_check_141 (by decide) (fun h694 => ?_) (fun h694 => ?_)
                    · replace hp := hp.2 h694
                      replace hF := hF.trans (if_neg h694)
                      refine j_iload_n X d_Mo_check_156 2 rfl ?_
                      refine j_bipush X (v := 8) d_Mo_check_157 (by decide) ?_
                      refine j_icmp_ne X (tgt := 166) d_Mo_check_159 (by decide) (fun h735 => ?_) (fun h735 => ?_)
                      · replace hp := hp.2 h735
                        replace hF := hF.trans (if_neg h735)
                        refine j_iload_n X d_Mo_check_166 2 rfl ?_
                        refine j_bipush X (v := 19) d_Mo_check_167 (by decide) ?_
                        refine j_icmp_ne X (tgt := 180) d_Mo_check_169 (by decide) (fun h755 => ?_) (fun h755 => ?_)
                        · replace hp := hp.2 h755
                          replace hF := hF.trans (if_neg h755)
                          refine j_iload_n X d_Mo_check_180 2 rfl ?_
                          refine j_bipush X (v := 18) d_Mo_check_181 (by decide) ?_
                          refine j_icmp_ne X (tgt := 200) d_Mo_check_183 (by decide) (fun h765 => ?_) (fun h765 => ?_)
                          · replace hp := hp.2 h765
                            replace hF := hF.trans (if_neg h765)
                            refine j_aload_n X d_Mo_check_200 3 rfl ?_
                            refine j_get X fd_Mo_75_Mo 124 (by omega) y_Mo rfl d_Mo_check_201 ?_
                            refine j_iload_n X d_Mo_check_204 2 rfl ?_
                            refine j_callP (st := [.int (gI S 124 17)]) X hY_Mo_grows (c_Mo_grows l ((gR S 125 (gI S 124 13).toNatClampNeg) &&& 31) ) mw_671 hT_Mo_grows rfl rfl (Nat.le_of_ble_eq_true rfl) d_Mo_check_205 rfl rfl ⟨by decide, by decide⟩ ⟨Nat.zero_le _, Nat.zero_le _⟩ (j_st (st' := [.int (f_Mo_grows ((gR S 125 (gI S 124 13).toNatClampNeg) &&& 31)), .int (gI S 124 17)]) rfl ?_)
                            refine j_topi (fun r770 e771 => ?_)
                            replace hp := hp r770 e771
                            replace hF := hF.trans (px_let_eq e771)
                            refine j_iadd X d_Mo_check_208 ?_
                            refine j_bipush X (v := 24) d_Mo_check_209 (by decide) ?_
                            refine j_icmp_le X (tgt := 218) d_Mo_check_211 (by decide) (fun h772 => ?_) (fun h772 => ?_)
                            · replace hp := hp.1 h772
                              replace hF := hF.trans (if_pos h772)
                              refine j_iconst X (v := 0) d_Mo_check_218 (by decide) ?_
                              exact j_iret X hr hk (by rw [hF]) rfl d_Mo_check_219
                            · replace hp := hp.2 h772
                              replace hF := hF.trans (if_neg h772)
                              refine j_iconst X (v := 3) d_Mo_check_214 (by decide) ?_
                              refine j_goto X (tgt := 219) d_Mo_check_215 (by decide) ?_
                              exact j_iret X hr hk (by rw [hF]) rfl d_Mo_check_219
                          · replace hp := hp.1 h765
                            replace hF := hF.trans (if_pos h765)
                            refine j_aload_n X d_Mo_check_186 3 rfl ?_
                            refine j_get X fd_Mo_72_Mo 124 (by omega) y_Mo rfl d_Mo_check_187 ?_
                            refine j_aload_n X d_Mo_check_190 3 rfl ?_
                            refine j_get X fd_Mo_60_Mo 124 (by omega) y_Mo rfl d_Mo_check_191 ?_
                            refine j_icmp_ne X (tgt := 200) d_Mo_check_194 (by decide) (fun h766 => ?_) (fun h766 => ?_)
                            · replace hp := hp.2 h766
                              replace hF := hF.trans (if_neg h766)
                              refine j_aload_n X d_Mo_check_200 3 rfl ?_
                              refine j_get X fd_Mo_75_Mo 124 (by omega) y_Mo rfl d_Mo_check_201 ?_
                              refine j_iload_n X d_Mo_check_204 2 rfl ?_
                              refine j_callP (st := [.int (gI S 124 17)]) X hY_Mo_grows (c_Mo_grows l ((gR S 125 (gI S 124 13).toNatClampNeg) &&& 31) ) mw_671 hT_Mo_grows rfl rfl (Nat.le_of_ble_eq_true rfl) d_Mo_check_205 rfl rfl ⟨by decide, by decide⟩ ⟨Nat.zero_le _, Nat.zero_le _⟩ (j_st (st' := [.int (f_Mo_grows ((gR S 125 (gI S 124 13).toNatClampNeg) &&& 31)), .int (gI S 124 17)]) rfl ?_)
                              refine j_topi (fun r767 e768 => ?_)
                              replace hp := hp r767 e768
                              replace hF := hF.trans (px_let_eq e768)
                              refine j_iadd X d_Mo_check_208 ?_
                              refine j_bipush X (v := 24) d_Mo_check_209 (by decide) ?_
                              refine j_icmp_le X (tgt := 218) d_Mo_check_211 (by decide) (fun h769 => ?_) (fun h769 => ?_)
                              · replace hp := hp.1 h769
                                replace hF := hF.trans (if_pos h769)
                                refine j_iconst X (v := 0) d_Mo_check_218 (by decide) ?_
                                exact j_iret X hr hk (by rw [hF]) rfl d_Mo_check_219
                              · replace hp := hp.2 h769
                                replace hF := hF.trans (if_neg h769)
                                refine j_iconst X (v := 3) d_Mo_check_214 (by decide) ?_
                                refine j_goto X (tgt := 219) d_Mo_check_215 (by decide) ?_
                                exact j_iret X hr hk (by rw [hF]) rfl d_Mo_check_219
                            · replace hp := hp.1 h766
                              replace hF := hF.trans (if_pos h766)
                              refine j_bipush X (v := 7) d_Mo_check_197 (by decide) ?_
                              exact j_iret X hr hk (by rw [hF]) rfl d_Mo_check_199
                        · replace hp := hp.1 h755
                          replace hF := hF.trans (if_pos h755)
                          refine j_iload_n X d_Mo_check_172 1 rfl ?_
                          refine j_iconst X (v := 1) d_Mo_check_173 (by decide) ?_
                          refine j_icmp_ge X (tgt := 180) d_Mo_check_174 (by decide) (fun h756 => ?_) (fun h756 => ?_)
                          · replace hp := hp.1 h756
                            replace hF := hF.trans (if_pos h756)
                            refine j_iload_n X d_Mo_check_180 2 rfl ?_
                            refine j_bipush X (v := 18) d_Mo_check_181 (by decide) ?_
                            refine j_icmp_ne X (tgt := 200) d_Mo_check_183 (by decide) (fun h757 => ?_) (fun h757 => ?_)
                            · replace hp := hp.2 h757
                              replace hF := hF.trans (if_neg h757)
                              refine j_aload_n X d_Mo_check_200 3 rfl ?_
                              refine j_get X fd_Mo_75_Mo 124 (by omega) y_Mo rfl d_Mo_check_201 ?_
                              refine j_iload_n X d_Mo_check_204 2 rfl ?_
                              refine j_callP (st := [.int (gI S 124 17)]) X hY_Mo_grows (c_Mo_grows l ((gR S 125 (gI S 124 13).toNatClampNeg) &&& 31) ) mw_671 hT_Mo_grows rfl rfl (Nat.le_of_ble_eq_true rfl) d_Mo_check_205 rfl rfl ⟨by decide, by decide⟩ ⟨Nat.zero_le _, Nat.zero_le _⟩ (j_st (st' := [.int (f_Mo_grows ((gR S 125 (gI S 124 13).toNatClampNeg) &&& 31)), .int (gI S 124 17)]) rfl ?_)
                              refine j_topi (fun r762 e763 => ?_)
                              replace hp := hp r762 e763
                              replace hF := hF.trans (px_let_eq e763)
                              refine j_iadd X d_Mo_check_208 ?_
                              refine j_bipush X (v := 24) d_Mo_check_209 (by decide) ?_
                              refine j_icmp_le X (tgt := 218) d_Mo_check_211 (by decide) (fun h764 => ?_) (fun h764 => ?_)
                              · replace hp := hp.1 h764
                                replace hF := hF.trans (if_pos h764)
                                refine j_iconst X (v := 0) d_Mo_check_218 (by decide) ?_
                                exact j_iret X hr hk (by rw [hF]) rfl d_Mo_check_219
                              · replace hp := hp.2 h764
                                replace hF := hF.trans (if_neg h764)
                                refine j_iconst X (v := 3) d_Mo_check_214 (by decide) ?_
                                refine j_goto X (tgt := 219) d_Mo_check_215 (by decide) ?_
                                exact j_iret X hr hk (by rw [hF]) rfl d_Mo_check_219
                            · replace hp := hp.1 h757
                              replace hF := hF.trans (if_pos h757)
                              refine j_aload_n X d_Mo_check_186 3 rfl ?_
                              refine j_get X fd_Mo_72_Mo 124 (by omega) y_Mo rfl d_Mo_check_187 ?_
                              refine j_aload_n X d_Mo_check_190 3 rfl ?_
                              refine j_get X fd_Mo_60_Mo 124 (by omega) y_Mo rfl d_Mo_check_191 ?_
                              refine j_icmp_ne X (tgt := 200) d_Mo_check_194 (by decide) (fun h758 => ?_) (fun h758 => ?_)
                              · replace hp := hp.2 h758
                                replace hF := hF.trans (if_neg h758)
                                refine j_aload_n X d_Mo_check_200 3 rfl ?_
                                refine j_get X fd_Mo_75_Mo 124 (by omega) y_Mo rfl d_Mo_check_201 ?_
                                refine j_iload_n X d_Mo_check_204 2 rfl ?_
                                refine j_callP (st := [.int (gI S 124 17)]) X hY_Mo_grows (c_Mo_grows l ((gR S 125 (gI S 124 13).toNatClampNeg) &&& 31) ) mw_671 hT_Mo_grows rfl rfl (Nat.le_of_ble_eq_true rfl) d_Mo_check_205 rfl rfl ⟨by decide, by decide⟩ ⟨Nat.zero_le _, Nat.zero_le _⟩ (j_st (st' := [.int (f_Mo_grows ((gR S 125 (gI S 124 13).toNatClampNeg) &&& 31)), .int (gI S 124 17)]) rfl ?_)
                                refine j_topi (fun r759 e760 => ?_)
                                replace hp := hp r759 e760
                                replace hF := hF.trans (px_let_eq e760)
                                refine j_iadd X d_Mo_check_208 ?_
                                refine j_bipush X (v := 24) d_Mo_check_209 (by decide) ?_
                                refine j_icmp_le X (tgt := 218) d_Mo_check_211 (by decide) (fun h761 => ?_) (fun h761 => ?_)
                                · replace hp := hp.1 h761
                                  replace hF := hF.trans (if_pos h761)
                                  refine j_iconst X (v := 0) d_Mo_check_218 (by decide) ?_
                                  exact j_iret X hr hk (by rw [hF]) rfl d_Mo_check_219
                                · replace hp := hp.2 h761
                                  replace hF := hF.trans (if_neg h761)
                                  refine j_iconst X (v := 3) d_Mo_check_214 (by decide) ?_
                                  refine j_goto X (tgt := 219) d_Mo_check_215 (by decide) ?_
                                  exact j_iret X hr hk (by rw [hF]) rfl d_Mo_check_219
                              · replace hp := hp.1 h758
                                replace hF := hF.trans (if_pos h758)
                                refine j_bipush X (v := 7) d_Mo_check_197 (by decide) ?_
                                exact j_iret X hr hk (by rw [hF]) rfl d_Mo_check_199
                          · replace hp := hp.2 h756
                            replace hF := hF.trans (if_neg h756)
                            refine j_bipush X (v := 6) d_Mo_check_177 (by decide) ?_
                            exact j_iret X hr hk (by rw [hF]) rfl d_Mo_check_179
                      · replace hp := hp.1 h735
                        replace hF := hF.trans (if_pos h735)
                        refine j_iload_n X d_Mo_check_162 0 rfl ?_
                        refine j_if_eq X (tgt := 177) d_Mo_check_163 (by decide) (fun h736 => ?_) (fun h736 => ?_)
                        · replace hp := hp.1 h736
                          replace hF := hF.trans (if_pos h736)
                          refine j_bipush X (v := 6) d_Mo_check_177 (by decide) ?_
                          exact j_iret X hr hk (by rw [hF]) rfl d_Mo_check_179
                        · replace hp := hp.2 h736
                          replace hF := hF.trans (if_neg h736)
                          refine j_iload_n X d_Mo_check_166 2 rfl ?_
                          refine j_bipush X (v := 19) d_Mo_check_167 (by decide) ?_
                          refine j_icmp_ne X (tgt := 180) d_Mo_check_169 (by decide) (fun h737 => ?_) (fun h737 => ?_)
                          · replace hp := hp.2 h737
                            replace hF := hF.trans (if_neg h737)
                            refine j_iload_n X d_Mo_check_180 2 rfl ?_
                            refine j_bipush X (v := 18) d_Mo_check_181 (by decide) ?_
                            refine j_icmp_ne X (tgt := 200) d_Mo_check_183 (by decide) (fun h747 => ?_) (fun h747 => ?_)
                            · replace hp := hp.2 h747
                              replace hF := hF.trans (if_neg h747)
                              refine j_aload_n X d_Mo_check_200 3 rfl ?_
                              refine j_get X fd_Mo_75_Mo 124 (by omega) y_Mo rfl d_Mo_check_201 ?_
                              refine j_iload_n X d_Mo_check_204 2 rfl ?_
                              refine j_callP (st := [.int (gI S 124 17)]) X hY_Mo_grows (c_Mo_grows l ((gR S 125 (gI S 124 13).toNatClampNeg) &&& 31) ) mw_671 hT_Mo_grows rfl rfl (Nat.le_of_ble_eq_true rfl) d_Mo_check_205 rfl rfl ⟨by decide, by decide⟩ ⟨Nat.zero_le _, Nat.zero_le _⟩ (j_st (st' := [.int (f_Mo_grows ((gR S 125 (gI S 124 13).toNatClampNeg) &&& 31)), .int (gI S 124 17)]) rfl ?_)
                              refine j_topi (fun r752 e753 => ?_)
                              replace hp := hp r752 e753
                              replace hF := hF.trans (px_let_eq e753)
                              refine j_iadd X d_Mo_check_208 ?_
                              refine j_bipush X (v := 24) d_Mo_check_209 (by decide) ?_
                              refine j_icmp_le X (tgt := 218) d_Mo_check_211 (by decide) (fun h754 => ?_) (fun h754 => ?_)
                              · replace hp := hp.1 h754
                                replace hF := hF.trans (if_pos h754)
                                refine j_iconst X (v := 0) d_Mo_check_218 (by decide) ?_
                                exact j_iret X hr hk (by rw [hF]) rfl d_Mo_check_219
                              · replace hp := hp.2 h754
                                replace hF := hF.trans (if_neg h754)
                                refine j_iconst X (v := 3) d_Mo_check_214 (by decide) ?_
                                refine j_goto X (tgt := 219) d_Mo_check_215 (by decide) ?_
                                exact j_iret X hr hk (by rw [hF]) rfl d_Mo_check_219
                            · replace hp := hp.1 h747
                              replace hF := hF.trans (if_pos h747)
                              refine j_aload_n X d_Mo_check_186 3 rfl ?_
                              refine j_get X fd_Mo_72_Mo 124 (by omega) y_Mo rfl d_Mo_check_187 ?_
                              refine j_aload_n X d_Mo_check_190 3 rfl ?_
                              refine j_get X fd_Mo_60_Mo 124 (by omega) y_Mo rfl d_Mo_check_191 ?_
                              refine j_icmp_ne X (tgt := 200) d_Mo_check_194 (by decide) (fun h748 => ?_) (fun h748 => ?_)
                              · replace hp := hp.2 h748
                                replace hF := hF.trans (if_neg h748)
                                refine j_aload_n X d_Mo_check_200 3 rfl ?_
                                refine j_get X fd_Mo_75_Mo 124 (by omega) y_Mo rfl d_Mo_check_201 ?_
                                refine j_iload_n X d_Mo_check_204 2 rfl ?_
                                refine j_callP (st := [.int (gI S 124 17)]) X hY_Mo_grows (c_Mo_grows l ((gR S 125 (gI S 124 13).toNatClampNeg) &&& 31) ) mw_671 hT_Mo_grows rfl rfl (Nat.le_of_ble_eq_true rfl) d_Mo_check_205 rfl rfl ⟨by decide, by decide⟩ ⟨Nat.zero_le _, Nat.zero_le _⟩ (j_st (st' := [.int (f_Mo_grows ((gR S 125 (gI S 124 13).toNatClampNeg) &&& 31)), .int (gI S 124 17)]) rfl ?_)
                                refine j_topi (fun r749 e750 => ?_)
                                replace hp := hp r749 e750
                                replace hF := hF.trans (px_let_eq e750)
                                refine j_iadd X d_Mo_check_208 ?_
                                refine j_bipush X (v := 24) d_Mo_check_209 (by decide) ?_
                                refine j_icmp_le X (tgt := 218) d_Mo_check_211 (by decide) (fun h751 => ?_) (fun h751 => ?_)
                                · replace hp := hp.1 h751
                                  replace hF := hF.trans (if_pos h751)
                                  refine j_iconst X (v := 0) d_Mo_check_218 (by decide) ?_
                                  exact j_iret X hr hk (by rw [hF]) rfl d_Mo_check_219
                                · replace hp := hp.2 h751
                                  replace hF := hF.trans (if_neg h751)
                                  refine j_iconst X (v := 3) d_Mo_check_214 (by decide) ?_
                                  refine j_goto X (tgt := 219) d_Mo_check_215 (by decide) ?_
                                  exact j_iret X hr hk (by rw [hF]) rfl d_Mo_check_219
                              · replace hp := hp.1 h748
                                replace hF := hF.trans (if_pos h748)
                                refine j_bipush X (v := 7) d_Mo_check_197 (by decide) ?_
                                exact j_iret X hr hk (by rw [hF]) rfl d_Mo_check_199
                          · replace hp := hp.1 h737
                            replace hF := hF.trans (if_pos h737)
                            refine j_iload_n X d_Mo_check_172 1 rfl ?_
                            refine j_iconst X (v := 1) d_Mo_check_173 (by decide) ?_
                            refine j_icmp_ge X (tgt := 180) d_Mo_check_174 (by decide) (fun h738 => ?_) (fun h738 => ?_)
                            · replace hp := hp.1 h738
                              replace hF := hF.trans (if_pos h738)
                              refine j_iload_n X d_Mo_check_180 2 rfl ?_
                              refine j_bipush X (v := 18) d_Mo_check_181 (by decide) ?_
                              refine j_icmp_ne X (tgt := 200) d_Mo_check_183 (by decide) (fun h739 => ?_) (fun h739 => ?_)
                              · replace hp := hp.2 h739
                                replace hF := hF.trans (if_neg h739)
                                refine j_aload_n X d_Mo_check_200 3 rfl ?_
                                refine j_get X fd_Mo_75_Mo 124 (by omega) y_Mo rfl d_Mo_check_201 ?_
                                refine j_iload_n X d_Mo_check_204 2 rfl ?_
                                refine j_callP (st := [.int (gI S 124 17)]) X hY_Mo_grows (c_Mo_grows l ((gR S 125 (gI S 124 13).toNatClampNeg) &&& 31) ) mw_671 hT_Mo_grows rfl rfl (Nat.le_of_ble_eq_true rfl) d_Mo_check_205 rfl rfl ⟨by decide, by decide⟩ ⟨Nat.zero_le _, Nat.zero_le _⟩ (j_st (st' := [.int (f_Mo_grows ((gR S 125 (gI S 124 13).toNatClampNeg) &&& 31)), .int (gI S 124 17)]) rfl ?_)
                                refine j_topi (fun r744 e745 => ?_)
                                replace hp := hp r744 e745
                                replace hF := hF.trans (px_let_eq e745)
                                refine j_iadd X d_Mo_check_208 ?_
                                refine j_bipush X (v := 24) d_Mo_check_209 (by decide) ?_
                                refine j_icmp_le X (tgt := 218) d_Mo_check_211 (by decide) (fun h746 => ?_) (fun h746 => ?_)
                                · replace hp := hp.1 h746
                                  replace hF := hF.trans (if_pos h746)
                                  refine j_iconst X (v := 0) d_Mo_check_218 (by decide) ?_
                                  exact j_iret X hr hk (by rw [hF]) rfl d_Mo_check_219
                                · replace hp := hp.2 h746
                                  replace hF := hF.trans (if_neg h746)
                                  refine j_iconst X (v := 3) d_Mo_check_214 (by decide) ?_
                                  refine j_goto X (tgt := 219) d_Mo_check_215 (by decide) ?_
                                  exact j_iret X hr hk (by rw [hF]) rfl d_Mo_check_219
                              · replace hp := hp.1 h739
                                replace hF := hF.trans (if_pos h739)
                                refine j_aload_n X d_Mo_check_186 3 rfl ?_
                                refine j_get X fd_Mo_72_Mo 124 (by omega) y_Mo rfl d_Mo_check_187 ?_
                                refine j_aload_n X d_Mo_check_190 3 rfl ?_
                                refine j_get X fd_Mo_60_Mo 124 (by omega) y_Mo rfl d_Mo_check_191 ?_
                                refine j_icmp_ne X (tgt := 200) d_Mo_check_194 (by decide) (fun h740 => ?_) (fun h740 => ?_)
                                · replace hp := hp.2 h740
                                  replace hF := hF.trans (if_neg h740)
                                  refine j_aload_n X d_Mo_check_200 3 rfl ?_
                                  refine j_get X fd_Mo_75_Mo 124 (by omega) y_Mo rfl d_Mo_check_201 ?_
                                  refine j_iload_n X d_Mo_check_204 2 rfl ?_
                                  refine j_callP (st := [.int (gI S 124 17)]) X hY_Mo_grows (c_Mo_grows l ((gR S 125 (gI S 124 13).toNatClampNeg) &&& 31) ) mw_671 hT_Mo_grows rfl rfl (Nat.le_of_ble_eq_true rfl) d_Mo_check_205 rfl rfl ⟨by decide, by decide⟩ ⟨Nat.zero_le _, Nat.zero_le _⟩ (j_st (st' := [.int (f_Mo_grows ((gR S 125 (gI S 124 13).toNatClampNeg) &&& 31)), .int (gI S 124 17)]) rfl ?_)
                                  refine j_topi (fun r741 e742 => ?_)
                                  replace hp := hp r741 e742
                                  replace hF := hF.trans (px_let_eq e742)
                                  refine j_iadd X d_Mo_check_208 ?_
                                  refine j_bipush X (v := 24) d_Mo_check_209 (by decide) ?_
                                  refine j_icmp_le X (tgt := 218) d_Mo_check_211 (by decide) (fun h743 => ?_) (fun h743 => ?_)
                                  · replace hp := hp.1 h743
                                    replace hF := hF.trans (if_pos h743)
                                    refine j_iconst X (v := 0) d_Mo_check_218 (by decide) ?_
                                    exact j_iret X hr hk (by rw [hF]) rfl d_Mo_check_219
                                  · replace hp := hp.2 h743
                                    replace hF := hF.trans (if_neg h743)
                                    refine j_iconst X (v := 3) d_Mo_check_214 (by decide) ?_
                                    refine j_goto X (tgt := 219) d_Mo_check_215 (by decide) ?_
                                    exact j_iret X hr hk (by rw [hF]) rfl d_Mo_check_219
                                · replace hp := hp.1 h740
                                  replace hF := hF.trans (if_pos h740)
                                  refine j_bipush X (v := 7) d_Mo_check_197 (by decide) ?_
                                  exact j_iret X hr hk (by rw [hF]) rfl d_Mo_check_199
                            · replace hp := hp.2 h738
                              replace hF := hF.trans (if_neg h738)
                              refine j_bipush X (v := 6) d_Mo_check_177 (by decide) ?_
                              exact j_iret X hr hk (by rw [hF]) rfl d_Mo_check_179
                    · replace hp := hp.1 h694
                      replace hF := hF.trans (if_pos h694)
                      refine j_iload_n X d_Mo_check_144 0 rfl ?_
                      refine j_if_lt X (tgt := 154) d_Mo_check_145 (by decide) (fun h695 => ?_) (fun h695 => ?_)
                      · replace hp := hp.1 h695
                        replace hF := hF.trans (if_pos h695)
                        refine j_iconst X (v := 4) d_Mo_check_154 (by decide) ?_
                        exact j_iret X hr hk (by rw [hF]) rfl d_Mo_check_155
                      · replace hp := hp.2 h695
                        replace hF := hF.trans (if_neg h695)
                        refine j_iload_n X d_Mo_check_148 0 rfl ?_
                        refine j_bipush X (v := 32) d_Mo_check_149 (by decide) ?_
                        refine j_icmp_lt X (tgt := 156) d_Mo_check_151 (by decide) (fun h696 => ?_) (fun h696 => ?_)
                        · replace hp := hp.1 h696
                          replace hF := hF.trans (if_pos h696)
                          refine j_iload_n X d_Mo_check_156 2 rfl ?_
                          refine j_bipush X (v := 8) d_Mo_check_157 (by decide) ?_
                          refine j_icmp_ne X (tgt := 166) d_Mo_check_159 (by decide) (fun h697 => ?_) (fun h697 => ?_)
                          · replace hp := hp.2 h697
                            replace hF := hF.trans (if_neg h697)
                            refine j_iload_n X d_Mo_check_166 2 rfl ?_
                            refine j_bipush X (v := 19) d_Mo_check_167 (by decide) ?_
                            refine j_icmp_ne X (tgt := 180) d_Mo_check_169 (by decide) (fun h717 => ?_) (fun h717 => ?_)
                            · replace hp := hp.2 h717
                              replace hF := hF.trans (if_neg h717)
                              refine j_iload_n X d_Mo_check_180 2 rfl ?_
                              refine j_bipush X (v := 18) d_Mo_check_181 (by decide) ?_
                              refine j_icmp_ne X (tgt := 200) d_Mo_check_183 (by decide) (fun h727 => ?_) (fun h727 => ?_)
                              · replace hp := hp.2 h727
                                replace hF := hF.trans (if_neg h727)
                                refine j_aload_n X d_Mo_check_200 3 rfl ?_
                                refine j_get X fd_Mo_75_Mo 124 (by omega) y_Mo rfl d_Mo_check_201 ?_
                                refine j_iload_n X d_Mo_check_204 2 rfl ?_
                                refine j_callP (st := [.int (gI S 124 17)]) X hY_Mo_grows (c_Mo_grows l ((gR S 125 (gI S 124 13).toNatClampNeg) &&& 31) ) mw_671 hT_Mo_grows rfl rfl (Nat.le_of_ble_eq_true rfl) d_Mo_check_205 rfl rfl ⟨by decide, by decide⟩ ⟨Nat.zero_le _, Nat.zero_le _⟩ (j_st (st' := [.int (f_Mo_grows ((gR S 125 (gI S 124 13).toNatClampNeg) &&& 31)), .int (gI S 124 17)]) rfl ?_)
                                refine j_topi (fun r732 e733 => ?_)
                                replace hp := hp r732 e733
                                replace hF := hF.trans (px_let_eq e733)
                                refine j_iadd X d_Mo_check_208 ?_
                                refine j_bipush X (v := 24) d_Mo_check_209 (by decide) ?_
                                refine j_icmp_le X (tgt := 218) d_Mo_check_211 (by decide) (fun h734 => ?_) (fun h734 => ?_)
                                · replace hp := hp.1 h734
                                  replace hF := hF.trans (if_pos h734)
                                  refine j_iconst X (v := 0) d_Mo_check_218 (by decide) ?_
                                  exact j_iret X hr hk (by rw [hF]) rfl d_Mo_check_219
                                · replace hp := hp.2 h734
                                  replace hF := hF.trans (if_neg h734)
                                  refine j_iconst X (v := 3) d_Mo_check_214 (by decide) ?_
                                  refine j_goto X (tgt := 219) d_Mo_check_215 (by decide) ?_
                                  exact j_iret X hr hk (by rw [hF]) rfl d_Mo_check_219
                              · replace hp := hp.1 h727
                                replace hF := hF.trans (if_pos h727)
                                refine j_aload_n X d_Mo_check_186 3 rfl ?_
                                refine j_get X fd_Mo_72_Mo 124 (by omega) y_Mo rfl d_Mo_check_187 ?_
                                refine j_aload_n X d_Mo_check_190 3 rfl ?_
                                refine j_get X fd_Mo_60_Mo 124 (by omega) y_Mo rfl d_Mo_check_191 ?_
                                refine j_icmp_ne X (tgt := 200) d_Mo_check_194 (by decide) (fun h728 => ?_) (fun h728 => ?_)
                                · replace hp := hp.2 h728
                                  replace hF := hF.trans (if_neg h728)
                                  refine j_aload_n X d_Mo_check_200 3 rfl ?_
                                  refine j_get X fd_Mo_75_Mo 124 (by omega) y_Mo rfl d_Mo_check_201 ?_
                                  refine j_iload_n X d_Mo_check_204 2 rfl ?_
                                  refine j_callP (st := [.int (gI S 124 17)]) X hY_Mo_grows (c_Mo_grows l ((gR S 125 (gI S 124 13).toNatClampNeg) &&& 31) ) mw_671 hT_Mo_grows rfl rfl (Nat.le_of_ble_eq_true rfl) d_Mo_check_205 rfl rfl ⟨by decide, by decide⟩ ⟨Nat.zero_le _, Nat.zero_le _⟩ (j_st (st' := [.int (f_Mo_grows ((gR S 125 (gI S 124 13).toNatClampNeg) &&& 31)), .int (gI S 124 17)]) rfl ?_)
                                  refine j_topi (fun r729 e730 => ?_)
                                  replace hp := hp r729 e730
                                  replace hF := hF.trans (px_let_eq e730)
                                  refine j_iadd X d_Mo_check_208 ?_
                                  refine j_bipush X (v := 24) d_Mo_check_209 (by decide) ?_
                                  refine j_icmp_le X (tgt := 218) d_Mo_check_211 (by decide) (fun h731 => ?_) (fun h731 => ?_)
                                  · replace hp := hp.1 h731
                                    replace hF := hF.trans (if_pos h731)
                                    refine j_iconst X (v := 0) d_Mo_check_218 (by decide) ?_
                                    exact j_iret X hr hk (by rw [hF]) rfl d_Mo_check_219
                                  · replace hp := hp.2 h731
                                    replace hF := hF.trans (if_neg h731)
                                    refine j_iconst X (v := 3) d_Mo_check_214 (by decide) ?_
                                    refine j_goto X (tgt := 219) d_Mo_check_215 (by decide) ?_
                                    exact j_iret X hr hk (by rw [hF]) rfl d_Mo_check_219
                                · replace hp := hp.1 h728
                                  replace hF := hF.trans (if_pos h728)
                                  refine j_bipush X (v := 7) d_Mo_check_197 (by decide) ?_
                                  exact j_iret X hr hk (by rw [hF]) rfl d_Mo_check_199
                            · replace hp := hp.1 h717
                              replace hF := hF.trans (if_pos h717)
                              refine j_iload_n X d_Mo_check_172 1 rfl ?_
                              refine j_iconst X (v := 1) d_Mo_check_173 (by decide) ?_
                              refine j_icmp_ge X (tgt := 180) d_Mo_check_174 (by decide) (fun h718 => ?_) (fun h718 => ?_)
                              · replace hp := hp.1 h718
                                replace hF := hF.trans (if_pos h718)
                                refine j_iload_n X d_Mo_check_180 2 rfl ?_
                                refine j_bipush X (v := 18) d_Mo_check_181 (by decide) ?_
                                refine j_icmp_ne X (tgt := 200) d_Mo_check_183 (by decide) (fun h719 => ?_) (fun h719 => ?_)
                                · replace hp := hp.2 h719
                                  replace hF := hF.trans (if_neg h719)
                                  refine j_aload_n X d_Mo_check_200 3 rfl ?_
                                  refine j_get X fd_Mo_75_Mo 124 (by omega) y_Mo rfl d_Mo_check_201 ?_
                                  refine j_iload_n X d_Mo_check_204 2 rfl ?_
                                  refine j_callP (st := [.int (gI S 124 17)]) X hY_Mo_grows (c_Mo_grows l ((gR S 125 (gI S 124 13).toNatClampNeg) &&& 31) ) mw_671 hT_Mo_grows rfl rfl (Nat.le_of_ble_eq_true rfl) d_Mo_check_205 rfl rfl ⟨by decide, by decide⟩ ⟨Nat.zero_le _, Nat.zero_le _⟩ (j_st (st' := [.int (f_Mo_grows ((gR S 125 (gI S 124 13).toNatClampNeg) &&& 31)), .int (gI S 124 17)]) rfl ?_)
                                  refine j_topi (fun r724 e725 => ?_)
                                  replace hp := hp r724 e725
                                  replace hF := hF.trans (px_let_eq e725)
                                  refine j_iadd X d_Mo_check_208 ?_
                                  refine j_bipush X (v := 24) d_Mo_check_209 (by decide) ?_
                                  refine j_icmp_le X (tgt := 218) d_Mo_check_211 (by decide) (fun h726 => ?_) (fun h726 => ?_)
                                  · replace hp := hp.1 h726
                                    replace hF := hF.trans (if_pos h726)
                                    refine j_iconst X (v := 0) d_Mo_check_218 (by decide) ?_
                                    exact j_iret X hr hk (by rw [hF]) rfl d_Mo_check_219
                                  · replace hp := hp.2 h726
                                    replace hF := hF.trans (if_neg h726)
                                    refine j_iconst X (v := 3) d_Mo_check_214 (by decide) ?_
                                    refine j_goto X (tgt := 219) d_Mo_check_215 (by decide) ?_
                                    exact j_iret X hr hk (by rw [hF]) rfl d_Mo_check_219
                                · replace hp := hp.1 h719
                                  replace hF := hF.trans (if_pos h719)
                                  refine j_aload_n X d_Mo_check_186 3 rfl ?_
                                  refine j_get X fd_Mo_72_Mo 124 (by omega) y_Mo rfl d_Mo_check_187 ?_
                                  refine j_aload_n X d_Mo_check_190 3 rfl ?_
                                  refine j_get X fd_Mo_60_Mo 124 (by omega) y_Mo rfl d_Mo_check_191 ?_
                                  refine j_icmp_ne X (tgt := 200) d_Mo_check_194 (by decide) (fun h720 => ?_) (fun h720 => ?_)
                                  · replace hp := hp.2 h720
                                    replace hF := hF.trans (if_neg h720)
                                    refine j_aload_n X d_Mo_check_200 3 rfl ?_
                                    refine j_get X fd_Mo_75_Mo 124 (by omega) y_Mo rfl d_Mo_check_201 ?_
                                    refine j_iload_n X d_Mo_check_204 2 rfl ?_
                                    refine j_callP (st := [.int (gI S 124 17)]) X hY_Mo_grows (c_Mo_grows l ((gR S 125 (gI S 124 13).toNatClampNeg) &&& 31) ) mw_671 hT_Mo_grows rfl rfl (Nat.le_of_ble_eq_true rfl) d_Mo_check_205 rfl rfl ⟨by decide, by decide⟩ ⟨Nat.zero_le _, Nat.zero_le _⟩ (j_st (st' := [.int (f_Mo_grows ((gR S 125 (gI S 124 13).toNatClampNeg) &&& 31)), .int (gI S 124 17)]) rfl ?_)
                                    refine j_topi (fun r721 e722 => ?_)
                                    replace hp := hp r721 e722
                                    replace hF := hF.trans (px_let_eq e722)
                                    refine j_iadd X d_Mo_check_208 ?_
                                    refine j_bipush X (v := 24) d_Mo_check_209 (by decide) ?_
                                    refine j_icmp_le X (tgt := 218) d_Mo_check_211 (by decide) (fun h723 => ?_) (fun h723 => ?_)
                                    · replace hp := hp.1 h723
                                      replace hF := hF.trans (if_pos h723)
                                      refine j_iconst X (v := 0) d_Mo_check_218 (by decide) ?_
                                      exact j_iret X hr hk (by rw [hF]) rfl d_Mo_check_219
                                    · replace hp := hp.2 h723
                                      replace hF := hF.trans (if_neg h723)
                                      refine j_iconst X (v := 3) d_Mo_check_214 (by decide) ?_
                                      refine j_goto X (tgt := 219) d_Mo_check_215 (by decide) ?_
                                      exact j_iret X hr hk (by rw [hF]) rfl d_Mo_check_219
                                  · replace hp := hp.1 h720
                                    replace hF := hF.trans (if_pos h720)
                                    refine j_bipush X (v := 7) d_Mo_check_197 (by decide) ?_
                                    exact j_iret X hr hk (by rw [hF]) rfl d_Mo_check_199
                              · replace hp := hp.2 h718
                                replace hF := hF.trans (if_neg h718)
                                refine j_bipush X (v := 6) d_Mo_check_177 (by decide) ?_
                                exact j_iret X hr hk (by rw [hF]) rfl d_Mo_check_179
                          · replace hp := hp.1 h697
                            replace hF := hF.trans (if_pos h697)
                            refine j_iload_n X d_Mo_check_162 0 rfl ?_
                            refine j_if_eq X (tgt := 177) d_Mo_check_163 (by decide) (fun h698 => ?_) (fun h698 => ?_)
                            · replace hp := hp.1 h698
                              replace hF := hF.trans (if_pos h698)
                              refine j_bipush X (v := 6) d_Mo_check_177 (by decide) ?_
                              exact j_iret X hr hk (by rw [hF]) rfl d_Mo_check_179
                            · replace hp := hp.2 h698
                              replace hF := hF.trans (if_neg h698)
                              refine j_iload_n X d_Mo_check_166 2 rfl ?_
                              refine j_bipush X (v := 19) d_Mo_check_167 (by decide) ?_
                              refine j_icmp_ne X (tgt := 180) d_Mo_check_169 (by decide) (fun h699 => ?_) (fun h699 => ?_)
                              · replace hp := hp.2 h699
                                replace hF := hF.trans (if_neg h699)
                                refine j_iload_n X d_Mo_check_180 2 rfl ?_
                                refine j_bipush X (v := 18) d_Mo_check_181 (by decide) ?_
                                refine j_icmp_ne X (tgt := 200) d_Mo_check_183 (by decide) (fun h709 => ?_) (fun h709 => ?_)
                                · replace hp := hp.2 h709
                                  replace hF := hF.trans (if_neg h709)
                                  refine j_aload_n X d_Mo_check_200 3 rfl ?_
                                  refine j_get X fd_Mo_75_Mo 124 (by omega) y_Mo rfl d_Mo_check_201 ?_
                                  refine j_iload_n X d_Mo_check_204 2 rfl ?_
                                  refine j_callP (st := [.int (gI S 124 17)]) X hY_Mo_grows (c_Mo_grows l ((gR S 125 (gI S 124 13).toNatClampNeg) &&& 31) ) mw_671 hT_Mo_grows rfl rfl (Nat.le_of_ble_eq_true rfl) d_Mo_check_205 rfl rfl ⟨by decide, by decide⟩ ⟨Nat.zero_le _, Nat.zero_le _⟩ (j_st (st' := [.int (f_Mo_grows ((gR S 125 (gI S 124 13).toNatClampNeg) &&& 31)), .int (gI S 124 17)]) rfl ?_)
                                  refine j_topi (fun r714 e715 => ?_)
                                  replace hp := hp r714 e715
                                  replace hF := hF.trans (px_let_eq e715)
                                  refine j_iadd X d_Mo_check_208 ?_
                                  refine j_bipush X (v := 24) d_Mo_check_209 (by decide) ?_
                                  refine j_icmp_le X (tgt := 218) d_Mo_check_211 (by decide) (fun h716 => ?_) (fun h716 => ?_)
                                  · replace hp := hp.1 h716
                                    replace hF := hF.trans (if_pos h716)
                                    refine j_iconst X (v := 0) d_Mo_check_218 (by decide) ?_
                                    exact j_iret X hr hk (by rw [hF]) rfl d_Mo_check_219
                                  · replace hp := hp.2 h716
                                    replace hF := hF.trans (if_neg h716)
                                    refine j_iconst X (v := 3) d_Mo_check_214 (by decide) ?_
                                    refine j_goto X (tgt := 219) d_Mo_check_215 (by decide) ?_
                                    exact j_iret X hr hk (by rw [hF]) rfl d_Mo_check_219
                                · replace hp := hp.1 h709
                                  replace hF := hF.trans (if_pos h709)
                                  refine j_aload_n X d_Mo_check_186 3 rfl ?_
                                  refine j_get X fd_Mo_72_Mo 124 (by omega) y_Mo rfl d_Mo_check_187 ?_
                                  refine j_aload_n X d_Mo_check_190 3 rfl ?_
                                  refine j_get X fd_Mo_60_Mo 124 (by omega) y_Mo rfl d_Mo_check_191 ?_
                                  refine j_icmp_ne X (tgt := 200) d_Mo_check_194 (by decide) (fun h710 => ?_) (fun h710 => ?_)
                                  · replace hp := hp.2 h710
                                    replace hF := hF.trans (if_neg h710)
                                    refine j_aload_n X d_Mo_check_200 3 rfl ?_
                                    refine j_get X fd_Mo_75_Mo 124 (by omega) y_Mo rfl d_Mo_check_201 ?_
                                    refine j_iload_n X d_Mo_check_204 2 rfl ?_
                                    refine j_callP (st := [.int (gI S 124 17)]) X hY_Mo_grows (c_Mo_grows l ((gR S 125 (gI S 124 13).toNatClampNeg) &&& 31) ) mw_671 hT_Mo_grows rfl rfl (Nat.le_of_ble_eq_true rfl) d_Mo_check_205 rfl rfl ⟨by decide, by decide⟩ ⟨Nat.zero_le _, Nat.zero_le _⟩ (j_st (st' := [.int (f_Mo_grows ((gR S 125 (gI S 124 13).toNatClampNeg) &&& 31)), .int (gI S 124 17)]) rfl ?_)
                                    refine j_topi (fun r711 e712 => ?_)
                                    replace hp := hp r711 e712
                                    replace hF := hF.trans (px_let_eq e712)
                                    refine j_iadd X d_Mo_check_208 ?_
                                    refine j_bipush X (v := 24) d_Mo_check_209 (by decide) ?_
                                    refine j_icmp_le X (tgt := 218) d_Mo_check_211 (by decide) (fun h713 => ?_) (fun h713 => ?_)
                                    · replace hp := hp.1 h713
                                      replace hF := hF.trans (if_pos h713)
                                      refine j_iconst X (v := 0) d_Mo_check_218 (by decide) ?_
                                      exact j_iret X hr hk (by rw [hF]) rfl d_Mo_check_219
                                    · replace hp := hp.2 h713
                                      replace hF := hF.trans (if_neg h713)
                                      refine j_iconst X (v := 3) d_Mo_check_214 (by decide) ?_
                                      refine j_goto X (tgt := 219) d_Mo_check_215 (by decide) ?_
                                      exact j_iret X hr hk (by rw [hF]) rfl d_Mo_check_219
                                  · replace hp := hp.1 h710
                                    replace hF := hF.trans (if_pos h710)
                                    refine j_bipush X (v := 7) d_Mo_check_197 (by decide) ?_
                                    exact j_iret X hr hk (by rw [hF]) rfl d_Mo_check_199
                              · replace hp := hp.1 h699
                                replace hF := hF.trans (if_pos h699)
                                refine j_iload_n X d_Mo_check_172 1 rfl ?_
                                refine j_iconst X (v := 1) d_Mo_check_173 (by decide) ?_
                                refine j_icmp_ge X (tgt := 180) d_Mo_check_174 (by decide) (fun h700 => ?_) (fun h700 => ?_)
                                · replace hp := hp.1 h700
                                  replace hF := hF.trans (if_pos h700)
                                  refine j_iload_n X d_Mo_check_180 2 rfl ?_
                                  refine j_bipush X (v := 18) d_Mo_check_181 (by decide) ?_
                                  refine j_icmp_ne X (tgt := 200) d_Mo_check_183 (by decide) (fun h701 => ?_) (fun h701 => ?_)
                                  · replace hp := hp.2 h701
                                    replace hF := hF.trans (if_neg h701)
                                    refine j_aload_n X d_Mo_check_200 3 rfl ?_
                                    refine j_get X fd_Mo_75_Mo 124 (by omega) y_Mo rfl d_Mo_check_201 ?_
                                    refine j_iload_n X d_Mo_check_204 2 rfl ?_
                                    refine j_callP (st := [.int (gI S 124 17)]) X hY_Mo_grows (c_Mo_grows l ((gR S 125 (gI S 124 13).toNatClampNeg) &&& 31) ) mw_671 hT_Mo_grows rfl rfl (Nat.le_of_ble_eq_true rfl) d_Mo_check_205 rfl rfl ⟨by decide, by decide⟩ ⟨Nat.zero_le _, Nat.zero_le _⟩ (j_st (st' := [.int (f_Mo_grows ((gR S 125 (gI S 124 13).toNatClampNeg) &&& 31)), .int (gI S 124 17)]) rfl ?_)
                                    refine j_topi (fun r706 e707 => ?_)
                                    replace hp := hp r706 e707
                                    replace hF := hF.trans (px_let_eq e707)
                                    refine j_iadd X d_Mo_check_208 ?_
                                    refine j_bipush X (v := 24) d_Mo_check_209 (by decide) ?_
                                    refine j_icmp_le X (tgt := 218) d_Mo_check_211 (by decide) (fun h708 => ?_) (fun h708 => ?_)
                                    · replace hp := hp.1 h708
                                      replace hF := hF.trans (if_pos h708)
                                      refine j_iconst X (v := 0) d_Mo_check_218 (by decide) ?_
                                      exact j_iret X hr hk (by rw [hF]) rfl d_Mo_check_219
                                    · replace hp := hp.2 h708
                                      replace hF := hF.trans (if_neg h708)
                                      refine j_iconst X (v := 3) d_Mo_check_214 (by decide) ?_
                                      refine j_goto X (tgt := 219) d_Mo_check_215 (by decide) ?_
                                      exact j_iret X hr hk (by rw [hF]) rfl d_Mo_check_219
                                  · replace hp := hp.1 h701
                                    replace hF := hF.trans (if_pos h701)
                                    refine j_aload_n X d_Mo_check_186 3 rfl ?_
                                    refine j_get X fd_Mo_72_Mo 124 (by omega) y_Mo rfl d_Mo_check_187 ?_
                                    refine j_aload_n X d_Mo_check_190 3 rfl ?_
                                    refine j_get X fd_Mo_60_Mo 124 (by omega) y_Mo rfl d_Mo_check_191 ?_
                                    refine j_icmp_ne X (tgt := 200) d_Mo_check_194 (by decide) (fun h702 => ?_) (fun h702 => ?_)
                                    · replace hp := hp.2 h702
                                      replace hF := hF.trans (if_neg h702)
                                      refine j_aload_n X d_Mo_check_200 3 rfl ?_
                                      refine j_get X fd_Mo_75_Mo 124 (by omega) y_Mo rfl d_Mo_check_201 ?_
                                      refine j_iload_n X d_Mo_check_204 2 rfl ?_
                                      refine j_callP (st := [.int (gI S 124 17)]) X hY_Mo_grows (c_Mo_grows l ((gR S 125 (gI S 124 13).toNatClampNeg) &&& 31) ) mw_671 hT_Mo_grows rfl rfl (Nat.le_of_ble_eq_true rfl) d_Mo_check_205 rfl rfl ⟨by decide, by decide⟩ ⟨Nat.zero_le _, Nat.zero_le _⟩ (j_st (st' := [.int (f_Mo_grows ((gR S 125 (gI S 124 13).toNatClampNeg) &&& 31)), .int (gI S 124 17)]) rfl ?_)
                                      refine j_topi (fun r703 e704 => ?_)
                                      replace hp := hp r703 e704
                                      replace hF := hF.trans (px_let_eq e704)
                                      refine j_iadd X d_Mo_check_208 ?_
                                      refine j_bipush X (v := 24) d_Mo_check_209 (by decide) ?_
                                      refine j_icmp_le X (tgt := 218) d_Mo_check_211 (by decide) (fun h705 => ?_) (fun h705 => ?_)
                                      · replace hp := hp.1 h705
                                        replace hF := hF.trans (if_pos h705)
                                        refine j_iconst X (v := 0) d_Mo_check_218 (by decide) ?_
                                        exact j_iret X hr hk (by rw [hF]) rfl d_Mo_check_219
                                      · replace hp := hp.2 h705
                                        replace hF := hF.trans (if_neg h705)
                                        refine j_iconst X (v := 3) d_Mo_check_214 (by decide) ?_
                                        refine j_goto X (tgt := 219) d_Mo_check_215 (by decide) ?_
                                        exact j_iret X hr hk (by rw [hF]) rfl d_Mo_check_219
                                    · replace hp := hp.1 h702
                                      replace hF := hF.trans (if_pos h702)
                                      refine j_bipush X (v := 7) d_Mo_check_197 (by decide) ?_
                                      exact j_iret X hr hk (by rw [hF]) rfl d_Mo_check_199
                                · replace hp := hp.2 h700
                                  replace hF := hF.trans (if_neg h700)
                                  refine j_bipush X (v := 6) d_Mo_check_177 (by decide) ?_
                                  exact j_iret X hr hk (by rw [hF]) rfl d_Mo_check_179
                        · replace hp := hp.2 h696
                          replace hF := hF.trans (if_neg h696)
                          refine j_iconst X (v := 4) d_Mo_check_154 (by decide) ?_
                          exact j_iret X hr hk (by rw [hF]) rfl d_Mo_check_155
              · replace hp := hp.1 h393
                replace hF := hF.trans (if_pos h393)
                refine j_aload_n X d_Mo_check_99 2 rfl ?_
                refine j_iload_n X d_Mo_check_100 0 rfl ?_
                refine j_callV (st := []) X 124 (by omega) hY_Mo_isArgument (c_Mo_isArgument l D aC ad n hn c0 S ((gR S 125 (gI S 124 13).toNatClampNeg) >>> ((5 : Int32) &&& 31))  ) mw_667 hI_Mo_isArgument hS_Mo_isArgument y_Mo rfl rfl rfl (Nat.le_of_ble_eq_true rfl) d_Mo_check_101 rfl rfl ⟨by decide, by decide⟩ ⟨Nat.zero_le _, Nat.zero_le _⟩ (j_st (st' := [.int (f_Mo_isArgument S ((gR S 125 (gI S 124 13).toNatClampNeg) >>> ((5 : Int32) &&& 31)))]) rfl ?_)
                refine j_topi (fun r394 e395 => ?_)
                replace hp := hp r394 e395
                replace hF := hF.trans (px_let_eq e395)
                refine j_if_ne X (tgt := 109) d_Mo_check_104 (by decide) (fun h396 => ?_) (fun h396 => ?_)
                · replace hp := hp.2 h396
                  replace hF := hF.trans (if_neg h396)
                  refine j_aload_n X d_Mo_check_109 2 rfl ?_
                  refine j_get X fd_Mo_75_Mo 124 (by omega) y_Mo rfl d_Mo_check_110 ?_
                  refine j_if_le X (tgt := 130) d_Mo_check_113 (by decide) (fun h397 => ?_) (fun h397 => ?_)
                  · replace hp := hp.1 h397
                    replace hF := hF.trans (if_pos h397)
                    refine j_iconst X (v := 0) d_Mo_check_130 (by decide) ?_
                    refine j_istore_n X d_Mo_check_131 [(3, .int 0), (2, .int ((gR S 125 (gI S 124 13).toNatClampNeg) >>> ((5 : Int32) &&& 31))), (1, .int ((gR S 125 (gI S 124 13).toNatClampNeg) &&& 31)), (0, .ref (ad 124))] (by decide) rfl ?_
                    refine j_iload_n X d_Mo_check_132 2 rfl ?_
                    refine j_bipush X (v := 10) d_Mo_check_133 (by decide) ?_
                    refine j_icmp_eq X (tgt := 144) d_Mo_check_135 (by decide) (fun h398 => ?_) (fun h398 => ?_)
                    · replace hp := hp.1 h398
                      replace hF := hF.trans (if_pos h398)
                      refine j_iload_n X d_Mo_check_144 0 rfl ?_
                      refine j_if_lt X (tgt := 154) d_Mo_check_145 (by decide) (fun h => absurd h (by decide)) (fun _ => ?_)
                      refine j_iload_n X d_Mo_check_148 0 rfl ?_
                      refine j_bipush X (v := 32) d_Mo_check_149 (by decide) ?_
                      refine j_icmp_lt X (tgt := 156) d_Mo_check_151 (by decide) (fun _ => ?_) (fun h => absurd (by decide) h)
                      refine j_iload_n X d_Mo_check_156 2 rfl ?_
                      refine j_bipush X (v := 8) d_Mo_check_157 (by decide) ?_
                      refine j_icmp_ne X (tgt := 166) d_Mo_check_159 (by decide) (fun h401 => ?_) (fun h401 => ?_)
                      · replace hp := hp.2 h401
                        replace hF := hF.trans (if_neg h401)
                        refine j_iload_n X d_Mo_check_166 2 rfl ?_
                        refine j_bipush X (v := 19) d_Mo_check_167 (by decide) ?_
                        refine j_icmp_ne X (tgt := 180) d_Mo_check_169 (by decide) (fun h403 => ?_) (fun h403 => ?_)
                        · replace hp := hp.2 h403
                          replace hF := hF.trans (if_neg h403)
                          refine j_iload_n X d_Mo_check_180 2 rfl ?_
                          refine j_bipush X (v := 18) d_Mo_check_181 (by decide) ?_
                          refine j_icmp_ne X (tgt := 200) d_Mo_check_183 (by decide) (fun h413 => ?_) (fun h413 => ?_)
                          · replace hp := hp.2 h413
                            replace hF := hF.trans (if_neg h413)
                            refine j_aload_n X d_Mo_check_200 3 rfl ?_
                            refine j_get X fd_Mo_75_Mo 124 (by omega) y_Mo rfl d_Mo_check_201 ?_
                            refine j_iload_n X d_Mo_check_204 2 rfl ?_
                            refine j_callP (st := [.int (gI S 124 17)]) X hY_Mo_grows (c_Mo_grows l ((gR S 125 (gI S 124 13).toNatClampNeg) &&& 31) ) mw_671 hT_Mo_grows rfl rfl (Nat.le_of_ble_eq_true rfl) d_Mo_check_205 rfl rfl ⟨by decide, by decide⟩ ⟨Nat.zero_le _, Nat.zero_le _⟩ (j_st (st' := [.int (f_Mo_grows ((gR S 125 (gI S 124 13).toNatClampNeg) &&& 31)), .int (gI S 124 17)]) rfl ?_)
                            refine j_topi (fun r418 e419 => ?_)
                            replace hp := hp r418 e419
                            replace hF := hF.trans (px_let_eq e419)
                            refine j_iadd X d_Mo_check_208 ?_
                            refine j_bipush X (v := 24) d_Mo_check_209 (by decide) ?_
                            refine j_icmp_le X (tgt := 218) d_Mo_check_211 (by decide) (fun h420 => ?_) (fun h420 => ?_)
                            · replace hp := hp.1 h420
                              replace hF := hF.trans (if_pos h420)
                              refine j_iconst X (v := 0) d_Mo_check_218 (by decide) ?_
                              exact j_iret X hr hk (by rw [hF]) rfl d_Mo_check_219
                            · replace hp := hp.2 h420
                              replace hF := hF.trans (if_neg h420)
                              refine j_iconst X (v := 3) d_Mo_check_214 (by decide) ?_
                              refine j_goto X (tgt := 219) d_Mo_check_215 (by decide) ?_
                              exact j_iret X hr hk (by rw [hF]) rfl d_Mo_check_219
                          · replace hp := hp.1 h413
                            replace hF := hF.trans (if_pos h413)
                            refine j_aload_n X d_Mo_check_186 3 rfl ?_
                            refine j_get X fd_Mo_72_Mo 124 (by omega) y_Mo rfl d_Mo_check_187 ?_
                            refine j_aload_n X d_Mo_check_190 3 rfl ?_
                            refine j_get X fd_Mo_60_Mo 124 (by omega) y_Mo rfl d_Mo_check_191 ?_
                            refine j_icmp_ne X (tgt := 200) d_Mo_check_194 (by decide) (fun h414 => ?_) (fun h414 => ?_)
                            · replace hp := hp.2 h414
                              replace hF := hF.trans (if_neg h414)
                              refine j_aload_n X d_Mo_check_200 3 rfl ?_
                              refine j_get X fd_Mo_75_Mo 124 (by omega) y_Mo rfl d_Mo_check_201 ?_
                              refine j_iload_n X d_Mo_check_204 2 rfl ?_
                              refine j_callP (st := [.int (gI S 124 17)]) X hY_Mo_grows (c_Mo_grows l ((gR S 125 (gI S 124 13).toNatClampNeg) &&& 31) ) mw_671 hT_Mo_grows rfl rfl (Nat.le_of_ble_eq_true rfl) d_Mo_check_205 rfl rfl ⟨by decide, by decide⟩ ⟨Nat.zero_le _, Nat.zero_le _⟩ (j_st (st' := [.int (f_Mo_grows ((gR S 125 (gI S 124 13).toNatClampNeg) &&& 31)), .int (gI S 124 17)]) rfl ?_)
                              refine j_topi (fun r415 e416 => ?_)
                              replace hp := hp r415 e416
                              replace hF := hF.trans (px_let_eq e416)
                              refine j_iadd X d_Mo_check_208 ?_
                              refine j_bipush X (v := 24) d_Mo_check_209 (by decide) ?_
                              refine j_icmp_le X (tgt := 218) d_Mo_check_211 (by decide) (fun h417 => ?_) (fun h417 => ?_)
                              · replace hp := hp.1 h417
                                replace hF := hF.trans (if_pos h417)
                                refine j_iconst X (v := 0) d_Mo_check_218 (by decide) ?_
                                exact j_iret X hr hk (by rw [hF]) rfl d_Mo_check_219
                              · replace hp := hp.2 h417
                                replace hF := hF.trans (if_neg h417)
                                refine j_iconst X (v := 3) d_Mo_check_214 (by decide) ?_
                                refine j_goto X (tgt := 219) d_Mo_check_215 (by decide) ?_
                                exact j_iret X hr hk (by rw [hF]) rfl d_Mo_check_219
                            · replace hp := hp.1 h414
                              replace hF := hF.trans (if_pos h414)
                              refine j_bipush X (v := 7) d_Mo_check_197 (by decide) ?_
                              exact j_iret X hr hk (by rw [hF]) rfl d_Mo_check_199
                        · replace hp := hp.1 h403
                          replace hF := hF.trans (if_pos h403)
                          refine j_iload_n X d_Mo_check_172 1 rfl ?_
                          refine j_iconst X (v := 1) d_Mo_check_173 (by decide) ?_
                          refine j_icmp_ge X (tgt := 180) d_Mo_check_174 (by decide) (fun h404 => ?_) (fun h404 => ?_)
                          · replace hp := hp.1 h404
                            replace hF := hF.trans (if_pos h404)
                            refine j_iload_n X d_Mo_check_180 2 rfl ?_
                            refine j_bipush X (v := 18) d_Mo_check_181 (by decide) ?_
                            refine j_icmp_ne X (tgt := 200) d_Mo_check_183 (by decide) (fun h405 => ?_) (fun h405 => ?_)
                            · replace hp := hp.2 h405
                              replace hF := hF.trans (if_neg h405)
                              refine j_aload_n X d_Mo_check_200 3 rfl ?_
                              refine j_get X fd_Mo_75_Mo 124 (by omega) y_Mo rfl d_Mo_check_201 ?_
                              refine j_iload_n X d_Mo_check_204 2 rfl ?_
                              refine j_callP (st := [.int (gI S 124 17)]) X hY_Mo_grows (c_Mo_grows l ((gR S 125 (gI S 124 13).toNatClampNeg) &&& 31) ) mw_671 hT_Mo_grows rfl rfl (Nat.le_of_ble_eq_true rfl) d_Mo_check_205 rfl rfl ⟨by decide, by decide⟩ ⟨Nat.zero_le _, Nat.zero_le _⟩ (j_st (st' := [.int (f_Mo_grows ((gR S 125 (gI S 124 13).toNatClampNeg) &&& 31)), .int (gI S 124 17)]) rfl ?_)
                              refine j_topi (fun r410 e411 => ?_)
                              replace hp := hp r410 e411
                              replace hF := hF.trans (px_let_eq e411)
                              refine j_iadd X d_Mo_check_208 ?_
                              refine j_bipush X (v := 24) d_Mo_check_209 (by decide) ?_
                              refine j_icmp_le X (tgt := 218) d_Mo_check_211 (by decide) (fun h412 => ?_) (fun h412 => ?_)
                              · replace hp := hp.1 h412
                                replace hF := hF.trans (if_pos h412)
                                refine j_iconst X (v := 0) d_Mo_check_218 (by decide) ?_
                                exact j_iret X hr hk (by rw [hF]) rfl d_Mo_check_219
                              · replace hp := hp.2 h412
                                replace hF := hF.trans (if_neg h412)
                                refine j_iconst X (v := 3) d_Mo_check_214 (by decide) ?_
                                refine j_goto X (tgt := 219) d_Mo_check_215 (by decide) ?_
                                exact j_iret X hr hk (by rw [hF]) rfl d_Mo_check_219
                            · replace hp := hp.1 h405
                              replace hF := hF.trans (if_pos h405)
                              refine j_aload_n X d_Mo_check_186 3 rfl ?_
                              refine j_get X fd_Mo_72_Mo 124 (by omega) y_Mo rfl d_Mo_check_187 ?_
                              refine j_aload_n X d_Mo_check_190 3 rfl ?_
                              refine j_get X fd_Mo_60_Mo 124 (by omega) y_Mo rfl d_Mo_check_191 ?_
                              refine j_icmp_ne X (tgt := 200) d_Mo_check_194 (by decide) (fun h406 => ?_) (fun h406 => ?_)
                              · replace hp := hp.2 h406
                                replace hF := hF.trans (if_neg h406)
                                refine j_aload_n X d_Mo_check_200 3 rfl ?_
                                refine j_get X fd_Mo_75_Mo 124 (by omega) y_Mo rfl d_Mo_check_201 ?_
                                refine j_iload_n X d_Mo_check_204 2 rfl ?_
                                refine j_callP (st := [.int (gI S 124 17)]) X hY_Mo_grows (c_Mo_grows l ((gR S 125 (gI S 124 13).toNatClampNeg) &&& 31) ) mw_671 hT_Mo_grows rfl rfl (Nat.le_of_ble_eq_true rfl) d_Mo_check_205 rfl rfl ⟨by decide, by decide⟩ ⟨Nat.zero_le _, Nat.zero_le _⟩ (j_st (st' := [.int (f_Mo_grows ((gR S 125 (gI S 124 13).toNatClampNeg) &&& 31)), .int (gI S 124 17)]) rfl ?_)
                                refine j_topi (fun r407 e408 => ?_)
                                replace hp := hp r407 e408
                                replace hF := hF.trans (px_let_eq e408)
                                refine j_iadd X d_Mo_check_208 ?_
                                refine j_bipush X (v := 24) d_Mo_check_209 (by decide) ?_
                                refine j_icmp_le X (tgt := 218) d_Mo_check_211 (by decide) (fun h409 => ?_) (fun h409 => ?_)
                                · replace hp := hp.1 h409
                                  replace hF := hF.trans (if_pos h409)
                                  refine j_iconst X (v := 0) d_Mo_check_218 (by decide) ?_
                                  exact j_iret X hr hk (by rw [hF]) rfl d_Mo_check_219
                                · replace hp := hp.2 h409
                                  replace hF := hF.trans (if_neg h409)
                                  refine j_iconst X (v := 3) d_Mo_check_214 (by decide) ?_
                                  refine j_goto X (tgt := 219) d_Mo_check_215 (by decide) ?_
                                  exact j_iret X hr hk (by rw [hF]) rfl d_Mo_check_219
                              · replace hp := hp.1 h406
                                replace hF := hF.trans (if_pos h406)
                                refine j_bipush X (v := 7) d_Mo_check_197 (by decide) ?_
                                exact j_iret X hr hk (by rw [hF]) rfl d_Mo_check_199
                          · replace hp := hp.2 h404
                            replace hF := hF.trans (if_neg h404)
                            refine j_bipush X (v := 6) d_Mo_check_177 (by decide) ?_
                            exact j_iret X hr hk (by rw [hF]) rfl d_Mo_check_179
                      · replace hp := hp.1 h401
                        replace hF := hF.trans (if_pos h401)
                        refine j_iload_n X d_Mo_check_162 0 rfl ?_
                        refine j_if_eq X (tgt := 177) d_Mo_check_163 (by decide) (fun _ => ?_) (fun h => absurd (by decide) h)
                        refine j_bipush X (v := 6) d_Mo_check_177 (by decide) ?_
                        exact j_iret X hr hk (by rw [hF]) rfl d_Mo_check_179
                    · replace hp := hp.2 h398
                      replace hF := hF.trans (if_neg h398)
                      refine j_iload_n X d_Mo_check_138 2 rfl ?_
                      refine j_bipush X (v := 11) d_Mo_check_139 (by decide) ?_
                      refine j_icmp_ne X (tgt := 156) d_Mo_check_141 (by decide) (fun h421 => ?_) (fun h421 => ?_)
                      · replace hp := hp.2 h421
                        replace hF := hF.trans (if_neg h421)
                        refine j_iload_n X d_Mo_check_156 2 rfl ?_
                        refine j_bipush X (v := 8) d_Mo_check_157 (by decide) ?_
                        refine j_icmp_ne X (tgt := 166) d_Mo_check_159 (by decide) (fun h444 => ?_) (fun h444 => ?_)
                        · replace hp := hp.2 h444
                          replace hF := hF.trans (if_neg h444)
                          refine j_iload_n X d_Mo_check_166 2 rfl ?_
                          refine j_bipush X (v := 19) d_Mo_check_167 (by decide) ?_
                          refine j_icmp_ne X (tgt := 180) d_Mo_check_169 (by decide) (fun h446 => ?_) (fun h446 => ?_)
                          · replace hp := hp.2 h446
                            replace hF := hF.trans (if_neg h446)
                            refine j_iload_n X d_Mo_check_180 2 rfl ?_
                            refine j_bipush X (v := 18) d_Mo_check_181 (by decide) ?_
                            refine j_icmp_ne X (tgt := 200) d_Mo_check_183 (by decide) (fun h456 => ?_) (fun h456 => ?_)
                            · replace hp := hp.2 h456
                              replace hF := hF.trans (if_neg h456)
                              refine j_aload_n X d_Mo_check_200 3 rfl ?_
                              refine j_get X fd_Mo_75_Mo 124 (by omega) y_Mo rfl d_Mo_check_201 ?_
                              refine j_iload_n X d_Mo_check_204 2 rfl ?_
                              refine j_callP (st := [.int (gI S 124 17)]) X hY_Mo_grows (c_Mo_grows l ((gR S 125 (gI S 124 13).toNatClampNeg) &&& 31) ) mw_671 hT_Mo_grows rfl rfl (Nat.le_of_ble_eq_true rfl) d_Mo_check_205 rfl rfl ⟨by decide, by decide⟩ ⟨Nat.zero_le _, Nat.zero_le _⟩ (j_st (st' := [.int (f_Mo_grows ((gR S 125 (gI S 124 13).toNatClampNeg) &&& 31)), .int (gI S 124 17)]) rfl ?_)
                              refine j_topi (fun r461 e462 => ?_)
                              replace hp := hp r461 e462
                              replace hF := hF.trans (px_let_eq e462)
                              refine j_iadd X d_Mo_check_208 ?_
                              refine j_bipush X (v := 24) d_Mo_check_209 (by decide) ?_
                              refine j_icmp_le X (tgt := 218) d_Mo_check_211 (by decide) (fun h463 => ?_) (fun h463 => ?_)
                              · replace hp := hp.1 h463
                                replace hF := hF.trans (if_pos h463)
                                refine j_iconst X (v := 0) d_Mo_check_218 (by decide) ?_
                                exact j_iret X hr hk (by rw [hF]) rfl d_Mo_check_219
                              · replace hp := hp.2 h463
                                replace hF := hF.trans (if_neg h463)
                                refine j_iconst X (v := 3) d_Mo_check_214 (by decide) ?_
                                refine j_goto X (tgt := 219) d_Mo_check_215 (by decide) ?_
                                exact j_iret X hr hk (by rw [hF]) rfl d_Mo_check_219
                            · replace hp := hp.1 h456
                              replace hF := hF.trans (if_pos h456)
                              refine j_aload_n X d_Mo_check_186 3 rfl ?_
                              refine j_get X fd_Mo_72_Mo 124 (by omega) y_Mo rfl d_Mo_check_187 ?_
                              refine j_aload_n X d_Mo_check_190 3 rfl ?_
                              refine j_get X fd_Mo_60_Mo 124 (by omega) y_Mo rfl d_Mo_check_191 ?_
                              refine j_icmp_ne X (tgt := 200) d_Mo_check_194 (by decide) (fun h457 => ?_) (fun h457 => ?_)
                              · replace hp := hp.2 h457
                                replace hF := hF.trans (if_neg h457)
                                refine j_aload_n X d_Mo_check_200 3 rfl ?_
                                refine j_get X fd_Mo_75_Mo 124 (by omega) y_Mo rfl d_Mo_check_201 ?_
                                refine j_iload_n X d_Mo_check_204 2 rfl ?_
                                refine j_callP (st := [.int (gI S 124 17)]) X hY_Mo_grows (c_Mo_grows l ((gR S 125 (gI S 124 13).toNatClampNeg) &&& 31) ) mw_671 hT_Mo_grows rfl rfl (Nat.le_of_ble_eq_true rfl) d_Mo_check_205 rfl rfl ⟨by decide, by decide⟩ ⟨Nat.zero_le _, Nat.zero_le _⟩ (j_st (st' := [.int (f_Mo_grows ((gR S 125 (gI S 124 13).toNatClampNeg) &&& 31)), .int (gI S 124 17)]) rfl ?_)
                                refine j_topi (fun r458 e459 => ?_)
                                replace hp := hp r458 e459
                                replace hF := hF.trans (px_let_eq e459)
                                refine j_iadd X d_Mo_check_208 ?_
                                refine j_bipush X (v := 24) d_Mo_check_209 (by decide) ?_
                                refine j_icmp_le X (tgt := 218) d_Mo_check_211 (by decide) (fun h460 => ?_) (fun h460 => ?_)
                                · replace hp := hp.1 h460
                                  replace hF := hF.trans (if_pos h460)
                                  refine j_iconst X (v := 0) d_Mo_check_218 (by decide) ?_
                                  exact j_iret X hr hk (by rw [hF]) rfl d_Mo_check_219
                                · replace hp := hp.2 h460
                                  replace hF := hF.trans (if_neg h460)
                                  refine j_iconst X (v := 3) d_Mo_check_214 (by decide) ?_
                                  refine j_goto X (tgt := 219) d_Mo_check_215 (by decide) ?_
                                  exact j_iret X hr hk (by rw [hF]) rfl d_Mo_check_219
                              · replace hp := hp.1 h457
                                replace hF := hF.trans (if_pos h457)
                                refine j_bipush X (v := 7) d_Mo_check_197 (by decide) ?_
                                exact j_iret X hr hk (by rw [hF]) rfl d_Mo_check_199
                          · replace hp := hp.1 h446
                            replace hF := hF.trans (if_pos h446)
                            refine j_iload_n X d_Mo_check_172 1 rfl ?_
                            refine j_iconst X (v := 1) d_Mo_check_173 (by decide) ?_
                            refine j_icmp_ge X (tgt := 180) d_Mo_check_174 (by decide) (fun h447 => ?_) (fun h447 => ?_)
                            · replace hp := hp.1 h447
                              replace hF := hF.trans (if_pos h447)
                              refine j_iload_n X d_Mo_check_180 2 rfl ?_
                              refine j_bipush X (v := 18) d_Mo_check_181 (by decide) ?_
                              refine j_icmp_ne X (tgt := 200) d_Mo_check_183 (by decide) (fun h448 => ?_) (fun h448 => ?_)
                              · replace hp := hp.2 h448
                                replace hF := hF.trans (if_neg h448)
                                refine j_aload_n X d_Mo_check_200 3 rfl ?_
                                refine j_get X fd_Mo_75_Mo 124 (by omega) y_Mo rfl d_Mo_check_201 ?_
                                refine j_iload_n X d_Mo_check_204 2 rfl ?_
                                refine j_callP (st := [.int (gI S 124 17)]) X hY_Mo_grows (c_Mo_grows l ((gR S 125 (gI S 124 13).toNatClampNeg) &&& 31) ) mw_671 hT_Mo_grows rfl rfl (Nat.le_of_ble_eq_true rfl) d_Mo_check_205 rfl rfl ⟨by decide, by decide⟩ ⟨Nat.zero_le _, Nat.zero_le _⟩ (j_st (st' := [.int (f_Mo_grows ((gR S 125 (gI S 124 13).toNatClampNeg) &&& 31)), .int (gI S 124 17)]) rfl ?_)
                                refine j_topi (fun r453 e454 => ?_)
                                replace hp := hp r453 e454
                                replace hF := hF.trans (px_let_eq e454)
                                refine j_iadd X d_Mo_check_208 ?_
                                refine j_bipush X (v := 24) d_Mo_check_209 (by decide) ?_
                                refine j_icmp_le X (tgt := 218) d_Mo_check_211 (by decide) (fun h455 => ?_) (fun h455 => ?_)
                                · replace hp := hp.1 h455
                                  replace hF := hF.trans (if_pos h455)
                                  refine j_iconst X (v := 0) d_Mo_check_218 (by decide) ?_
                                  exact j_iret X hr hk (by rw [hF]) rfl d_Mo_check_219
                                · replace hp := hp.2 h455
                                  replace hF := hF.trans (if_neg h455)
                                  refine j_iconst X (v := 3) d_Mo_check_214 (by decide) ?_
                                  refine j_goto X (tgt := 219) d_Mo_check_215 (by decide) ?_
                                  exact j_iret X hr hk (by rw [hF]) rfl d_Mo_check_219
                              · replace hp := hp.1 h448
                                replace hF := hF.trans (if_pos h448)
                                refine j_aload_n X d_Mo_check_186 3 rfl ?_
                                refine j_get X fd_Mo_72_Mo 124 (by omega) y_Mo rfl d_Mo_check_187 ?_
                                refine j_aload_n X d_Mo_check_190 3 rfl ?_
                                refine j_get X fd_Mo_60_Mo 124 (by omega) y_Mo rfl d_Mo_check_191 ?_
                                refine j_icmp_ne X (tgt := 200) d_Mo_check_194 (by decide) (fun h449 => ?_) (fun h449 => ?_)
                                · replace hp := hp.2 h449
                                  replace hF := hF.trans (if_neg h449)
                                  refine j_aload_n X d_Mo_check_200 3 rfl ?_
                                  refine j_get X fd_Mo_75_Mo 124 (by omega) y_Mo rfl d_Mo_check_201 ?_
                                  refine j_iload_n X d_Mo_check_204 2 rfl ?_
                                  refine j_callP (st := [.int (gI S 124 17)]) X hY_Mo_grows (c_Mo_grows l ((gR S 125 (gI S 124 13).toNatClampNeg) &&& 31) ) mw_671 hT_Mo_grows rfl rfl (Nat.le_of_ble_eq_true rfl) d_Mo_check_205 rfl rfl ⟨by decide, by decide⟩ ⟨Nat.zero_le _, Nat.zero_le _⟩ (j_st (st' := [.int (f_Mo_grows ((gR S 125 (gI S 124 13).toNatClampNeg) &&& 31)), .int (gI S 124 17)]) rfl ?_)
                                  refine j_topi (fun r450 e451 => ?_)
                                  replace hp := hp r450 e451
                                  replace hF := hF.trans (px_let_eq e451)
                                  refine j_iadd X d_Mo_check_208 ?_
                                  refine j_bipush X (v := 24) d_Mo_check_209 (by decide) ?_
                                  refine j_icmp_le X (tgt := 218) d_Mo_check_211 (by decide) (fun h452 => ?_) (fun h452 => ?_)
                                  · replace hp := hp.1 h452
                                    replace hF := hF.trans (if_pos h452)
                                    refine j_iconst X (v := 0) d_Mo_check_218 (by decide) ?_
                                    exact j_iret X hr hk (by rw [hF]) rfl d_Mo_check_219
                                  · replace hp := hp.2 h452
                                    replace hF := hF.trans (if_neg h452)
                                    refine j_iconst X (v := 3) d_Mo_check_214 (by decide) ?_
                                    refine j_goto X (tgt := 219) d_Mo_check_215 (by decide) ?_
                                    exact j_iret X hr hk (by rw [hF]) rfl d_Mo_check_219
                                · replace hp := hp.1 h449
                                  replace hF := hF.trans (if_pos h449)
                                  refine j_bipush X (v := 7) d_Mo_check_197 (by decide) ?_
                                  exact j_iret X hr hk (by rw [hF]) rfl d_Mo_check_199
                            · replace hp := hp.2 h447
                              replace hF := hF.trans (if_neg h447)
                              refine j_bipush X (v := 6) d_Mo_check_177 (by decide) ?_
                              exact j_iret X hr hk (by rw [hF]) rfl d_Mo_check_179
                        · replace hp := hp.1 h444
                          replace hF := hF.trans (if_pos h444)
                          refine j_iload_n X d_Mo_check_162 0 rfl ?_
                          refine j_if_eq X (tgt := 177) d_Mo_check_163 (by decide) (fun _ => ?_) (fun h => absurd (by decide) h)
                          refine j_bipush X (v := 6) d_Mo_check_177 (by decide) ?_
                          exact j_iret X hr hk (by rw [hF]) rfl d_Mo_check_179
                      · replace hp := hp.1 h421
                        replace hF := hF.trans (if_pos h421)
                        refine j_iload_n X d_Mo_check_144 0 rfl ?_
                        refine j_if_lt X (tgt := 154) d_Mo_check_145 (by decide) (fun h => absurd h (by decide)) (fun _ => ?_)
                        refine j_iload_n X d_Mo_check_148 0 rfl ?_
                        refine j_bipush X (v := 32) d_Mo_check_149 (by decide) ?_
                        refine j_icmp_lt X (tgt := 156) d_Mo_check_151 (by decide) (fun _ => ?_) (fun h => absurd (by decide) h)
                        refine j_iload_n X d_Mo_check_156 2 rfl ?_
                        refine j_bipush X (v := 8) d_Mo_check_157 (by decide) ?_
                        refine j_icmp_ne X (tgt := 166) d_Mo_check_159 (by decide) (fun h424 => ?_) (fun h424 => ?_)
                        · replace hp := hp.2 h424
                          replace hF := hF.trans (if_neg h424)
                          refine j_iload_n X d_Mo_check_166 2 rfl ?_
                          refine j_bipush X (v := 19) d_Mo_check_167 (by decide) ?_
                          refine j_icmp_ne X (tgt := 180) d_Mo_check_169 (by decide) (fun h426 => ?_) (fun h426 => ?_)
                          · replace hp := hp.2 h426
                            replace hF := hF.trans (if_neg h426)
                            refine j_iload_n X d_Mo_check_180 2 rfl ?_
                            refine j_bipush X (v := 18) d_Mo_check_181 (by decide) ?_
                            refine j_icmp_ne X (tgt := 200) d_Mo_check_183 (by decide) (fun h436 => ?_) (fun h436 => ?_)
                            · replace hp := hp.2 h436
                              replace hF := hF.trans (if_neg h436)
                              refine j_aload_n X d_Mo_check_200 3 rfl ?_
                              refine j_get X fd_Mo_75_Mo 124 (by omega) y_Mo rfl d_Mo_check_201 ?_
                              refine j_iload_n X d_Mo_check_204 2 rfl ?_
                              refine j_callP (st := [.int (gI S 124 17)]) X hY_Mo_grows (c_Mo_grows l ((gR S 125 (gI S 124 13).toNatClampNeg) &&& 31) ) mw_671 hT_Mo_grows rfl rfl (Nat.le_of_ble_eq_true rfl) d_Mo_check_205 rfl rfl ⟨by decide, by decide⟩ ⟨Nat.zero_le _, Nat.zero_le _⟩ (j_st (st' := [.int (f_Mo_grows ((gR S 125 (gI S 124 13).toNatClampNeg) &&& 31)), .int (gI S 124 17)]) rfl ?_)
                              refine j_topi (fun r441 e442 => ?_)
                              replace hp := hp r441 e442
                              replace hF := hF.trans (px_let_eq e442)
                              refine j_iadd X d_Mo_check_208 ?_
                              refine j_bipush X (v := 24) d_Mo_check_209 (by decide) ?_
                              refine j_icmp_le X (tgt := 218) d_Mo_check_211 (by decide) (fun h443 => ?_) (fun h443 => ?_)
                              · replace hp := hp.1 h443
                                replace hF := hF.trans (if_pos h443)
                                refine j_iconst X (v := 0) d_Mo_check_218 (by decide) ?_
                                exact j_iret X hr hk (by rw [hF]) rfl d_Mo_check_219
                              · replace hp := hp.2 h443
                                replace hF := hF.trans (if_neg h443)
                                refine j_iconst X (v := 3) d_Mo_check_214 (by decide) ?_
                                refine j_goto X (tgt := 219) d_Mo_check_215 (by decide) ?_
                                exact j_iret X hr hk (by rw [hF]) rfl d_Mo_check_219
                            · replace hp := hp.1 h436
                              replace hF := hF.trans (if_pos h436)
                              refine j_aload_n X d_Mo_check_186 3 rfl ?_
                              refine j_get X fd_Mo_72_Mo 124 (by omega) y_Mo rfl d_Mo_check_187 ?_
                              refine j_aload_n X d_Mo_check_190 3 rfl ?_
                              refine j_get X fd_Mo_60_Mo 124 (by omega) y_Mo rfl d_Mo_check_191 ?_
                              refine j_icmp_ne X (tgt := 200) d_Mo_check_194 (by decide) (fun h437 => ?_) (fun h437 => ?_)
                              · replace hp := hp.2 h437
                                replace hF := hF.trans (if_neg h437)
                                refine j_aload_n X d_Mo_check_200 3 rfl ?_
                                refine j_get X fd_Mo_75_Mo 124 (by omega) y_Mo rfl d_Mo_check_201 ?_
                                refine j_iload_n X d_Mo_check_204 2 rfl ?_
                                refine j_callP (st := [.int (gI S 124 17)]) X hY_Mo_grows (c_Mo_grows l ((gR S 125 (gI S 124 13).toNatClampNeg) &&& 31) ) mw_671 hT_Mo_grows rfl rfl (Nat.le_of_ble_eq_true rfl) d_Mo_check_205 rfl rfl ⟨by decide, by decide⟩ ⟨Nat.zero_le _, Nat.zero_le _⟩ (j_st (st' := [.int (f_Mo_grows ((gR S 125 (gI S 124 13).toNatClampNeg) &&& 31)), .int (gI S 124 17)]) rfl ?_)
                                refine j_topi (fun r438 e439 => ?_)
                                replace hp := hp r438 e439
                                replace hF := hF.trans (px_let_eq e439)
                                refine j_iadd X d_Mo_check_208 ?_
                                refine j_bipush X (v := 24) d_Mo_check_209 (by decide) ?_
                                refine j_icmp_le X (tgt := 218) d_Mo_check_211 (by decide) (fun h440 => ?_) (fun h440 => ?_)
                                · replace hp := hp.1 h440
                                  replace hF := hF.trans (if_pos h440)
                                  refine j_iconst X (v := 0) d_Mo_check_218 (by decide) ?_
                                  exact j_iret X hr hk (by rw [hF]) rfl d_Mo_check_219
                                · replace hp := hp.2 h440
                                  replace hF := hF.trans (if_neg h440)
                                  refine j_iconst X (v := 3) d_Mo_check_214 (by decide) ?_
                                  refine j_goto X (tgt := 219) d_Mo_check_215 (by decide) ?_
                                  exact j_iret X hr hk (by rw [hF]) rfl d_Mo_check_219
                              · replace hp := hp.1 h437
                                replace hF := hF.trans (if_pos h437)
                                refine j_bipush X (v := 7) d_Mo_check_197 (by decide) ?_
                                exact j_iret X hr hk (by rw [hF]) rfl d_Mo_check_199
                          · replace hp := hp.1 h426
                            replace hF := hF.trans (if_pos h426)
                            refine j_iload_n X d_Mo_check_172 1 rfl ?_
                            refine j_iconst X (v := 1) d_Mo_check_173 (by decide) ?_
                            refine j_icmp_ge X (tgt := 180) d_Mo_check_174 (by decide) (fun h427 => ?_) (fun h427 => ?_)
                            · replace hp := hp.1 h427
                              replace hF := hF.trans (if_pos h427)
                              refine j_iload_n X d_Mo_check_180 2 rfl ?_
                              refine j_bipush X (v := 18) d_Mo_check_181 (by decide) ?_
                              refine j_icmp_ne X (tgt := 200) d_Mo_check_183 (by decide) (fun h428 => ?_) (fun h428 => ?_)
                              · replace hp := hp.2 h428
                                replace hF := hF.trans (if_neg h428)
                                refine j_aload_n X d_Mo_check_200 3 rfl ?_
                                refine j_get X fd_Mo_75_Mo 124 (by omega) y_Mo rfl d_Mo_check_201 ?_
                                refine j_iload_n X d_Mo_check_204 2 rfl ?_
                                refine j_callP (st := [.int (gI S 124 17)]) X hY_Mo_grows (c_Mo_grows l ((gR S 125 (gI S 124 13).toNatClampNeg) &&& 31) ) mw_671 hT_Mo_grows rfl rfl (Nat.le_of_ble_eq_true rfl) d_Mo_check_205 rfl rfl ⟨by decide, by decide⟩ ⟨Nat.zero_le _, Nat.zero_le _⟩ (j_st (st' := [.int (f_Mo_grows ((gR S 125 (gI S 124 13).toNatClampNeg) &&& 31)), .int (gI S 124 17)]) rfl ?_)
                                refine j_topi (fun r433 e434 => ?_)
                                replace hp := hp r433 e434
                                replace hF := hF.trans (px_let_eq e434)
                                refine j_iadd X d_Mo_check_208 ?_
                                refine j_bipush X (v := 24) d_Mo_check_209 (by decide) ?_
                                refine j_icmp_le X (tgt := 218) d_Mo_check_211 (by decide) (fun h435 => ?_) (fun h435 => ?_)
                                · replace hp := hp.1 h435
                                  replace hF := hF.trans (if_pos h435)
                                  refine j_iconst X (v := 0) d_Mo_check_218 (by decide) ?_
                                  exact j_iret X hr hk (by rw [hF]) rfl d_Mo_check_219
                                · replace hp := hp.2 h435
                                  replace hF := hF.trans (if_neg h435)
                                  refine j_iconst X (v := 3) d_Mo_check_214 (by decide) ?_
                                  refine j_goto X (tgt := 219) d_Mo_check_215 (by decide) ?_
                                  exact j_iret X hr hk (by rw [hF]) rfl d_Mo_check_219
                              · replace hp := hp.1 h428
                                replace hF := hF.trans (if_pos h428)
                                refine j_aload_n X d_Mo_check_186 3 rfl ?_
                                refine j_get X fd_Mo_72_Mo 124 (by omega) y_Mo rfl d_Mo_check_187 ?_
                                refine j_aload_n X d_Mo_check_190 3 rfl ?_
                                refine j_get X fd_Mo_60_Mo 124 (by omega) y_Mo rfl d_Mo_check_191 ?_
                                refine j_icmp_ne X (tgt := 200) d_Mo_check_194 (by decide) (fun h429 => ?_) (fun h429 => ?_)
                                · replace hp := hp.2 h429
                                  replace hF := hF.trans (if_neg h429)
                                  refine j_aload_n X d_Mo_check_200 3 rfl ?_
                                  refine j_get X fd_Mo_75_Mo 124 (by omega) y_Mo rfl d_Mo_check_201 ?_
                                  refine j_iload_n X d_Mo_check_204 2 rfl ?_
                                  refine j_callP (st := [.int (gI S 124 17)]) X hY_Mo_grows (c_Mo_grows l ((gR S 125 (gI S 124 13).toNatClampNeg) &&& 31) ) mw_671 hT_Mo_grows rfl rfl (Nat.le_of_ble_eq_true rfl) d_Mo_check_205 rfl rfl ⟨by decide, by decide⟩ ⟨Nat.zero_le _, Nat.zero_le _⟩ (j_st (st' := [.int (f_Mo_grows ((gR S 125 (gI S 124 13).toNatClampNeg) &&& 31)), .int (gI S 124 17)]) rfl ?_)
                                  refine j_topi (fun r430 e431 => ?_)
                                  replace hp := hp r430 e431
                                  replace hF := hF.trans (px_let_eq e431)
                                  refine j_iadd X d_Mo_check_208 ?_
                                  refine j_bipush X (v := 24) d_Mo_check_209 (by decide) ?_
                                  refine j_icmp_le X (tgt := 218) d_Mo_check_211 (by decide) (fun h432 => ?_) (fun h432 => ?_)
                                  · replace hp := hp.1 h432
                                    replace hF := hF.trans (if_pos h432)
                                    refine j_iconst X (v := 0) d_Mo_check_218 (by decide) ?_
                                    exact j_iret X hr hk (by rw [hF]) rfl d_Mo_check_219
                                  · replace hp := hp.2 h432
                                    replace hF := hF.trans (if_neg h432)
                                    refine j_iconst X (v := 3) d_Mo_check_214 (by decide) ?_
                                    refine j_goto X (tgt := 219) d_Mo_check_215 (by decide) ?_
                                    exact j_iret X hr hk (by rw [hF]) rfl d_Mo_check_219
                                · replace hp := hp.1 h429
                                  replace hF := hF.trans (if_pos h429)
                                  refine j_bipush X (v := 7) d_Mo_check_197 (by decide) ?_
                                  exact j_iret X hr hk (by rw [hF]) rfl d_Mo_check_199
                            · replace hp := hp.2 h427
                              replace hF := hF.trans (if_neg h427)
                              refine j_bipush X (v := 6) d_Mo_check_177 (by decide) ?_
                              exact j_iret X hr hk (by rw [hF]) rfl d_Mo_check_179
                        · replace hp := hp.1 h424
                          replace hF := hF.trans (if_pos h424)
                          refine j_iload_n X d_Mo_check_162 0 rfl ?_
                          refine j_if_eq X (tgt := 177) d_Mo_check_163 (by decide) (fun _ => ?_) (fun h => absurd (by decide) h)
                          refine j_bipush X (v := 6) d_Mo_check_177 (by decide) ?_
                          exact j_iret X hr hk (by rw [hF]) rfl d_Mo_check_179
                  · replace hp := hp.2 h397
                    replace hF := hF.trans (if_neg h397)
                    refine j_aload_n X d_Mo_check_116 2 rfl ?_
                    refine j_get X fd_Mo_26_Mo 124 (by omega) y_Mo rfl d_Mo_check_117 ?_
                    refine j_aload_n X d_Mo_check_120 2 rfl ?_
                    refine j_get X fd_Mo_75_Mo 124 (by omega) y_Mo rfl d_Mo_check_121 ?_
                    refine j_iconst X (v := 1) d_Mo_check_124 (by decide) ?_
                    refine j_isub X d_Mo_check_125 ?_
                    obtain ⟨o464, hp⟩ := hp
                    refine j_iald X 130 0 (by omega) y_stack rfl o464 d_Mo_check_126 ?_
                    refine j_goto X (tgt := 131) d_Mo_check_127 (by decide) ?_
                    refine j_istore_n X d_Mo_check_131 [(3, .int (gR S 130 ((gI S 124 17) - 1).toNatClampNeg)), (2, .int ((gR S 125 (gI S 124 13).toNatClampNeg) >>> ((5 : Int32) &&& 31))), (1, .int ((gR S 125 (gI S 124 13).toNatClampNeg) &&& 31)), (0, .ref (ad 124))] (by decide) rfl ?_
                    refine j_iload_n X d_Mo_check_132 2 rfl ?_
                    refine j_bipush X (v := 10) d_Mo_check_133 (by decide) ?_
                    refine j_icmp_eq X (tgt := 144) d_Mo_check_135 (by decide) (fun h465 => ?_) (fun h465 => ?_)
                    · replace hp := hp.1 h465
                      replace hF := hF.trans (if_pos h465)
                      refine j_iload_n X d_Mo_check_144 0 rfl ?_
                      refine j_if_lt X (tgt := 154) d_Mo_check_145 (by decide) (fun h466 => ?_) (fun h466 => ?_)
                      · replace hp := hp.1 h466
                        replace hF := hF.trans (if_pos h466)
                        refine j_iconst X (v := 4) d_Mo_check_154 (by decide) ?_
                        exact j_iret X hr hk (by rw [hF]) rfl d_Mo_check_155
                      · replace hp := hp.2 h466
                        replace hF := hF.trans (if_neg h466)
                        refine j_iload_n X d_Mo_check_148 0 rfl ?_
                        refine j_bipush X (v := 32) d_Mo_check_149 (by decide) ?_
                        refine j_icmp_lt X (tgt := 156) d_Mo_check_151 (by decide) (fun h467 => ?_) (fun h467 => ?_)
                        · replace hp := hp.1 h467
                          replace hF := hF.trans (if_pos h467)
                          refine j_iload_n X d_Mo_check_156 2 rfl ?_
                          refine j_bipush X (v := 8) d_Mo_check_157 (by decide) ?_
                          refine j_icmp_ne X (tgt := 166) d_Mo_check_159 (by decide) (fun h468 => ?_) (fun h468 => ?_)
                          · replace hp := hp.2 h468
                            replace hF := hF.trans (if_neg h468)
                            refine j_iload_n X d_Mo_check_166 2 rfl ?_
                            refine j_bipush X (v := 19) d_Mo_check_167 (by decide) ?_
                            refine j_icmp_ne X (tgt := 180) d_Mo_check_169 (by decide) (fun h488 => ?_) (fun h488 => ?_)
                            · replace hp := hp.2 h488
                              replace hF := hF.trans (if_neg h488)
                              refine j_iload_n X d_Mo_check_180 2 rfl ?_
                              refine j_bipush X (v := 18) d_Mo_check_181 (by decide) ?_
                              refine j_icmp_ne X (tgt := 200) d_Mo_check_183 (by decide) (fun h498 => ?_) (fun h498 => ?_)
                              · replace hp := hp.2 h498
                                replace hF := hF.trans (if_neg h498)
                                refine j_aload_n X d_Mo_check_200 3 rfl ?_
                                refine j_get X fd_Mo_75_Mo 124 (by omega) y_Mo rfl d_Mo_check_201 ?_
                                refine j_iload_n X d_Mo_check_204 2 rfl ?_
                                refine j_callP (st := [.int (gI S 124 17)]) X hY_Mo_grows (c_Mo_grows l ((gR S 125 (gI S 124 13).toNatClampNeg) &&& 31) ) mw_671 hT_Mo_grows rfl rfl (Nat.le_of_ble_eq_true rfl) d_Mo_check_205 rfl rfl ⟨by decide, by decide⟩ ⟨Nat.zero_le _, Nat.zero_le _⟩ (j_st (st' := [.int (f_Mo_grows ((gR S 125 (gI S 124 13).toNatClampNeg) &&& 31)), .int (gI S 124 17)]) rfl ?_)
                                refine j_topi (fun r503 e504 => ?_)
                                replace hp := hp r503 e504
                                replace hF := hF.trans (px_let_eq e504)
                                refine j_iadd X d_Mo_check_208 ?_
                                refine j_bipush X (v := 24) d_Mo_check_209 (by decide) ?_
                                refine j_icmp_le X (tgt := 218) d_Mo_check_211 (by decide) (fun h505 => ?_) (fun h505 => ?_)
                                · replace hp := hp.1 h505
                                  replace hF := hF.trans (if_pos h505)
                                  refine j_iconst X (v := 0) d_Mo_check_218 (by decide) ?_
                                  exact j_iret X hr hk (by rw [hF]) rfl d_Mo_check_219
                                · replace hp := hp.2 h505
                                  replace hF := hF.trans (if_neg h505)
                                  refine j_iconst X (v := 3) d_Mo_check_214 (by decide) ?_
                                  refine j_goto X (tgt := 219) d_Mo_check_215 (by decide) ?_
                                  exact j_iret X hr hk (by rw [hF]) rfl d_Mo_check_219
                              · replace hp := hp.1 h498
                                replace hF := hF.trans (if_pos h498)
                                refine j_aload_n X d_Mo_check_186 3 rfl ?_
                                refine j_get X fd_Mo_72_Mo 124 (by omega) y_Mo rfl d_Mo_check_187 ?_
                                refine j_aload_n X d_Mo_check_190 3 rfl ?_
                                refine j_get X fd_Mo_60_Mo 124 (by omega) y_Mo rfl d_Mo_check_191 ?_
                                refine j_icmp_ne X (tgt := 200) d_Mo_check_194 (by decide) (fun h499 => ?_) (fun h499 => ?_)
                                · replace hp := hp.2 h499
                                  replace hF := hF.trans (if_neg h499)
                                  refine j_aload_n X d_Mo_check_200 3 rfl ?_
                                  refine j_get X fd_Mo_75_Mo 124 (by omega) y_Mo rfl d_Mo_check_201 ?_
                                  refine j_iload_n X d_Mo_check_204 2 rfl ?_
                                  refine j_callP (st := [.int (gI S 124 17)]) X hY_Mo_grows (c_Mo_grows l ((gR S 125 (gI S 124 13).toNatClampNeg) &&& 31) ) mw_671 hT_Mo_grows rfl rfl (Nat.le_of_ble_eq_true rfl) d_Mo_check_205 rfl rfl ⟨by decide, by decide⟩ ⟨Nat.zero_le _, Nat.zero_le _⟩ (j_st (st' := [.int (f_Mo_grows ((gR S 125 (gI S 124 13).toNatClampNeg) &&& 31)), .int (gI S 124 17)]) rfl ?_)
                                  refine j_topi (fun r500 e501 => ?_)
                                  replace hp := hp r500 e501
                                  replace hF := hF.trans (px_let_eq e501)
                                  refine j_iadd X d_Mo_check_208 ?_
                                  refine j_bipush X (v := 24) d_Mo_check_209 (by decide) ?_
                                  refine j_icmp_le X (tgt := 218) d_Mo_check_211 (by decide) (fun h502 => ?_) (fun h502 => ?_)
                                  · replace hp := hp.1 h502
                                    replace hF := hF.trans (if_pos h502)
                                    refine j_iconst X (v := 0) d_Mo_check_218 (by decide) ?_
                                    exact j_iret X hr hk (by rw [hF]) rfl d_Mo_check_219
                                  · replace hp := hp.2 h502
                                    replace hF := hF.trans (if_neg h502)
                                    refine j_iconst X (v := 3) d_Mo_check_214 (by decide) ?_
                                    refine j_goto X (tgt := 219) d_Mo_check_215 (by decide) ?_
                                    exact j_iret X hr hk (by rw [hF]) rfl d_Mo_check_219
                                · replace hp := hp.1 h499
                                  replace hF := hF.trans (if_pos h499)
                                  refine j_bipush X (v := 7) d_Mo_check_197 (by decide) ?_
                                  exact j_iret X hr hk (by rw [hF]) rfl d_Mo_check_199
                            · replace hp := hp.1 h488
                              replace hF := hF.trans (if_pos h488)
                              refine j_iload_n X d_Mo_check_172 1 rfl ?_
                              refine j_iconst X (v := 1) d_Mo_check_173 (by decide) ?_
                              refine j_icmp_ge X (tgt := 180) d_Mo_check_174 (by decide) (fun h489 => ?_) (fun h489 => ?_)
                              · replace hp := hp.1 h489
                                replace hF := hF.trans (if_pos h489)
                                refine j_iload_n X d_Mo_check_180 2 rfl ?_
                                refine j_bipush X (v := 18) d_Mo_check_181 (by decide) ?_
                                refine j_icmp_ne X (tgt := 200) d_Mo_check_183 (by decide) (fun h490 => ?_) (fun h490 => ?_)
                                · replace hp := hp.2 h490
                                  replace hF := hF.trans (if_neg h490)
                                  refine j_aload_n X d_Mo_check_200 3 rfl ?_
                                  refine j_get X fd_Mo_75_Mo 124 (by omega) y_Mo rfl d_Mo_check_201 ?_
                                  refine j_iload_n X d_Mo_check_204 2 rfl ?_
                                  refine j_callP (st := [.int (gI S 124 17)]) X hY_Mo_grows (c_Mo_grows l ((gR S 125 (gI S 124 13).toNatClampNeg) &&& 31) ) mw_671 hT_Mo_grows rfl rfl (Nat.le_of_ble_eq_true rfl) d_Mo_check_205 rfl rfl ⟨by decide, by decide⟩ ⟨Nat.zero_le _, Nat.zero_le _⟩ (j_st (st' := [.int (f_Mo_grows ((gR S 125 (gI S 124 13).toNatClampNeg) &&& 31)), .int (gI S 124 17)]) rfl ?_)
                                  refine j_topi (fun r495 e496 => ?_)
                                  replace hp := hp r495 e496
                                  replace hF := hF.trans (px_let_eq e496)
                                  refine j_iadd X d_Mo_check_208 ?_
                                  refine j_bipush X (v := 24) d_Mo_check_209 (by decide) ?_
                                  refine j_icmp_le X (tgt := 218) d_Mo_check_211 (by decide) (fun h497 => ?_) (fun h497 => ?_)
                                  · replace hp := hp.1 h497
                                    replace hF := hF.trans (if_pos h497)
                                    refine j_iconst X (v := 0) d_Mo_check_218 (by decide) ?_
                                    exact j_iret X hr hk (by rw [hF]) rfl d_Mo_check_219
                                  · replace hp := hp.2 h497
                                    replace hF := hF.trans (if_neg h497)
                                    refine j_iconst X (v := 3) d_Mo_check_214 (by decide) ?_
                                    refine j_goto X (tgt := 219) d_Mo_check_215 (by decide) ?_
                                    exact j_iret X hr hk (by rw [hF]) rfl d_Mo_check_219
                                · replace hp := hp.1 h490
                                  replace hF := hF.trans (if_pos h490)
                                  refine j_aload_n X d_Mo_check_186 3 rfl ?_
                                  refine j_get X fd_Mo_72_Mo 124 (by omega) y_Mo rfl d_Mo_check_187 ?_
                                  refine j_aload_n X d_Mo_check_190 3 rfl ?_
                                  refine j_get X fd_Mo_60_Mo 124 (by omega) y_Mo rfl d_Mo_check_191 ?_
                                  refine j_icmp_ne X (tgt := 200) d_Mo_check_194 (by decide) (fun h491 => ?_) (fun h491 => ?_)
                                  · replace hp := hp.2 h491
                                    replace hF := hF.trans (if_neg h491)
                                    refine j_aload_n X d_Mo_check_200 3 rfl ?_
                                    refine j_get X fd_Mo_75_Mo 124 (by omega) y_Mo rfl d_Mo_check_201 ?_
                                    refine j_iload_n X d_Mo_check_204 2 rfl ?_
                                    refine j_callP (st := [.int (gI S 124 17)]) X hY_Mo_grows (c_Mo_grows l ((gR S 125 (gI S 124 13).toNatClampNeg) &&& 31) ) mw_671 hT_Mo_grows rfl rfl (Nat.le_of_ble_eq_true rfl) d_Mo_check_205 rfl rfl ⟨by decide, by decide⟩ ⟨Nat.zero_le _, Nat.zero_le _⟩ (j_st (st' := [.int (f_Mo_grows ((gR S 125 (gI S 124 13).toNatClampNeg) &&& 31)), .int (gI S 124 17)]) rfl ?_)
                                    refine j_topi (fun r492 e493 => ?_)
                                    replace hp := hp r492 e493
                                    replace hF := hF.trans (px_let_eq e493)
                                    refine j_iadd X d_Mo_check_208 ?_
                                    refine j_bipush X (v := 24) d_Mo_check_209 (by decide) ?_
                                    refine j_icmp_le X (tgt := 218) d_Mo_check_211 (by decide) (fun h494 => ?_) (fun h494 => ?_)
                                    · replace hp := hp.1 h494
                                      replace hF := hF.trans (if_pos h494)
                                      refine j_iconst X (v := 0) d_Mo_check_218 (by decide) ?_
                                      exact j_iret X hr hk (by rw [hF]) rfl d_Mo_check_219
                                    · replace hp := hp.2 h494
                                      replace hF := hF.trans (if_neg h494)
                                      refine j_iconst X (v := 3) d_Mo_check_214 (by decide) ?_
                                      refine j_goto X (tgt := 219) d_Mo_check_215 (by decide) ?_
                                      exact j_iret X hr hk (by rw [hF]) rfl d_Mo_check_219
                                  · replace hp := hp.1 h491
                                    replace hF := hF.trans (if_pos h491)
                                    refine j_bipush X (v := 7) d_Mo_check_197 (by decide) ?_
                                    exact j_iret X hr hk (by rw [hF]) rfl d_Mo_check_199
                              · replace hp := hp.2 h489
                                replace hF := hF.trans (if_neg h489)
                                refine j_bipush X (v := 6) d_Mo_check_177 (by decide) ?_
                                exact j_iret X hr hk (by rw [hF]) rfl d_Mo_check_179
                          · replace hp := hp.1 h468
                            replace hF := hF.trans (if_pos h468)
                            refine j_iload_n X d_Mo_check_162 0 rfl ?_
                            refine j_if_eq X (tgt := 177) d_Mo_check_163 (by decide) (fun h469 => ?_) (fun h469 => ?_)
                            · replace hp := hp.1 h469
                              replace hF := hF.trans (if_pos h469)
                              refine j_bipush X (v := 6) d_Mo_check_177 (by decide) ?_
                              exact j_iret X hr hk (by rw [hF]) rfl d_Mo_check_179
                            · replace hp := hp.2 h469
                              replace hF := hF.trans (if_neg h469)
                              refine j_iload_n X d_Mo_check_166 2 rfl ?_
                              refine j_bipush X (v := 19) d_Mo_check_167 (by decide) ?_
                              refine j_icmp_ne X (tgt := 180) d_Mo_check_169 (by decide) (fun h470 => ?_) (fun h470 => ?_)
                              · replace hp := hp.2 h470
                                replace hF := hF.trans (if_neg h470)
                                refine j_iload_n X d_Mo_check_180 2 rfl ?_
                                refine j_bipush X (v := 18) d_Mo_check_181 (by decide) ?_
                                refine j_icmp_ne X (tgt := 200) d_Mo_check_183 (by decide) (fun h480 => ?_) (fun h480 => ?_)
                                · replace hp := hp.2 h480
                                  replace hF := hF.trans (if_neg h480)
                                  refine j_aload_n X d_Mo_check_200 3 rfl ?_
                                  refine j_get X fd_Mo_75_Mo 124 (by omega) y_Mo rfl d_Mo_check_201 ?_
                                  refine j_iload_n X d_Mo_check_204 2 rfl ?_
                                  refine j_callP (st := [.int (gI S 124 17)]) X hY_Mo_grows (c_Mo_grows l ((gR S 125 (gI S 124 13).toNatClampNeg) &&& 31) ) mw_671 hT_Mo_grows rfl rfl (Nat.le_of_ble_eq_true rfl) d_Mo_check_205 rfl rfl ⟨by decide, by decide⟩ ⟨Nat.zero_le _, Nat.zero_le _⟩ (j_st (st' := [.int (f_Mo_grows ((gR S 125 (gI S 124 13).toNatClampNeg) &&& 31)), .int (gI S 124 17)]) rfl ?_)
                                  refine j_topi (fun r485 e486 => ?_)
                                  replace hp := hp r485 e486
                                  replace hF := hF.trans (px_let_eq e486)
                                  refine j_iadd X d_Mo_check_208 ?_
                                  refine j_bipush X (v := 24) d_Mo_check_209 (by decide) ?_
                                  refine j_icmp_le X (tgt := 218) d_Mo_check_211 (by decide) (fun h487 => ?_) (fun h487 => ?_)
                                  · replace hp := hp.1 h487
                                    replace hF := hF.trans (if_pos h487)
                                    refine j_iconst X (v := 0) d_Mo_check_218 (by decide) ?_
                                    exact j_iret X hr hk (by rw [hF]) rfl d_Mo_check_219
                                  · replace hp := hp.2 h487
                                    replace hF := hF.trans (if_neg h487)
                                    refine j_iconst X (v := 3) d_Mo_check_214 (by decide) ?_
                                    refine j_goto X (tgt := 219) d_Mo_check_215 (by decide) ?_
                                    exact j_iret X hr hk (by rw [hF]) rfl d_Mo_check_219
                                · replace hp := hp.1 h480
                                  replace hF := hF.trans (if_pos h480)
                                  refine j_aload_n X d_Mo_check_186 3 rfl ?_
                                  refine j_get X fd_Mo_72_Mo 124 (by omega) y_Mo rfl d_Mo_check_187 ?_
                                  refine j_aload_n X d_Mo_check_190 3 rfl ?_
                                  refine j_get X fd_Mo_60_Mo 124 (by omega) y_Mo rfl d_Mo_check_191 ?_
                                  refine j_icmp_ne X (tgt := 200) d_Mo_check_194 (by decide) (fun h481 => ?_) (fun h481 => ?_)
                                  · replace hp := hp.2 h481
                                    replace hF := hF.trans (if_neg h481)
                                    refine j_aload_n X d_Mo_check_200 3 rfl ?_
                                    refine j_get X fd_Mo_75_Mo 124 (by omega) y_Mo rfl d_Mo_check_201 ?_
                                    refine j_iload_n X d_Mo_check_204 2 rfl ?_
                                    refine j_callP (st := [.int (gI S 124 17)]) X hY_Mo_grows (c_Mo_grows l ((gR S 125 (gI S 124 13).toNatClampNeg) &&& 31) ) mw_671 hT_Mo_grows rfl rfl (Nat.le_of_ble_eq_true rfl) d_Mo_check_205 rfl rfl ⟨by decide, by decide⟩ ⟨Nat.zero_le _, Nat.zero_le _⟩ (j_st (st' := [.int (f_Mo_grows ((gR S 125 (gI S 124 13).toNatClampNeg) &&& 31)), .int (gI S 124 17)]) rfl ?_)
                                    refine j_topi (fun r482 e483 => ?_)
                                    replace hp := hp r482 e483
                                    replace hF := hF.trans (px_let_eq e483)
                                    refine j_iadd X d_Mo_check_208 ?_
                                    refine j_bipush X (v := 24) d_Mo_check_209 (by decide) ?_
                                    refine j_icmp_le X (tgt := 218) d_Mo_check_211 (by decide) (fun h484 => ?_) (fun h484 => ?_)
                                    · replace hp := hp.1 h484
                                      replace hF := hF.trans (if_pos h484)
                                      refine j_iconst X (v := 0) d_Mo_check_218 (by decide) ?_
                                      exact j_iret X hr hk (by rw [hF]) rfl d_Mo_check_219
                                    · replace hp := hp.2 h484
                                      replace hF := hF.trans (if_neg h484)
                                      refine j_iconst X (v := 3) d_Mo_check_214 (by decide) ?_
                                      refine j_goto X (tgt := 219) d_Mo_check_215 (by decide) ?_
                                      exact j_iret X hr hk (by rw [hF]) rfl d_Mo_check_219
                                  · replace hp := hp.1 h481
                                    replace hF := hF.trans (if_pos h481)
                                    refine j_bipush X (v := 7) d_Mo_check_197 (by decide) ?_
                                    exact j_iret X hr hk (by rw [hF]) rfl d_Mo_check_199
                              · replace hp := hp.1 h470
                                replace hF := hF.trans (if_pos h470)
                                refine j_iload_n X d_Mo_check_172 1 rfl ?_
                                refine j_iconst X (v := 1) d_Mo_check_173 (by decide) ?_
                                refine j_icmp_ge X (tgt := 180) d_Mo_check_174 (by decide) (fun h471 => ?_) (fun h471 => ?_)
                                · replace hp := hp.1 h471
                                  replace hF := hF.trans (if_pos h471)
                                  refine j_iload_n X d_Mo_check_180 2 rfl ?_
                                  refine j_bipush X (v := 18) d_Mo_check_181 (by decide) ?_
                                  refine j_icmp_ne X (tgt := 200) d_Mo_check_183 (by decide) (fun h472 => ?_) (fun h472 => ?_)
                                  · replace hp := hp.2 h472
                                    replace hF := hF.trans (if_neg h472)
                                    refine j_aload_n X d_Mo_check_200 3 rfl ?_
                                    refine j_get X fd_Mo_75_Mo 124 (by omega) y_Mo rfl d_Mo_check_201 ?_
                                    refine j_iload_n X d_Mo_check_204 2 rfl ?_
                                    refine j_callP (st := [.int (gI S 124 17)]) X hY_Mo_grows (c_Mo_grows l ((gR S 125 (gI S 124 13).toNatClampNeg) &&& 31) ) mw_671 hT_Mo_grows rfl rfl (Nat.le_of_ble_eq_true rfl) d_Mo_check_205 rfl rfl ⟨by decide, by decide⟩ ⟨Nat.zero_le _, Nat.zero_le _⟩ (j_st (st' := [.int (f_Mo_grows ((gR S 125 (gI S 124 13).toNatClampNeg) &&& 31)), .int (gI S 124 17)]) rfl ?_)
                                    refine j_topi (fun r477 e478 => ?_)
                                    replace hp := hp r477 e478
                                    replace hF := hF.trans (px_let_eq e478)
                                    refine j_iadd X d_Mo_check_208 ?_
                                    refine j_bipush X (v := 24) d_Mo_check_209 (by decide) ?_
                                    refine j_icmp_le X (tgt := 218) d_Mo_check_211 (by decide) (fun h479 => ?_) (fun h479 => ?_)
                                    · replace hp := hp.1 h479
                                      replace hF := hF.trans (if_pos h479)
                                      refine j_iconst X (v := 0) d_Mo_check_218 (by decide) ?_
                                      exact j_iret X hr hk (by rw [hF]) rfl d_Mo_check_219
                                    · replace hp := hp.2 h479
                                      replace hF := hF.trans (if_neg h479)
                                      refine j_iconst X (v := 3) d_Mo_check_214 (by decide) ?_
                                      refine j_goto X (tgt := 219) d_Mo_check_215 (by decide) ?_
                                      exact j_iret X hr hk (by rw [hF]) rfl d_Mo_check_219
                                  · replace hp := hp.1 h472
                                    replace hF := hF.trans (if_pos h472)
                                    refine j_aload_n X d_Mo_check_186 3 rfl ?_
                                    refine j_get X fd_Mo_72_Mo 124 (by omega) y_Mo rfl d_Mo_check_187 ?_
                                    refine j_aload_n X d_Mo_check_190 3 rfl ?_
                                    refine j_get X fd_Mo_60_Mo 124 (by omega) y_Mo rfl d_Mo_check_191 ?_
                                    refine j_icmp_ne X (tgt := 200) d_Mo_check_194 (by decide) (fun h473 => ?_) (fun h473 => ?_)
                                    · replace hp := hp.2 h473
                                      replace hF := hF.trans (if_neg h473)
                                      refine j_aload_n X d_Mo_check_200 3 rfl ?_
                                      refine j_get X fd_Mo_75_Mo 124 (by omega) y_Mo rfl d_Mo_check_201 ?_
                                      refine j_iload_n X d_Mo_check_204 2 rfl ?_
                                      refine j_callP (st := [.int (gI S 124 17)]) X hY_Mo_grows (c_Mo_grows l ((gR S 125 (gI S 124 13).toNatClampNeg) &&& 31) ) mw_671 hT_Mo_grows rfl rfl (Nat.le_of_ble_eq_true rfl) d_Mo_check_205 rfl rfl ⟨by decide, by decide⟩ ⟨Nat.zero_le _, Nat.zero_le _⟩ (j_st (st' := [.int (f_Mo_grows ((gR S 125 (gI S 124 13).toNatClampNeg) &&& 31)), .int (gI S 124 17)]) rfl ?_)
                                      refine j_topi (fun r474 e475 => ?_)
                                      replace hp := hp r474 e475
                                      replace hF := hF.trans (px_let_eq e475)
                                      refine j_iadd X d_Mo_check_208 ?_
                                      refine j_bipush X (v := 24) d_Mo_check_209 (by decide) ?_
                                      refine j_icmp_le X (tgt := 218) d_Mo_check_211 (by decide) (fun h476 => ?_) (fun h476 => ?_)
                                      · replace hp := hp.1 h476
                                        replace hF := hF.trans (if_pos h476)
                                        refine j_iconst X (v := 0) d_Mo_check_218 (by decide) ?_
                                        exact j_iret X hr hk (by rw [hF]) rfl d_Mo_check_219
                                      · replace hp := hp.2 h476
                                        replace hF := hF.trans (if_neg h476)
                                        refine j_iconst X (v := 3) d_Mo_check_214 (by decide) ?_
                                        refine j_goto X (tgt := 219) d_Mo_check_215 (by decide) ?_
                                        exact j_iret X hr hk (by rw [hF]) rfl d_Mo_check_219
                                    · replace hp := hp.1 h473
                                      replace hF := hF.trans (if_pos h473)
                                      refine j_bipush X (v := 7) d_Mo_check_197 (by decide) ?_
                                      exact j_iret X hr hk (by rw [hF]) rfl d_Mo_check_199
                                · replace hp := hp.2 h471
                                  replace hF := hF.trans (if_neg h471)
                                  refine j_bipush X (v := 6) d_Mo_check_177 (by decide) ?_
                                  exact j_iret X hr hk (by rw [hF]) rfl d_Mo_check_179
                        · replace hp := hp.2 h467
                          replace hF := hF.trans (if_neg h467)
                          refine j_iconst X (v := 4) d_Mo_check_154 (by decide) ?_
                          exact j_iret X hr hk (by rw [hF]) rfl d_Mo_check_155
                    · replace hp := hp.2 h465
                      replace hF := hF.trans (if_neg h465)
                      refine j_iload_n X d_Mo_check_138 2 rfl ?_
                      refine j_bipush X (v := 11) d_Mo_check_139 (by decide) ?_
                      refine j_icmp_ne X (tgt := 156) d_Mo_check_141 (by decide) (fun h506 => ?_) (fun h506 => ?_)
                      · replace hp := hp.2 h506
                        replace hF := hF.trans (if_neg h506)
                        refine j_iload_n X d_Mo_check_156 2 rfl ?_
                        refine j_bipush X (v := 8) d_Mo_check_157 (by decide) ?_
                        refine j_icmp_ne X (tgt := 166) d_Mo_check_159 (by decide) (fun h547 => ?_) (fun h547 => ?_)
                        · replace hp := hp.2 h547
                          replace hF := hF.trans (if_neg h547)
                          refine j_iload_n X d_Mo_check_166 2 rfl ?_
                          refine j_bipush X (v := 19) d_Mo_check_167 (by decide) ?_
                          refine j_icmp_ne X (tgt := 180) d_Mo_check_169 (by decide) (fun h567 => ?_) (fun h567 => ?_)
                          · replace hp := hp.2 h567
                            replace hF := hF.trans (if_neg h567)
                            refine j_iload_n X d_Mo_check_180 2 rfl ?_
                            refine j_bipush X (v := 18) d_Mo_check_181 (by decide) ?_
                            refine j_icmp_ne X (tgt := 200) d_Mo_check_183 (by decide) (fun h577 => ?_) (fun h577 => ?_)
                            · replace hp := hp.2 h577
                              replace hF := hF.trans (if_neg h577)
                              refine j_aload_n X d_Mo_check_200 3 rfl ?_
                              refine j_get X fd_Mo_75_Mo 124 (by omega) y_Mo rfl d_Mo_check_201 ?_
                              refine j_iload_n X d_Mo_check_204 2 rfl ?_
                              refine j_callP (st := [.int (gI S 124 17)]) X hY_Mo_grows (c_Mo_grows l ((gR S 125 (gI S 124 13).toNatClampNeg) &&& 31) ) mw_671 hT_Mo_grows rfl rfl (Nat.le_of_ble_eq_true rfl) d_Mo_check_205 rfl rfl ⟨by decide, by decide⟩ ⟨Nat.zero_le _, Nat.zero_le _⟩ (j_st (st' := [.int (f_Mo_grows ((gR S 125 (gI S 124 13).toNatClampNeg) &&& 31)), .int (gI S 124 17)]) rfl ?_)
                              refine j_topi (fun r582 e583 => ?_)
                              replace hp := hp r582 e583
                              replace hF := hF.trans (px_let_eq e583)
                              refine j_iadd X d_Mo_check_208 ?_
                              refine j_bipush X (v := 24) d_Mo_check_209 (by decide) ?_
                              refine j_icmp_le X (tgt := 218) d_Mo_check_211 (by decide) (fun h584 => ?_) (fun h584 => ?_)
                              · replace hp := hp.1 h584
                                replace hF := hF.trans (if_pos h584)
                                refine j_iconst X (v := 0) d_Mo_check_218 (by decide) ?_
                                exact j_iret X hr hk (by rw [hF]) rfl d_Mo_check_219
                              · replace hp := hp.2 h584
                                replace hF := hF.trans (if_neg h584)
                                refine j_iconst X (v := 3) d_Mo_check_214 (by decide) ?_
                                refine j_goto X (tgt := 219) d_Mo_check_215 (by decide) ?_
                                exact j_iret X hr hk (by rw [hF]) rfl d_Mo_check_219
                            · replace hp := hp.1 h577
                              replace hF := hF.trans (if_pos h577)
                              refine j_aload_n X d_Mo_check_186 3 rfl ?_
                              refine j_get X fd_Mo_72_Mo 124 (by omega) y_Mo rfl d_Mo_check_187 ?_
                              refine j_aload_n X d_Mo_check_190 3 rfl ?_
                              refine j_get X fd_Mo_60_Mo 124 (by omega) y_Mo rfl d_Mo_check_191 ?_
                              refine j_icmp_ne X (tgt := 200) d_Mo_check_194 (by decide) (fun h578 => ?_) (fun h578 => ?_)
                              · replace hp := hp.2 h578
                                replace hF := hF.trans (if_neg h578)
                                refine j_aload_n X d_Mo_check_200 3 rfl ?_
                                refine j_get X fd_Mo_75_Mo 124 (by omega) y_Mo rfl d_Mo_check_201 ?_
                                refine j_iload_n X d_Mo_check_204 2 rfl ?_
                                refine j_callP (st := [.int (gI S 124 17)]) X hY_Mo_grows (c_Mo_grows l ((gR S 125 (gI S 124 13).toNatClampNeg) &&& 31) ) mw_671 hT_Mo_grows rfl rfl (Nat.le_of_ble_eq_true rfl) d_Mo_check_205 rfl rfl ⟨by decide, by decide⟩ ⟨Nat.zero_le _, Nat.zero_le _⟩ (j_st (st' := [.int (f_Mo_grows ((gR S 125 (gI S 124 13).toNatClampNeg) &&& 31)), .int (gI S 124 17)]) rfl ?_)
                                refine j_topi (fun r579 e580 => ?_)
                                replace hp := hp r579 e580
                                replace hF := hF.trans (px_let_eq e580)
                                refine j_iadd X d_Mo_check_208 ?_
                                refine j_bipush X (v := 24) d_Mo_check_209 (by decide) ?_
                                refine j_icmp_le X (tgt := 218) d_Mo_check_211 (by decide) (fun h581 => ?_) (fun h581 => ?_)
                                · replace hp := hp.1 h581
                                  replace hF := hF.trans (if_pos h581)
                                  refine j_iconst X (v := 0) d_Mo_check_218 (by decide) ?_
                                  exact j_iret X hr hk (by rw [hF]) rfl d_Mo_check_219
                                · replace hp := hp.2 h581
                                  replace hF := hF.trans (if_neg h581)
                                  refine j_iconst X (v := 3) d_Mo_check_214 (by decide) ?_
                                  refine j_goto X (tgt := 219) d_Mo_check_215 (by decide) ?_
                                  exact j_iret X hr hk (by rw [hF]) rfl d_Mo_check_219
                              · replace hp := hp.1 h578
                                replace hF := hF.trans (if_pos h578)
                                refine j_bipush X (v := 7) d_Mo_check_197 (by decide) ?_
                                exact j_iret X hr hk (by rw [hF]) rfl d_Mo_check_199
                          · replace hp := hp.1 h567
                            replace hF := hF.trans (if_pos h567)
                            refine j_iload_n X d_Mo_check_172 1 rfl ?_
                            refine j_iconst X (v := 1) d_Mo_check_173 (by decide) ?_
                            refine j_icmp_ge X (tgt := 180) d_Mo_check_174 (by decide) (fun h568 => ?_) (fun h568 => ?_)
                            · replace hp := hp.1 h568
                              replace hF := hF.trans (if_pos h568)
                              refine j_iload_n X d_Mo_check_180 2 rfl ?_
                              refine j_bipush X (v := 18) d_Mo_check_181 (by decide) ?_
                              refine j_icmp_ne X (tgt := 200) d_Mo_check_183 (by decide) (fun h569 => ?_) (fun h569 => ?_)
                              · replace hp := hp.2 h569
                                replace hF := hF.trans (if_neg h569)
                                refine j_aload_n X d_Mo_check_200 3 rfl ?_
                                refine j_get X fd_Mo_75_Mo 124 (by omega) y_Mo rfl d_Mo_check_201 ?_
                                refine j_iload_n X d_Mo_check_204 2 rfl ?_
                                refine j_callP (st := [.int (gI S 124 17)]) X hY_Mo_grows (c_Mo_grows l ((gR S 125 (gI S 124 13).toNatClampNeg) &&& 31) ) mw_671 hT_Mo_grows rfl rfl (Nat.le_of_ble_eq_true rfl) d_Mo_check_205 rfl rfl ⟨by decide, by decide⟩ ⟨Nat.zero_le _, Nat.zero_le _⟩ (j_st (st' := [.int (f_Mo_grows ((gR S 125 (gI S 124 13).toNatClampNeg) &&& 31)), .int (gI S 124 17)]) rfl ?_)
                                refine j_topi (fun r574 e575 => ?_)
                                replace hp := hp r574 e575
                                replace hF := hF.trans (px_let_eq e575)
                                refine j_iadd X d_Mo_check_208 ?_
                                refine j_bipush X (v := 24) d_Mo_check_209 (by decide) ?_
                                refine j_icmp_le X (tgt := 218) d_Mo_check_211 (by decide) (fun h576 => ?_) (fun h576 => ?_)
                                · replace hp := hp.1 h576
                                  replace hF := hF.trans (if_pos h576)
                                  refine j_iconst X (v := 0) d_Mo_check_218 (by decide) ?_
                                  exact j_iret X hr hk (by rw [hF]) rfl d_Mo_check_219
                                · replace hp := hp.2 h576
                                  replace hF := hF.trans (if_neg h576)
                                  refine j_iconst X (v := 3) d_Mo_check_214 (by decide) ?_
                                  refine j_goto X (tgt := 219) d_Mo_check_215 (by decide) ?_
                                  exact j_iret X hr hk (by rw [hF]) rfl d_Mo_check_219
                              · replace hp := hp.1 h569
                                replace hF := hF.trans (if_pos h569)
                                refine j_aload_n X d_Mo_check_186 3 rfl ?_
                                refine j_get X fd_Mo_72_Mo 124 (by omega) y_Mo rfl d_Mo_check_187 ?_
                                refine j_aload_n X d_Mo_check_190 3 rfl ?_
                                refine j_get X fd_Mo_60_Mo 124 (by omega) y_Mo rfl d_Mo_check_191 ?_
                                refine j_icmp_ne X (tgt := 200) d_Mo_check_194 (by decide) (fun h570 => ?_) (fun h570 => ?_)
                                · replace hp := hp.2 h570
                                  replace hF := hF.trans (if_neg h570)
                                  refine j_aload_n X d_Mo_check_200 3 rfl ?_
                                  refine j_get X fd_Mo_75_Mo 124 (by omega) y_Mo rfl d_Mo_check_201 ?_
                                  refine j_iload_n X d_Mo_check_204 2 rfl ?_
                                  refine j_callP (st := [.int (gI S 124 17)]) X hY_Mo_grows (c_Mo_grows l ((gR S 125 (gI S 124 13).toNatClampNeg) &&& 31) ) mw_671 hT_Mo_grows rfl rfl (Nat.le_of_ble_eq_true rfl) d_Mo_check_205 rfl rfl ⟨by decide, by decide⟩ ⟨Nat.zero_le _, Nat.zero_le _⟩ (j_st (st' := [.int (f_Mo_grows ((gR S 125 (gI S 124 13).toNatClampNeg) &&& 31)), .int (gI S 124 17)]) rfl ?_)
                                  refine j_topi (fun r571 e572 => ?_)
                                  replace hp := hp r571 e572
                                  replace hF := hF.trans (px_let_eq e572)
                                  refine j_iadd X d_Mo_check_208 ?_
                                  refine j_bipush X (v := 24) d_Mo_check_209 (by decide) ?_
                                  refine j_icmp_le X (tgt := 218) d_Mo_check_211 (by decide) (fun h573 => ?_) (fun h573 => ?_)
                                  · replace hp := hp.1 h573
                                    replace hF := hF.trans (if_pos h573)
                                    refine j_iconst X (v := 0) d_Mo_check_218 (by decide) ?_
                                    exact j_iret X hr hk (by rw [hF]) rfl d_Mo_check_219
                                  · replace hp := hp.2 h573
                                    replace hF := hF.trans (if_neg h573)
                                    refine j_iconst X (v := 3) d_Mo_check_214 (by decide) ?_
                                    refine j_goto X (tgt := 219) d_Mo_check_215 (by decide) ?_
                                    exact j_iret X hr hk (by rw [hF]) rfl d_Mo_check_219
                                · replace hp := hp.1 h570
                                  replace hF := hF.trans (if_pos h570)
                                  refine j_bipush X (v := 7) d_Mo_check_197 (by decide) ?_
                                  exact j_iret X hr hk (by rw [hF]) rfl d_Mo_check_199
                            · replace hp := hp.2 h568
                              replace hF := hF.trans (if_neg h568)
                              refine j_bipush X (v := 6) d_Mo_check_177 (by decide) ?_
                              exact j_iret X hr hk (by rw [hF]) rfl d_Mo_check_179
                        · replace hp := hp.1 h547
                          replace hF := hF.trans (if_pos h547)
                          refine j_iload_n X d_Mo_check_162 0 rfl ?_
                          refine j_if_eq X (tgt := 177) d_Mo_check_163 (by decide) (fun h548 => ?_) (fun h548 => ?_)
                          · replace hp := hp.1 h548
                            replace hF := hF.trans (if_pos h548)
                            refine j_bipush X (v := 6) d_Mo_check_177 (by decide) ?_
                            exact j_iret X hr hk (by rw [hF]) rfl d_Mo_check_179
                          · replace hp := hp.2 h548
                            replace hF := hF.trans (if_neg h548)
                            refine j_iload_n X d_Mo_check_166 2 rfl ?_
                            refine j_bipush X (v := 19) d_Mo_check_167 (by decide) ?_
                            refine j_icmp_ne X (tgt := 180) d_Mo_check_169 (by decide) (fun h549 => ?_) (fun h549 => ?_)
                            · replace hp := hp.2 h549
                              replace hF := hF.trans (if_neg h549)
                              refine j_iload_n X d_Mo_check_180 2 rfl ?_
                              refine j_bipush X (v := 18) d_Mo_check_181 (by decide) ?_
                              refine j_icmp_ne X (tgt := 200) d_Mo_check_183 (by decide) (fun h559 => ?_) (fun h559 => ?_)
                              · replace hp := hp.2 h559
                                replace hF := hF.trans (if_neg h559)
                                refine j_aload_n X d_Mo_check_200 3 rfl ?_
                                refine j_get X fd_Mo_75_Mo 124 (by omega) y_Mo rfl d_Mo_check_201 ?_
                                refine j_iload_n X d_Mo_check_204 2 rfl ?_
                                refine j_callP (st := [.int (gI S 124 17)]) X hY_Mo_grows (c_Mo_grows l ((gR S 125 (gI S 124 13).toNatClampNeg) &&& 31) ) mw_671 hT_Mo_grows rfl rfl (Nat.le_of_ble_eq_true rfl) d_Mo_check_205 rfl rfl ⟨by decide, by decide⟩ ⟨Nat.zero_le _, Nat.zero_le _⟩ (j_st (st' := [.int (f_Mo_grows ((gR S 125 (gI S 124 13).toNatClampNeg) &&& 31)), .int (gI S 124 17)]) rfl ?_)
                                refine j_topi (fun r564 e565 => ?_)
                                replace hp := hp r564 e565
                                replace hF := hF.trans (px_let_eq e565)
                                refine j_iadd X d_Mo_check_208 ?_
                                refine j_bipush X (v := 24) d_Mo_check_209 (by decide) ?_
                                refine j_icmp_le X (tgt := 218) d_Mo_check_211 (by decide) (fun h566 => ?_) (fun h566 => ?_)
                                · replace hp := hp.1 h566
                                  replace hF := hF.trans (if_pos h566)
                                  refine j_iconst X (v := 0) d_Mo_check_218 (by decide) ?_
                                  exact j_iret X hr hk (by rw [hF]) rfl d_Mo_check_219
                                · replace hp := hp.2 h566
                                  replace hF := hF.trans (if_neg h566)
                                  refine j_iconst X (v := 3) d_Mo_check_214 (by decide) ?_
                                  refine j_goto X (tgt := 219) d_Mo_check_215 (by decide) ?_
                                  exact j_iret X hr hk (by rw [hF]) rfl d_Mo_check_219
                              · replace hp := hp.1 h559
                                replace hF := hF.trans (if_pos h559)
                                refine j_aload_n X d_Mo_check_186 3 rfl ?_
                                refine j_get X fd_Mo_72_Mo 124 (by omega) y_Mo rfl d_Mo_check_187 ?_
                                refine j_aload_n X d_Mo_check_190 3 rfl ?_
                                refine j_get X fd_Mo_60_Mo 124 (by omega) y_Mo rfl d_Mo_check_191 ?_
                                refine j_icmp_ne X (tgt := 200) d_Mo_check_194 (by decide) (fun h560 => ?_) (fun h560 => ?_)
                                · replace hp := hp.2 h560
                                  replace hF := hF.trans (if_neg h560)
                                  refine j_aload_n X d_Mo_check_200 3 rfl ?_
                                  refine j_get X fd_Mo_75_Mo 124 (by omega) y_Mo rfl d_Mo_check_201 ?_
                                  refine j_iload_n X d_Mo_check_204 2 rfl ?_
                                  refine j_callP (st := [.int (gI S 124 17)]) X hY_Mo_grows (c_Mo_grows l ((gR S 125 (gI S 124 13).toNatClampNeg) &&& 31) ) mw_671 hT_Mo_grows rfl rfl (Nat.le_of_ble_eq_true rfl) d_Mo_check_205 rfl rfl ⟨by decide, by decide⟩ ⟨Nat.zero_le _, Nat.zero_le _⟩ (j_st (st' := [.int (f_Mo_grows ((gR S 125 (gI S 124 13).toNatClampNeg) &&& 31)), .int (gI S 124 17)]) rfl ?_)
                                  refine j_topi (fun r561 e562 => ?_)
                                  replace hp := hp r561 e562
                                  replace hF := hF.trans (px_let_eq e562)
                                  refine j_iadd X d_Mo_check_208 ?_
                                  refine j_bipush X (v := 24) d_Mo_check_209 (by decide) ?_
                                  refine j_icmp_le X (tgt := 218) d_Mo_check_211 (by decide) (fun h563 => ?_) (fun h563 => ?_)
                                  · replace hp := hp.1 h563
                                    replace hF := hF.trans (if_pos h563)
                                    refine j_iconst X (v := 0) d_Mo_check_218 (by decide) ?_
                                    exact j_iret X hr hk (by rw [hF]) rfl d_Mo_check_219
                                  · replace hp := hp.2 h563
                                    replace hF := hF.trans (if_neg h563)
                                    refine j_iconst X (v := 3) d_Mo_check_214 (by decide) ?_
                                    refine j_goto X (tgt := 219) d_Mo_check_215 (by decide) ?_
                                    exact j_iret X hr hk (by rw [hF]) rfl d_Mo_check_219
                                · replace hp := hp.1 h560
                                  replace hF := hF.trans (if_pos h560)
                                  refine j_bipush X (v := 7) d_Mo_check_197 (by decide) ?_
                                  exact j_iret X hr hk (by rw [hF]) rfl d_Mo_check_199
                            · replace hp := hp.1 h549
                              replace hF := hF.trans (if_pos h549)
                              refine j_iload_n X d_Mo_check_172 1 rfl ?_
                              refine j_iconst X (v := 1) d_Mo_check_173 (by decide) ?_
                              refine j_icmp_ge X (tgt := 180) d_Mo_check_174 (by decide) (fun h550 => ?_) (fun h550 => ?_)
                              · replace hp := hp.1 h550
                                replace hF := hF.trans (if_pos h550)
                                refine j_iload_n X d_Mo_check_180 2 rfl ?_
                                refine j_bipush X (v := 18) d_Mo_check_181 (by decide) ?_
                                refine j_icmp_ne X (tgt := 200) d_Mo_check_183 (by decide) (fun h551 => ?_) (fun h551 => ?_)
                                · replace hp := hp.2 h551
                                  replace hF := hF.trans (if_neg h551)
                                  refine j_aload_n X d_Mo_check_200 3 rfl ?_
                                  refine j_get X fd_Mo_75_Mo 124 (by omega) y_Mo rfl d_Mo_check_201 ?_
                                  refine j_iload_n X d_Mo_check_204 2 rfl ?_
                                  refine j_callP (st := [.int (gI S 124 17)]) X hY_Mo_grows (c_Mo_grows l ((gR S 125 (gI S 124 13).toNatClampNeg) &&& 31) ) mw_671 hT_Mo_grows rfl rfl (Nat.le_of_ble_eq_true rfl) d_Mo_check_205 rfl rfl ⟨by decide, by decide⟩ ⟨Nat.zero_le _, Nat.zero_le _⟩ (j_st (st' := [.int (f_Mo_grows ((gR S 125 (gI S 124 13).toNatClampNeg) &&& 31)), .int (gI S 124 17)]) rfl ?_)
                                  refine j_topi (fun r556 e557 => ?_)
                                  replace hp := hp r556 e557
                                  replace hF := hF.trans (px_let_eq e557)
                                  refine j_iadd X d_Mo_check_208 ?_
                                  refine j_bipush X (v := 24) d_Mo_check_209 (by decide) ?_
                                  refine j_icmp_le X (tgt := 218) d_Mo_check_211 (by decide) (fun h558 => ?_) (fun h558 => ?_)
                                  · replace hp := hp.1 h558
                                    replace hF := hF.trans (if_pos h558)
                                    refine j_iconst X (v := 0) d_Mo_check_218 (by decide) ?_
                                    exact j_iret X hr hk (by rw [hF]) rfl d_Mo_check_219
                                  · replace hp := hp.2 h558
                                    replace hF := hF.trans (if_neg h558)
                                    refine j_iconst X (v := 3) d_Mo_check_214 (by decide) ?_
                                    refine j_goto X (tgt := 219) d_Mo_check_215 (by decide) ?_
                                    exact j_iret X hr hk (by rw [hF]) rfl d_Mo_check_219
                                · replace hp := hp.1 h551
                                  replace hF := hF.trans (if_pos h551)
                                  refine j_aload_n X d_Mo_check_186 3 rfl ?_
                                  refine j_get X fd_Mo_72_Mo 124 (by omega) y_Mo rfl d_Mo_check_187 ?_
                                  refine j_aload_n X d_Mo_check_190 3 rfl ?_
                                  refine j_get X fd_Mo_60_Mo 124 (by omega) y_Mo rfl d_Mo_check_191 ?_
                                  refine j_icmp_ne X (tgt := 200) d_Mo_check_194 (by decide) (fun h552 => ?_) (fun h552 => ?_)
                                  · replace hp := hp.2 h552
                                    replace hF := hF.trans (if_neg h552)
                                    refine j_aload_n X d_Mo_check_200 3 rfl ?_
                                    refine j_get X fd_Mo_75_Mo 124 (by omega) y_Mo rfl d_Mo_check_201 ?_
                                    refine j_iload_n X d_Mo_check_204 2 rfl ?_
                                    refine j_callP (st := [.int (gI S 124 17)]) X hY_Mo_grows (c_Mo_grows l ((gR S 125 (gI S 124 13).toNatClampNeg) &&& 31) ) mw_671 hT_Mo_grows rfl rfl (Nat.le_of_ble_eq_true rfl) d_Mo_check_205 rfl rfl ⟨by decide, by decide⟩ ⟨Nat.zero_le _, Nat.zero_le _⟩ (j_st (st' := [.int (f_Mo_grows ((gR S 125 (gI S 124 13).toNatClampNeg) &&& 31)), .int (gI S 124 17)]) rfl ?_)
                                    refine j_topi (fun r553 e554 => ?_)
                                    replace hp := hp r553 e554
                                    replace hF := hF.trans (px_let_eq e554)
                                    refine j_iadd X d_Mo_check_208 ?_
                                    refine j_bipush X (v := 24) d_Mo_check_209 (by decide) ?_
                                    refine j_icmp_le X (tgt := 218) d_Mo_check_211 (by decide) (fun h555 => ?_) (fun h555 => ?_)
                                    · replace hp := hp.1 h555
                                      replace hF := hF.trans (if_pos h555)
                                      refine j_iconst X (v := 0) d_Mo_check_218 (by decide) ?_
                                      exact j_iret X hr hk (by rw [hF]) rfl d_Mo_check_219
                                    · replace hp := hp.2 h555
                                      replace hF := hF.trans (if_neg h555)
                                      refine j_iconst X (v := 3) d_Mo_check_214 (by decide) ?_
                                      refine j_goto X (tgt := 219) d_Mo_check_215 (by decide) ?_
                                      exact j_iret X hr hk (by rw [hF]) rfl d_Mo_check_219
                                  · replace hp := hp.1 h552
                                    replace hF := hF.trans (if_pos h552)
                                    refine j_bipush X (v := 7) d_Mo_check_197 (by decide) ?_
                                    exact j_iret X hr hk (by rw [hF]) rfl d_Mo_check_199
                              · replace hp := hp.2 h550
                                replace hF := hF.trans (if_neg h550)
                                refine j_bipush X (v := 6) d_Mo_check_177 (by decide) ?_
                                exact j_iret X hr hk (by rw [hF]) rfl d_Mo_check_179
                      · replace hp := hp.1 h506
                        replace hF := hF.trans (if_pos h506)
                        refine j_iload_n X d_Mo_check_144 0 rfl ?_
                        refine j_if_lt X (tgt := 154) d_Mo_check_145 (by decide) (fun h507 => ?_) (fun h507 => ?_)
                        · replace hp := hp.1 h507
                          replace hF := hF.trans (if_pos h507)
                          refine j_iconst X (v := 4) d_Mo_check_154 (by decide) ?_
                          exact j_iret X hr hk (by rw [hF]) rfl d_Mo_check_155
                        · replace hp := hp.2 h507
                          replace hF := hF.trans (if_neg h507)
                          refine j_iload_n X d_Mo_check_148 0 rfl ?_
                          refine j_bipush X (v := 32) d_Mo_check_149 (by decide) ?_
                          refine j_icmp_lt X (tgt := 156) d_Mo_check_151 (by decide) (fun h508 => ?_) (fun h508 => ?_)
                          · replace hp := hp.1 h508
                            replace hF := hF.trans (if_pos h508)
                            refine j_iload_n X d_Mo_check_156 2 rfl ?_
                            refine j_bipush X (v := 8) d_Mo_check_157 (by decide) ?_
                            refine j_icmp_ne X (tgt := 166) d_Mo_check_159 (by decide) (fun h509 => ?_) (fun h509 => ?_)
                            · replace hp := hp.2 h509
                              replace hF := hF.trans (if_neg h509)
                              refine j_iload_n X d_Mo_check_166 2 rfl ?_
                              refine j_bipush X (v := 19) d_Mo_check_167 (by decide) ?_
                              refine j_icmp_ne X (tgt := 180) d_Mo_check_169 (by decide) (fun h529 => ?_) (fun h529 => ?_)
                              · replace hp := hp.2 h529
                                replace hF := hF.trans (if_neg h529)
                                refine j_iload_n X d_Mo_check_180 2 rfl ?_
                                refine j_bipush X (v := 18) d_Mo_check_181 (by decide) ?_
                                refine j_icmp_ne X (tgt := 200) d_Mo_check_183 (by decide) (fun h539 => ?_) (fun h539 => ?_)
                                · replace hp := hp.2 h539
                                  replace hF := hF.trans (if_neg h539)
                                  refine j_aload_n X d_Mo_check_200 3 rfl ?_
                                  refine j_get X fd_Mo_75_Mo 124 (by omega) y_Mo rfl d_Mo_check_201 ?_
                                  refine j_iload_n X d_Mo_check_204 2 rfl ?_
                                  refine j_callP (st := [.int (gI S 124 17)]) X hY_Mo_grows (c_Mo_grows l ((gR S 125 (gI S 124 13).toNatClampNeg) &&& 31) ) mw_671 hT_Mo_grows rfl rfl (Nat.le_of_ble_eq_true rfl) d_Mo_check_205 rfl rfl ⟨by decide, by decide⟩ ⟨Nat.zero_le _, Nat.zero_le _⟩ (j_st (st' := [.int (f_Mo_grows ((gR S 125 (gI S 124 13).toNatClampNeg) &&& 31)), .int (gI S 124 17)]) rfl ?_)
                                  refine j_topi (fun r544 e545 => ?_)
                                  replace hp := hp r544 e545
                                  replace hF := hF.trans (px_let_eq e545)
                                  refine j_iadd X d_Mo_check_208 ?_
                                  refine j_bipush X (v := 24) d_Mo_check_209 (by decide) ?_
                                  refine j_icmp_le X (tgt := 218) d_Mo_check_211 (by decide) (fun h546 => ?_) (fun h546 => ?_)
                                  · replace hp := hp.1 h546
                                    replace hF := hF.trans (if_pos h546)
                                    refine j_iconst X (v := 0) d_Mo_check_218 (by decide) ?_
                                    exact j_iret X hr hk (by rw [hF]) rfl d_Mo_check_219
                                  · replace hp := hp.2 h546
                                    replace hF := hF.trans (if_neg h546)
                                    refine j_iconst X (v := 3) d_Mo_check_214 (by decide) ?_
                                    refine j_goto X (tgt := 219) d_Mo_check_215 (by decide) ?_
                                    exact j_iret X hr hk (by rw [hF]) rfl d_Mo_check_219
                                · replace hp := hp.1 h539
                                  replace hF := hF.trans (if_pos h539)
                                  refine j_aload_n X d_Mo_check_186 3 rfl ?_
                                  refine j_get X fd_Mo_72_Mo 124 (by omega) y_Mo rfl d_Mo_check_187 ?_
                                  refine j_aload_n X d_Mo_check_190 3 rfl ?_
                                  refine j_get X fd_Mo_60_Mo 124 (by omega) y_Mo rfl d_Mo_check_191 ?_
                                  refine j_icmp_ne X (tgt := 200) d_Mo_check_194 (by decide) (fun h540 => ?_) (fun h540 => ?_)
                                  · replace hp := hp.2 h540
                                    replace hF := hF.trans (if_neg h540)
                                    refine j_aload_n X d_Mo_check_200 3 rfl ?_
                                    refine j_get X fd_Mo_75_Mo 124 (by omega) y_Mo rfl d_Mo_check_201 ?_
                                    refine j_iload_n X d_Mo_check_204 2 rfl ?_
                                    refine j_callP (st := [.int (gI S 124 17)]) X hY_Mo_grows (c_Mo_grows l ((gR S 125 (gI S 124 13).toNatClampNeg) &&& 31) ) mw_671 hT_Mo_grows rfl rfl (Nat.le_of_ble_eq_true rfl) d_Mo_check_205 rfl rfl ⟨by decide, by decide⟩ ⟨Nat.zero_le _, Nat.zero_le _⟩ (j_st (st' := [.int (f_Mo_grows ((gR S 125 (gI S 124 13).toNatClampNeg) &&& 31)), .int (gI S 124 17)]) rfl ?_)
                                    refine j_topi (fun r541 e542 => ?_)
                                    replace hp := hp r541 e542
                                    replace hF := hF.trans (px_let_eq e542)
                                    refine j_iadd X d_Mo_check_208 ?_
                                    refine j_bipush X (v := 24) d_Mo_check_209 (by decide) ?_
                                    refine j_icmp_le X (tgt := 218) d_Mo_check_211 (by decide) (fun h543 => ?_) (fun h543 => ?_)
                                    · replace hp := hp.1 h543
                                      replace hF := hF.trans (if_pos h543)
                                      refine j_iconst X (v := 0) d_Mo_check_218 (by decide) ?_
                                      exact j_iret X hr hk (by rw [hF]) rfl d_Mo_check_219
                                    · replace hp := hp.2 h543
                                      replace hF := hF.trans (if_neg h543)
                                      refine j_iconst X (v := 3) d_Mo_check_214 (by decide) ?_
                                      refine j_goto X (tgt := 219) d_Mo_check_215 (by decide) ?_
                                      exact j_iret X hr hk (by rw [hF]) rfl d_Mo_check_219
                                  · replace hp := hp.1 h540
                                    replace hF := hF.trans (if_pos h540)
                                    refine j_bipush X (v := 7) d_Mo_check_197 (by decide) ?_
                                    exact j_iret X hr hk (by rw [hF]) rfl d_Mo_check_199
                              · replace hp := hp.1 h529
                                replace hF := hF.trans (if_pos h529)
                                refine j_iload_n X d_Mo_check_172 1 rfl ?_
                                refine j_iconst X (v := 1) d_Mo_check_173 (by decide) ?_
                                refine j_icmp_ge X (tgt := 180) d_Mo_check_174 (by decide) (fun h530 => ?_) (fun h530 => ?_)
                                · replace hp := hp.1 h530
                                  replace hF := hF.trans (if_pos h530)
                                  refine j_iload_n X d_Mo_check_180 2 rfl ?_
                                  refine j_bipush X (v := 18) d_Mo_check_181 (by decide) ?_
                                  refine j_icmp_ne X (tgt := 200) d_Mo_check_183 (by decide) (fun h531 => ?_) (fun h531 => ?_)
                                  · replace hp := hp.2 h531
                                    replace hF := hF.trans (if_neg h531)
                                    refine j_aload_n X d_Mo_check_200 3 rfl ?_
                                    refine j_get X fd_Mo_75_Mo 124 (by omega) y_Mo rfl d_Mo_check_201 ?_
                                    refine j_iload_n X d_Mo_check_204 2 rfl ?_
                                    refine j_callP (st := [.int (gI S 124 17)]) X hY_Mo_grows (c_Mo_grows l ((gR S 125 (gI S 124 13).toNatClampNeg) &&& 31) ) mw_671 hT_Mo_grows rfl rfl (Nat.le_of_ble_eq_true rfl) d_Mo_check_205 rfl rfl ⟨by decide, by decide⟩ ⟨Nat.zero_le _, Nat.zero_le _⟩ (j_st (st' := [.int (f_Mo_grows ((gR S 125 (gI S 124 13).toNatClampNeg) &&& 31)), .int (gI S 124 17)]) rfl ?_)
                                    refine j_topi (fun r536 e537 => ?_)
                                    replace hp := hp r536 e537
                                    replace hF := hF.trans (px_let_eq e537)
                                    refine j_iadd X d_Mo_check_208 ?_
                                    refine j_bipush X (v := 24) d_Mo_check_209 (by decide) ?_
                                    refine j_icmp_le X (tgt := 218) d_Mo_check_211 (by decide) (fun h538 => ?_) (fun h538 => ?_)
                                    · replace hp := hp.1 h538
                                      replace hF := hF.trans (if_pos h538)
                                      refine j_iconst X (v := 0) d_Mo_check_218 (by decide) ?_
                                      exact j_iret X hr hk (by rw [hF]) rfl d_Mo_check_219
                                    · replace hp := hp.2 h538
                                      replace hF := hF.trans (if_neg h538)
                                      refine j_iconst X (v := 3) d_Mo_check_214 (by decide) ?_
                                      refine j_goto X (tgt := 219) d_Mo_check_215 (by decide) ?_
                                      exact j_iret X hr hk (by rw [hF]) rfl d_Mo_check_219
                                  · replace hp := hp.1 h531
                                    replace hF := hF.trans (if_pos h531)
                                    refine j_aload_n X d_Mo_check_186 3 rfl ?_
                                    refine j_get X fd_Mo_72_Mo 124 (by omega) y_Mo rfl d_Mo_check_187 ?_
                                    refine j_aload_n X d_Mo_check_190 3 rfl ?_
                                    refine j_get X fd_Mo_60_Mo 124 (by omega) y_Mo rfl d_Mo_check_191 ?_
                                    refine j_icmp_ne X (tgt := 200) d_Mo_check_194 (by decide) (fun h532 => ?_) (fun h532 => ?_)
                                    · replace hp := hp.2 h532
                                      replace hF := hF.trans (if_neg h532)
                                      refine j_aload_n X d_Mo_check_200 3 rfl ?_
                                      refine j_get X fd_Mo_75_Mo 124 (by omega) y_Mo rfl d_Mo_check_201 ?_
                                      refine j_iload_n X d_Mo_check_204 2 rfl ?_
                                      refine j_callP (st := [.int (gI S 124 17)]) X hY_Mo_grows (c_Mo_grows l ((gR S 125 (gI S 124 13).toNatClampNeg) &&& 31) ) mw_671 hT_Mo_grows rfl rfl (Nat.le_of_ble_eq_true rfl) d_Mo_check_205 rfl rfl ⟨by decide, by decide⟩ ⟨Nat.zero_le _, Nat.zero_le _⟩ (j_st (st' := [.int (f_Mo_grows ((gR S 125 (gI S 124 13).toNatClampNeg) &&& 31)), .int (gI S 124 17)]) rfl ?_)
                                      refine j_topi (fun r533 e534 => ?_)
                                      replace hp := hp r533 e534
                                      replace hF := hF.trans (px_let_eq e534)
                                      refine j_iadd X d_Mo_check_208 ?_
                                      refine j_bipush X (v := 24) d_Mo_check_209 (by decide) ?_
                                      refine j_icmp_le X (tgt := 218) d_Mo_check_211 (by decide) (fun h535 => ?_) (fun h535 => ?_)
                                      · replace hp := hp.1 h535
                                        replace hF := hF.trans (if_pos h535)
                                        refine j_iconst X (v := 0) d_Mo_check_218 (by decide) ?_
                                        exact j_iret X hr hk (by rw [hF]) rfl d_Mo_check_219
                                      · replace hp := hp.2 h535
                                        replace hF := hF.trans (if_neg h535)
                                        refine j_iconst X (v := 3) d_Mo_check_214 (by decide) ?_
                                        refine j_goto X (tgt := 219) d_Mo_check_215 (by decide) ?_
                                        exact j_iret X hr hk (by rw [hF]) rfl d_Mo_check_219
                                    · replace hp := hp.1 h532
                                      replace hF := hF.trans (if_pos h532)
                                      refine j_bipush X (v := 7) d_Mo_check_197 (by decide) ?_
                                      exact j_iret X hr hk (by rw [hF]) rfl d_Mo_check_199
                                · replace hp := hp.2 h530
                                  replace hF := hF.trans (if_neg h530)
                                  refine j_bipush X (v := 6) d_Mo_check_177 (by decide) ?_
                                  exact j_iret X hr hk (by rw [hF]) rfl d_Mo_check_179
                            · replace hp := hp.1 h509
                              replace hF := hF.trans (if_pos h509)
                              refine j_iload_n X d_Mo_check_162 0 rfl ?_
                              refine j_if_eq X (tgt := 177) d_Mo_check_163 (by decide) (fun h510 => ?_) (fun h510 => ?_)
                              · replace hp := hp.1 h510
                                replace hF := hF.trans (if_pos h510)
                                refine j_bipush X (v := 6) d_Mo_check_177 (by decide) ?_
                                exact j_iret X hr hk (by rw [hF]) rfl d_Mo_check_179
                              · replace hp := hp.2 h510
                                replace hF := hF.trans (if_neg h510)
                                refine j_iload_n X d_Mo_check_166 2 rfl ?_
                                refine j_bipush X (v := 19) d_Mo_check_167 (by decide) ?_
                                refine j_icmp_ne X (tgt := 180) d_Mo_check_169 (by decide) (fun h511 => ?_) (fun h511 => ?_)
                                · replace hp := hp.2 h511
                                  replace hF := hF.trans (if_neg h511)
                                  refine j_iload_n X d_Mo_check_180 2 rfl ?_
                                  refine j_bipush X (v := 18) d_Mo_check_181 (by decide) ?_
                                  refine j_icmp_ne X (tgt := 200) d_Mo_check_183 (by decide) (fun h521 => ?_) (fun h521 => ?_)
                                  · replace hp := hp.2 h521
                                    replace hF := hF.trans (if_neg h521)
                                    refine j_aload_n X d_Mo_check_200 3 rfl ?_
                                    refine j_get X fd_Mo_75_Mo 124 (by omega) y_Mo rfl d_Mo_check_201 ?_
                                    refine j_iload_n X d_Mo_check_204 2 rfl ?_
                                    refine j_callP (st := [.int (gI S 124 17)]) X hY_Mo_grows (c_Mo_grows l ((gR S 125 (gI S 124 13).toNatClampNeg) &&& 31) ) mw_671 hT_Mo_grows rfl rfl (Nat.le_of_ble_eq_true rfl) d_Mo_check_205 rfl rfl ⟨by decide, by decide⟩ ⟨Nat.zero_le _, Nat.zero_le _⟩ (j_st (st' := [.int (f_Mo_grows ((gR S 125 (gI S 124 13).toNatClampNeg) &&& 31)), .int (gI S 124 17)]) rfl ?_)
                                    refine j_topi (fun r526 e527 => ?_)
                                    replace hp := hp r526 e527
                                    replace hF := hF.trans (px_let_eq e527)
                                    refine j_iadd X d_Mo_check_208 ?_
                                    refine j_bipush X (v := 24) d_Mo_check_209 (by decide) ?_
                                    refine j_icmp_le X (tgt := 218) d_Mo_check_211 (by decide) (fun h528 => ?_) (fun h528 => ?_)
                                    · replace hp := hp.1 h528
                                      replace hF := hF.trans (if_pos h528)
                                      refine j_iconst X (v := 0) d_Mo_check_218 (by decide) ?_
                                      exact j_iret X hr hk (by rw [hF]) rfl d_Mo_check_219
                                    · replace hp := hp.2 h528
                                      replace hF := hF.trans (if_neg h528)
                                      refine j_iconst X (v := 3) d_Mo_check_214 (by decide) ?_
                                      refine j_goto X (tgt := 219) d_Mo_check_215 (by decide) ?_
                                      exact j_iret X hr hk (by rw [hF]) rfl d_Mo_check_219
                                  · replace hp := hp.1 h521
                                    replace hF := hF.trans (if_pos h521)
                                    refine j_aload_n X d_Mo_check_186 3 rfl ?_
                                    refine j_get X fd_Mo_72_Mo 124 (by omega) y_Mo rfl d_Mo_check_187 ?_
                                    refine j_aload_n X d_Mo_check_190 3 rfl ?_
                                    refine j_get X fd_Mo_60_Mo 124 (by omega) y_Mo rfl d_Mo_check_191 ?_
                                    refine j_icmp_ne X (tgt := 200) d_Mo_check_194 (by decide) (fun h522 => ?_) (fun h522 => ?_)
                                    · replace hp := hp.2 h522
                                      replace hF := hF.trans (if_neg h522)
                                      refine j_aload_n X d_Mo_check_200 3 rfl ?_
                                      refine j_get X fd_Mo_75_Mo 124 (by omega) y_Mo rfl d_Mo_check_201 ?_
                                      refine j_iload_n X d_Mo_check_204 2 rfl ?_
                                      refine j_callP (st := [.int (gI S 124 17)]) X hY_Mo_grows (c_Mo_grows l ((gR S 125 (gI S 124 13).toNatClampNeg) &&& 31) ) mw_671 hT_Mo_grows rfl rfl (Nat.le_of_ble_eq_true rfl) d_Mo_check_205 rfl rfl ⟨by decide, by decide⟩ ⟨Nat.zero_le _, Nat.zero_le _⟩ (j_st (st' := [.int (f_Mo_grows ((gR S 125 (gI S 124 13).toNatClampNeg) &&& 31)), .int (gI S 124 17)]) rfl ?_)
                                      refine j_topi (fun r523 e524 => ?_)
                                      replace hp := hp r523 e524
                                      replace hF := hF.trans (px_let_eq e524)
                                      refine j_iadd X d_Mo_check_208 ?_
                                      refine j_bipush X (v := 24) d_Mo_check_209 (by decide) ?_
                                      refine j_icmp_le X (tgt := 218) d_Mo_check_211 (by decide) (fun h525 => ?_) (fun h525 => ?_)
                                      · replace hp := hp.1 h525
                                        replace hF := hF.trans (if_pos h525)
                                        refine j_iconst X (v := 0) d_Mo_check_218 (by decide) ?_
                                        exact j_iret X hr hk (by rw [hF]) rfl d_Mo_check_219
                                      · replace hp := hp.2 h525
                                        replace hF := hF.trans (if_neg h525)
                                        refine j_iconst X (v := 3) d_Mo_check_214 (by decide) ?_
                                        refine j_goto X (tgt := 219) d_Mo_check_215 (by decide) ?_
                                        exact j_iret X hr hk (by rw [hF]) rfl d_Mo_check_219
                                    · replace hp := hp.1 h522
                                      replace hF := hF.trans (if_pos h522)
                                      refine j_bipush X (v := 7) d_Mo_check_197 (by decide) ?_
                                      exact j_iret X hr hk (by rw [hF]) rfl d_Mo_check_199
                                · replace hp := hp.1 h511
                                  replace hF := hF.trans (if_pos h511)
                                  refine j_iload_n X d_Mo_check_172 1 rfl ?_
                                  refine j_iconst X (v := 1) d_Mo_check_173 (by decide) ?_
                                  refine j_icmp_ge X (tgt := 180) d_Mo_check_174 (by decide) (fun h512 => ?_) (fun h512 => ?_)
                                  · replace hp := hp.1 h512
                                    replace hF := hF.trans (if_pos h512)
                                    refine j_iload_n X d_Mo_check_180 2 rfl ?_
                                    refine j_bipush X (v := 18) d_Mo_check_181 (by decide) ?_
                                    refine j_icmp_ne X (tgt := 200) d_Mo_check_183 (by decide) (fun h513 => ?_) (fun h513 => ?_)
                                    · replace hp := hp.2 h513
                                      replace hF := hF.trans (if_neg h513)
                                      refine j_aload_n X d_Mo_check_200 3 rfl ?_
                                      refine j_get X fd_Mo_75_Mo 124 (by omega) y_Mo rfl d_Mo_check_201 ?_
                                      refine j_iload_n X d_Mo_check_204 2 rfl ?_
                                      refine j_callP (st := [.int (gI S 124 17)]) X hY_Mo_grows (c_Mo_grows l ((gR S 125 (gI S 124 13).toNatClampNeg) &&& 31) ) mw_671 hT_Mo_grows rfl rfl (Nat.le_of_ble_eq_true rfl) d_Mo_check_205 rfl rfl ⟨by decide, by decide⟩ ⟨Nat.zero_le _, Nat.zero_le _⟩ (j_st (st' := [.int (f_Mo_grows ((gR S 125 (gI S 124 13).toNatClampNeg) &&& 31)), .int (gI S 124 17)]) rfl ?_)
                                      refine j_topi (fun r518 e519 => ?_)
                                      replace hp := hp r518 e519
                                      replace hF := hF.trans (px_let_eq e519)
                                      refine j_iadd X d_Mo_check_208 ?_
                                      refine j_bipush X (v := 24) d_Mo_check_209 (by decide) ?_
                                      refine j_icmp_le X (tgt := 218) d_Mo_check_211 (by decide) (fun h520 => ?_) (fun h520 => ?_)
                                      · replace hp := hp.1 h520
                                        replace hF := hF.trans (if_pos h520)
                                        refine j_iconst X (v := 0) d_Mo_check_218 (by decide) ?_
                                        exact j_iret X hr hk (by rw [hF]) rfl d_Mo_check_219
                                      · replace hp := hp.2 h520
                                        replace hF := hF.trans (if_neg h520)
                                        refine j_iconst X (v := 3) d_Mo_check_214 (by decide) ?_
                                        refine j_goto X (tgt := 219) d_Mo_check_215 (by decide) ?_
                                        exact j_iret X hr hk (by rw [hF]) rfl d_Mo_check_219
                                    · replace hp := hp.1 h513
                                      replace hF := hF.trans (if_pos h513)
                                      refine j_aload_n X d_Mo_check_186 3 rfl ?_
                                      refine j_get X fd_Mo_72_Mo 124 (by omega) y_Mo rfl d_Mo_check_187 ?_
                                      refine j_aload_n X d_Mo_check_190 3 rfl ?_
                                      refine j_get X fd_Mo_60_Mo 124 (by omega) y_Mo rfl d_Mo_check_191 ?_
                                      refine j_icmp_ne X (tgt := 200) d_Mo_check_194 (by decide) (fun h514 => ?_) (fun h514 => ?_)
                                      · replace hp := hp.2 h514
                                        replace hF := hF.trans (if_neg h514)
                                        refine j_aload_n X d_Mo_check_200 3 rfl ?_
                                        refine j_get X fd_Mo_75_Mo 124 (by omega) y_Mo rfl d_Mo_check_201 ?_
                                        refine j_iload_n X d_Mo_check_204 2 rfl ?_
                                        refine j_callP (st := [.int (gI S 124 17)]) X hY_Mo_grows (c_Mo_grows l ((gR S 125 (gI S 124 13).toNatClampNeg) &&& 31) ) mw_671 hT_Mo_grows rfl rfl (Nat.le_of_ble_eq_true rfl) d_Mo_check_205 rfl rfl ⟨by decide, by decide⟩ ⟨Nat.zero_le _, Nat.zero_le _⟩ (j_st (st' := [.int (f_Mo_grows ((gR S 125 (gI S 124 13).toNatClampNeg) &&& 31)), .int (gI S 124 17)]) rfl ?_)
                                        refine j_topi (fun r515 e516 => ?_)
                                        replace hp := hp r515 e516
                                        replace hF := hF.trans (px_let_eq e516)
                                        refine j_iadd X d_Mo_check_208 ?_
                                        refine j_bipush X (v := 24) d_Mo_check_209 (by decide) ?_
                                        refine j_icmp_le X (tgt := 218) d_Mo_check_211 (by decide) (fun h517 => ?_) (fun h517 => ?_)
                                        · replace hp := hp.1 h517
                                          replace hF := hF.trans (if_pos h517)
                                          refine j_iconst X (v := 0) d_Mo_check_218 (by decide) ?_
                                          exact j_iret X hr hk (by rw [hF]) rfl d_Mo_check_219
                                        · replace hp := hp.2 h517
                                          replace hF := hF.trans (if_neg h517)
                                          refine j_iconst X (v := 3) d_Mo_check_214 (by decide) ?_
                                          refine j_goto X (tgt := 219) d_Mo_check_215 (by decide) ?_
                                          exact j_iret X hr hk (by rw [hF]) rfl d_Mo_check_219
                                      · replace hp := hp.1 h514
                                        replace hF := hF.trans (if_pos h514)
                                        refine j_bipush X (v := 7) d_Mo_check_197 (by decide) ?_
                                        exact j_iret X hr hk (by rw [hF]) rfl d_Mo_check_199
                                  · replace hp := hp.2 h512
                                    replace hF := hF.trans (if_neg h512)
                                    refine j_bipush X (v := 6) d_Mo_check_177 (by decide) ?_
                                    exact j_iret X hr hk (by rw [hF]) rfl d_Mo_check_179
                          · replace hp := hp.2 h508
                            replace hF := hF.trans (if_neg h508)
                            refine j_iconst X (v := 4) d_Mo_check_154 (by decide) ?_
                            exact j_iret X hr hk (by rw [hF]) rfl d_Mo_check_155
                · replace hp := hp.1 h396
                  replace hF := hF.trans (if_pos h396)
                  refine j_iconst X (v := 2) d_Mo_check_107 (by decide) ?_
                  exact j_iret X hr hk (by rw [hF]) rfl d_Mo_check_108
            · replace hp := hp.1 h10
              replace hF := hF.trans (if_pos h10)
              refine j_aload_n X d_Mo_check_74 2 rfl ?_
              refine j_get X fd_Mo_69_Mo 124 (by omega) y_Mo rfl d_Mo_check_75 ?_
              refine j_iconst X (v := 2) d_Mo_check_78 (by decide) ?_
              refine j_icmp_lt X (tgt := 107) d_Mo_check_79 (by decide) (fun h11 => ?_) (fun h11 => ?_)
              · replace hp := hp.1 h11
                replace hF := hF.trans (if_pos h11)
                refine j_iconst X (v := 2) d_Mo_check_107 (by decide) ?_
                exact j_iret X hr hk (by rw [hF]) rfl d_Mo_check_108
              · replace hp := hp.2 h11
                replace hF := hF.trans (if_neg h11)
                refine j_aload_n X d_Mo_check_82 2 rfl ?_
                refine j_get X fd_Mo_69_Mo 124 (by omega) y_Mo rfl d_Mo_check_83 ?_
                refine j_aload_n X d_Mo_check_86 2 rfl ?_
                refine j_get X fd_Mo_75_Mo 124 (by omega) y_Mo rfl d_Mo_check_87 ?_
                refine j_icmp_ge X (tgt := 107) d_Mo_check_90 (by decide) (fun h12 => ?_) (fun h12 => ?_)
                · replace hp := hp.1 h12
                  replace hF := hF.trans (if_pos h12)
                  refine j_iconst X (v := 2) d_Mo_check_107 (by decide) ?_
                  exact j_iret X hr hk (by rw [hF]) rfl d_Mo_check_108
                · replace hp := hp.2 h12
                  replace hF := hF.trans (if_neg h12)
                  refine j_iload_n X d_Mo_check_93 1 rfl ?_
                  refine j_bipush X (v := 17) d_Mo_check_94 (by decide) ?_
                  refine j_icmp_ne X (tgt := 109) d_Mo_check_96 (by decide) (fun h13 => ?_) (fun h13 => ?_)
                  · replace hp := hp.2 h13
                    replace hF := hF.trans (if_neg h13)
                    refine j_aload_n X d_Mo_check_109 2 rfl ?_
                    refine j_get X fd_Mo_75_Mo 124 (by omega) y_Mo rfl d_Mo_check_110 ?_
                    refine j_if_le X (tgt := 130) d_Mo_check_113 (by decide) (fun h205 => ?_) (fun h205 => ?_)
                    · replace hp := hp.1 h205
                      replace hF := hF.trans (if_pos h205)
                      refine j_iconst X (v := 0) d_Mo_check_130 (by decide) ?_
                      refine j_istore_n X d_Mo_check_131 [(3, .int 0), (2, .int ((gR S 125 (gI S 124 13).toNatClampNeg) >>> ((5 : Int32) &&& 31))), (1, .int ((gR S 125 (gI S 124 13).toNatClampNeg) &&& 31)), (0, .ref (ad 124))] (by decide) rfl ?_
                      refine j_iload_n X d_Mo_check_132 2 rfl ?_
                      refine j_bipush X (v := 10) d_Mo_check_133 (by decide) ?_
                      refine j_icmp_eq X (tgt := 144) d_Mo_check_135 (by decide) (fun h206 => ?_) (fun h206 => ?_)
                      · replace hp := hp.1 h206
                        replace hF := hF.trans (if_pos h206)
                        refine j_iload_n X d_Mo_check_144 0 rfl ?_
                        refine j_if_lt X (tgt := 154) d_Mo_check_145 (by decide) (fun h => absurd h (by decide)) (fun _ => ?_)
                        refine j_iload_n X d_Mo_check_148 0 rfl ?_
                        refine j_bipush X (v := 32) d_Mo_check_149 (by decide) ?_
                        refine j_icmp_lt X (tgt := 156) d_Mo_check_151 (by decide) (fun _ => ?_) (fun h => absurd (by decide) h)
                        refine j_iload_n X d_Mo_check_156 2 rfl ?_
                        refine j_bipush X (v := 8) d_Mo_check_157 (by decide) ?_
                        refine j_icmp_ne X (tgt := 166) d_Mo_check_159 (by decide) (fun h209 => ?_) (fun h209 => ?_)
                        · replace hp := hp.2 h209
                          replace hF := hF.trans (if_neg h209)
                          refine j_iload_n X d_Mo_check_166 2 rfl ?_
                          refine j_bipush X (v := 19) d_Mo_check_167 (by decide) ?_
                          refine j_icmp_ne X (tgt := 180) d_Mo_check_169 (by decide) (fun h211 => ?_) (fun h211 => ?_)
                          · replace hp := hp.2 h211
                            replace hF := hF.trans (if_neg h211)
                            refine j_iload_n X d_Mo_check_180 2 rfl ?_
                            refine j_bipush X (v := 18) d_Mo_check_181 (by decide) ?_
                            refine j_icmp_ne X (tgt := 200) d_Mo_check_183 (by decide) (fun h221 => ?_) (fun h221 => ?_)
                            · replace hp := hp.2 h221
                              replace hF := hF.trans (if_neg h221)
                              refine j_aload_n X d_Mo_check_200 3 rfl ?_
                              refine j_get X fd_Mo_75_Mo 124 (by omega) y_Mo rfl d_Mo_check_201 ?_
                              refine j_iload_n X d_Mo_check_204 2 rfl ?_
                              refine j_callP (st := [.int (gI S 124 17)]) X hY_Mo_grows (c_Mo_grows l ((gR S 125 (gI S 124 13).toNatClampNeg) &&& 31) ) mw_671 hT_Mo_grows rfl rfl (Nat.le_of_ble_eq_true rfl) d_Mo_check_205 rfl rfl ⟨by decide, by decide⟩ ⟨Nat.zero_le _, Nat.zero_le _⟩ (j_st (st' := [.int (f_Mo_grows ((gR S 125 (gI S 124 13).toNatClampNeg) &&& 31)), .int (gI S 124 17)]) rfl ?_)
                              refine j_topi (fun r226 e227 => ?_)
                              replace hp := hp r226 e227
                              replace hF := hF.trans (px_let_eq e227)
                              refine j_iadd X d_Mo_check_208 ?_
                              refine j_bipush X (v := 24) d_Mo_check_209 (by decide) ?_
                              refine j_icmp_le X (tgt := 218) d_Mo_check_211 (by decide) (fun h228 => ?_) (fun h228 => ?_)
                              · replace hp := hp.1 h228
                                replace hF := hF.trans (if_pos h228)
                                refine j_iconst X (v := 0) d_Mo_check_218 (by decide) ?_
                                exact j_iret X hr hk (by rw [hF]) rfl d_Mo_check_219
                              · replace hp := hp.2 h228
                                replace hF := hF.trans (if_neg h228)
                                refine j_iconst X (v := 3) d_Mo_check_214 (by decide) ?_
                                refine j_goto X (tgt := 219) d_Mo_check_215 (by decide) ?_
                                exact j_iret X hr hk (by rw [hF]) rfl d_Mo_check_219
                            · replace hp := hp.1 h221
                              replace hF := hF.trans (if_pos h221)
                              refine j_aload_n X d_Mo_check_186 3 rfl ?_
                              refine j_get X fd_Mo_72_Mo 124 (by omega) y_Mo rfl d_Mo_check_187 ?_
                              refine j_aload_n X d_Mo_check_190 3 rfl ?_
                              refine j_get X fd_Mo_60_Mo 124 (by omega) y_Mo rfl d_Mo_check_191 ?_
                              refine j_icmp_ne X (tgt := 200) d_Mo_check_194 (by decide) (fun h222 => ?_) (fun h222 => ?_)
                              · replace hp := hp.2 h222
                                replace hF := hF.trans (if_neg h222)
                                refine j_aload_n X d_Mo_check_200 3 rfl ?_
                                refine j_get X fd_Mo_75_Mo 124 (by omega) y_Mo rfl d_Mo_check_201 ?_
                                refine j_iload_n X d_Mo_check_204 2 rfl ?_
                                refine j_callP (st := [.int (gI S 124 17)]) X hY_Mo_grows (c_Mo_grows l ((gR S 125 (gI S 124 13).toNatClampNeg) &&& 31) ) mw_671 hT_Mo_grows rfl rfl (Nat.le_of_ble_eq_true rfl) d_Mo_check_205 rfl rfl ⟨by decide, by decide⟩ ⟨Nat.zero_le _, Nat.zero_le _⟩ (j_st (st' := [.int (f_Mo_grows ((gR S 125 (gI S 124 13).toNatClampNeg) &&& 31)), .int (gI S 124 17)]) rfl ?_)
                                refine j_topi (fun r223 e224 => ?_)
                                replace hp := hp r223 e224
                                replace hF := hF.trans (px_let_eq e224)
                                refine j_iadd X d_Mo_check_208 ?_
                                refine j_bipush X (v := 24) d_Mo_check_209 (by decide) ?_
                                refine j_icmp_le X (tgt := 218) d_Mo_check_211 (by decide) (fun h225 => ?_) (fun h225 => ?_)
                                · replace hp := hp.1 h225
                                  replace hF := hF.trans (if_pos h225)
                                  refine j_iconst X (v := 0) d_Mo_check_218 (by decide) ?_
                                  exact j_iret X hr hk (by rw [hF]) rfl d_Mo_check_219
                                · replace hp := hp.2 h225
                                  replace hF := hF.trans (if_neg h225)
                                  refine j_iconst X (v := 3) d_Mo_check_214 (by decide) ?_
                                  refine j_goto X (tgt := 219) d_Mo_check_215 (by decide) ?_
                                  exact j_iret X hr hk (by rw [hF]) rfl d_Mo_check_219
                              · replace hp := hp.1 h222
                                replace hF := hF.trans (if_pos h222)
                                refine j_bipush X (v := 7) d_Mo_check_197 (by decide) ?_
                                exact j_iret X hr hk (by rw [hF]) rfl d_Mo_check_199
                          · replace hp := hp.1 h211
                            replace hF := hF.trans (if_pos h211)
                            refine j_iload_n X d_Mo_check_172 1 rfl ?_
                            refine j_iconst X (v := 1) d_Mo_check_173 (by decide) ?_
                            refine j_icmp_ge X (tgt := 180) d_Mo_check_174 (by decide) (fun h212 => ?_) (fun h212 => ?_)
                            · replace hp := hp.1 h212
                              replace hF := hF.trans (if_pos h212)
                              refine j_iload_n X d_Mo_check_180 2 rfl ?_
                              refine j_bipush X (v := 18) d_Mo_check_181 (by decide) ?_
                              refine j_icmp_ne X (tgt := 200) d_Mo_check_183 (by decide) (fun h213 => ?_) (fun h213 => ?_)
                              · replace hp := hp.2 h213
                                replace hF := hF.trans (if_neg h213)
                                refine j_aload_n X d_Mo_check_200 3 rfl ?_
                                refine j_get X fd_Mo_75_Mo 124 (by omega) y_Mo rfl d_Mo_check_201 ?_
                                refine j_iload_n X d_Mo_check_204 2 rfl ?_
                                refine j_callP (st := [.int (gI S 124 17)]) X hY_Mo_grows (c_Mo_grows l ((gR S 125 (gI S 124 13).toNatClampNeg) &&& 31) ) mw_671 hT_Mo_grows rfl rfl (Nat.le_of_ble_eq_true rfl) d_Mo_check_205 rfl rfl ⟨by decide, by decide⟩ ⟨Nat.zero_le _, Nat.zero_le _⟩ (j_st (st' := [.int (f_Mo_grows ((gR S 125 (gI S 124 13).toNatClampNeg) &&& 31)), .int (gI S 124 17)]) rfl ?_)
                                refine j_topi (fun r218 e219 => ?_)
                                replace hp := hp r218 e219
                                replace hF := hF.trans (px_let_eq e219)
                                refine j_iadd X d_Mo_check_208 ?_
                                refine j_bipush X (v := 24) d_Mo_check_209 (by decide) ?_
                                refine j_icmp_le X (tgt := 218) d_Mo_check_211 (by decide) (fun h220 => ?_) (fun h220 => ?_)
                                · replace hp := hp.1 h220
                                  replace hF := hF.trans (if_pos h220)
                                  refine j_iconst X (v := 0) d_Mo_check_218 (by decide) ?_
                                  exact j_iret X hr hk (by rw [hF]) rfl d_Mo_check_219
                                · replace hp := hp.2 h220
                                  replace hF := hF.trans (if_neg h220)
                                  refine j_iconst X (v := 3) d_Mo_check_214 (by decide) ?_
                                  refine j_goto X (tgt := 219) d_Mo_check_215 (by decide) ?_
                                  exact j_iret X hr hk (by rw [hF]) rfl d_Mo_check_219
                              · replace hp := hp.1 h213
                                replace hF := hF.trans (if_pos h213)
                                refine j_aload_n X d_Mo_check_186 3 rfl ?_
                                refine j_get X fd_Mo_72_Mo 124 (by omega) y_Mo rfl d_Mo_check_187 ?_
                                refine j_aload_n X d_Mo_check_190 3 rfl ?_
                                refine j_get X fd_Mo_60_Mo 124 (by omega) y_Mo rfl d_Mo_check_191 ?_
                                refine j_icmp_ne X (tgt := 200) d_Mo_check_194 (by decide) (fun h214 => ?_) (fun h214 => ?_)
                                · replace hp := hp.2 h214
                                  replace hF := hF.trans (if_neg h214)
                                  refine j_aload_n X d_Mo_check_200 3 rfl ?_
                                  refine j_get X fd_Mo_75_Mo 124 (by omega) y_Mo rfl d_Mo_check_201 ?_
                                  refine j_iload_n X d_Mo_check_204 2 rfl ?_
                                  refine j_callP (st := [.int (gI S 124 17)]) X hY_Mo_grows (c_Mo_grows l ((gR S 125 (gI S 124 13).toNatClampNeg) &&& 31) ) mw_671 hT_Mo_grows rfl rfl (Nat.le_of_ble_eq_true rfl) d_Mo_check_205 rfl rfl ⟨by decide, by decide⟩ ⟨Nat.zero_le _, Nat.zero_le _⟩ (j_st (st' := [.int (f_Mo_grows ((gR S 125 (gI S 124 13).toNatClampNeg) &&& 31)), .int (gI S 124 17)]) rfl ?_)
                                  refine j_topi (fun r215 e216 => ?_)
                                  replace hp := hp r215 e216
                                  replace hF := hF.trans (px_let_eq e216)
                                  refine j_iadd X d_Mo_check_208 ?_
                                  refine j_bipush X (v := 24) d_Mo_check_209 (by decide) ?_
                                  refine j_icmp_le X (tgt := 218) d_Mo_check_211 (by decide) (fun h217 => ?_) (fun h217 => ?_)
                                  · replace hp := hp.1 h217
                                    replace hF := hF.trans (if_pos h217)
                                    refine j_iconst X (v := 0) d_Mo_check_218 (by decide) ?_
                                    exact j_iret X hr hk (by rw [hF]) rfl d_Mo_check_219
                                  · replace hp := hp.2 h217
                                    replace hF := hF.trans (if_neg h217)
                                    refine j_iconst X (v := 3) d_Mo_check_214 (by decide) ?_
                                    refine j_goto X (tgt := 219) d_Mo_check_215 (by decide) ?_
                                    exact j_iret X hr hk (by rw [hF]) rfl d_Mo_check_219
                                · replace hp := hp.1 h214
                                  replace hF := hF.trans (if_pos h214)
                                  refine j_bipush X (v := 7) d_Mo_check_197 (by decide) ?_
                                  exact j_iret X hr hk (by rw [hF]) rfl d_Mo_check_199
                            · replace hp := hp.2 h212
                              replace hF := hF.trans (if_neg h212)
                              refine j_bipush X (v := 6) d_Mo_check_177 (by decide) ?_
                              exact j_iret X hr hk (by rw [hF]) rfl d_Mo_check_179
                        · replace hp := hp.1 h209
                          replace hF := hF.trans (if_pos h209)
                          refine j_iload_n X d_Mo_check_162 0 rfl ?_
                          refine j_if_eq X (tgt := 177) d_Mo_check_163 (by decide) (fun _ => ?_) (fun h => absurd (by decide) h)
                          refine j_bipush X (v := 6) d_Mo_check_177 (by decide) ?_
                          exact j_iret X hr hk (by rw [hF]) rfl d_Mo_check_179
                      · replace hp := hp.2 h206
                        replace hF := hF.trans (if_neg h206)
                        refine j_iload_n X d_Mo_check_138 2 rfl ?_
                        refine j_bipush X (v := 11) d_Mo_check_139 (by decide) ?_
                        refine j_icmp_ne X (tgt := 156) d_Mo_check_141 (by decide) (fun h229 => ?_) (fun h229 => ?_)
                        · replace hp := hp.2 h229
                          replace hF := hF.trans (if_neg h229)
                          refine j_iload_n X d_Mo_check_156 2 rfl ?_
                          refine j_bipush X (v := 8) d_Mo_check_157 (by decide) ?_
                          refine j_icmp_ne X (tgt := 166) d_Mo_check_159 (by decide) (fun h252 => ?_) (fun h252 => ?_)
                          · replace hp := hp.2 h252
                            replace hF := hF.trans (if_neg h252)
                            refine j_iload_n X d_Mo_check_166 2 rfl ?_
                            refine j_bipush X (v := 19) d_Mo_check_167 (by decide) ?_
                            refine j_icmp_ne X (tgt := 180) d_Mo_check_169 (by decide) (fun h254 => ?_) (fun h254 => ?_)
                            · replace hp := hp.2 h254
                              replace hF := hF.trans (if_neg h254)
                              refine j_iload_n X d_Mo_check_180 2 rfl ?_
                              refine j_bipush X (v := 18) d_Mo_check_181 (by decide) ?_
                              refine j_icmp_ne X (tgt := 200) d_Mo_check_183 (by decide) (fun h264 => ?_) (fun h264 => ?_)
                              · replace hp := hp.2 h264
                                replace hF := hF.trans (if_neg h264)
                                refine j_aload_n X d_Mo_check_200 3 rfl ?_
                                refine j_get X fd_Mo_75_Mo 124 (by omega) y_Mo rfl d_Mo_check_201 ?_
                                refine j_iload_n X d_Mo_check_204 2 rfl ?_
                                refine j_callP (st := [.int (gI S 124 17)]) X hY_Mo_grows (c_Mo_grows l ((gR S 125 (gI S 124 13).toNatClampNeg) &&& 31) ) mw_671 hT_Mo_grows rfl rfl (Nat.le_of_ble_eq_true rfl) d_Mo_check_205 rfl rfl ⟨by decide, by decide⟩ ⟨Nat.zero_le _, Nat.zero_le _⟩ (j_st (st' := [.int (f_Mo_grows ((gR S 125 (gI S 124 13).toNatClampNeg) &&& 31)), .int (gI S 124 17)]) rfl ?_)
                                refine j_topi (fun r269 e270 => ?_)
                                replace hp := hp r269 e270
                                replace hF := hF.trans (px_let_eq e270)
                                refine j_iadd X d_Mo_check_208 ?_
                                refine j_bipush X (v := 24) d_Mo_check_209 (by decide) ?_
                                refine j_icmp_le X (tgt := 218) d_Mo_check_211 (by decide) (fun h271 => ?_) (fun h271 => ?_)
                                · replace hp := hp.1 h271
                                  replace hF := hF.trans (if_pos h271)
                                  refine j_iconst X (v := 0) d_Mo_check_218 (by decide) ?_
                                  exact j_iret X hr hk (by rw [hF]) rfl d_Mo_check_219
                                · replace hp := hp.2 h271
                                  replace hF := hF.trans (if_neg h271)
                                  refine j_iconst X (v := 3) d_Mo_check_214 (by decide) ?_
                                  refine j_goto X (tgt := 219) d_Mo_check_215 (by decide) ?_
                                  exact j_iret X hr hk (by rw [hF]) rfl d_Mo_check_219
                              · replace hp := hp.1 h264
                                replace hF := hF.trans (if_pos h264)
                                refine j_aload_n X d_Mo_check_186 3 rfl ?_
                                refine j_get X fd_Mo_72_Mo 124 (by omega) y_Mo rfl d_Mo_check_187 ?_
                                refine j_aload_n X d_Mo_check_190 3 rfl ?_
                                refine j_get X fd_Mo_60_Mo 124 (by omega) y_Mo rfl d_Mo_check_191 ?_
                                refine j_icmp_ne X (tgt := 200) d_Mo_check_194 (by decide) (fun h265 => ?_) (fun h265 => ?_)
                                · replace hp := hp.2 h265
                                  replace hF := hF.trans (if_neg h265)
                                  refine j_aload_n X d_Mo_check_200 3 rfl ?_
                                  refine j_get X fd_Mo_75_Mo 124 (by omega) y_Mo rfl d_Mo_check_201 ?_
                                  refine j_iload_n X d_Mo_check_204 2 rfl ?_
                                  refine j_callP (st := [.int (gI S 124 17)]) X hY_Mo_grows (c_Mo_grows l ((gR S 125 (gI S 124 13).toNatClampNeg) &&& 31) ) mw_671 hT_Mo_grows rfl rfl (Nat.le_of_ble_eq_true rfl) d_Mo_check_205 rfl rfl ⟨by decide, by decide⟩ ⟨Nat.zero_le _, Nat.zero_le _⟩ (j_st (st' := [.int (f_Mo_grows ((gR S 125 (gI S 124 13).toNatClampNeg) &&& 31)), .int (gI S 124 17)]) rfl ?_)
                                  refine j_topi (fun r266 e267 => ?_)
                                  replace hp := hp r266 e267
                                  replace hF := hF.trans (px_let_eq e267)
                                  refine j_iadd X d_Mo_check_208 ?_
                                  refine j_bipush X (v := 24) d_Mo_check_209 (by decide) ?_
                                  refine j_icmp_le X (tgt := 218) d_Mo_check_211 (by decide) (fun h268 => ?_) (fun h268 => ?_)
                                  · replace hp := hp.1 h268
                                    replace hF := hF.trans (if_pos h268)
                                    refine j_iconst X (v := 0) d_Mo_check_218 (by decide) ?_
                                    exact j_iret X hr hk (by rw [hF]) rfl d_Mo_check_219
                                  · replace hp := hp.2 h268
                                    replace hF := hF.trans (if_neg h268)
                                    refine j_iconst X (v := 3) d_Mo_check_214 (by decide) ?_
                                    refine j_goto X (tgt := 219) d_Mo_check_215 (by decide) ?_
                                    exact j_iret X hr hk (by rw [hF]) rfl d_Mo_check_219
                                · replace hp := hp.1 h265
                                  replace hF := hF.trans (if_pos h265)
                                  refine j_bipush X (v := 7) d_Mo_check_197 (by decide) ?_
                                  exact j_iret X hr hk (by rw [hF]) rfl d_Mo_check_199
                            · replace hp := hp.1 h254
                              replace hF := hF.trans (if_pos h254)
                              refine j_iload_n X d_Mo_check_172 1 rfl ?_
                              refine j_iconst X (v := 1) d_Mo_check_173 (by decide) ?_
                              refine j_icmp_ge X (tgt := 180) d_Mo_check_174 (by decide) (fun h255 => ?_) (fun h255 => ?_)
                              · replace hp := hp.1 h255
                                replace hF := hF.trans (if_pos h255)
                                refine j_iload_n X d_Mo_check_180 2 rfl ?_
                                refine j_bipush X (v := 18) d_Mo_check_181 (by decide) ?_
                                refine j_icmp_ne X (tgt := 200) d_Mo_check_183 (by decide) (fun h256 => ?_) (fun h256 => ?_)
                                · replace hp := hp.2 h256
                                  replace hF := hF.trans (if_neg h256)
                                  refine j_aload_n X d_Mo_check_200 3 rfl ?_
                                  refine j_get X fd_Mo_75_Mo 124 (by omega) y_Mo rfl d_Mo_check_201 ?_
                                  refine j_iload_n X d_Mo_check_204 2 rfl ?_
                                  refine j_callP (st := [.int (gI S 124 17)]) X hY_Mo_grows (c_Mo_grows l ((gR S 125 (gI S 124 13).toNatClampNeg) &&& 31) ) mw_671 hT_Mo_grows rfl rfl (Nat.le_of_ble_eq_true rfl) d_Mo_check_205 rfl rfl ⟨by decide, by decide⟩ ⟨Nat.zero_le _, Nat.zero_le _⟩ (j_st (st' := [.int (f_Mo_grows ((gR S 125 (gI S 124 13).toNatClampNeg) &&& 31)), .int (gI S 124 17)]) rfl ?_)
                                  refine j_topi (fun r261 e262 => ?_)
                                  replace hp := hp r261 e262
                                  replace hF := hF.trans (px_let_eq e262)
                                  refine j_iadd X d_Mo_check_208 ?_
                                  refine j_bipush X (v := 24) d_Mo_check_209 (by decide) ?_
                                  refine j_icmp_le X (tgt := 218) d_Mo_check_211 (by decide) (fun h263 => ?_) (fun h263 => ?_)
                                  · replace hp := hp.1 h263
                                    replace hF := hF.trans (if_pos h263)
                                    refine j_iconst X (v := 0) d_Mo_check_218 (by decide) ?_
                                    exact j_iret X hr hk (by rw [hF]) rfl d_Mo_check_219
                                  · replace hp := hp.2 h263
                                    replace hF := hF.trans (if_neg h263)
                                    refine j_iconst X (v := 3) d_Mo_check_214 (by decide) ?_
                                    refine j_goto X (tgt := 219) d_Mo_check_215 (by decide) ?_
                                    exact j_iret X hr hk (by rw [hF]) rfl d_Mo_check_219
                                · replace hp := hp.1 h256
                                  replace hF := hF.trans (if_pos h256)
                                  refine j_aload_n X d_Mo_check_186 3 rfl ?_
                                  refine j_get X fd_Mo_72_Mo 124 (by omega) y_Mo rfl d_Mo_check_187 ?_
                                  refine j_aload_n X d_Mo_check_190 3 rfl ?_
                                  refine j_get X fd_Mo_60_Mo 124 (by omega) y_Mo rfl d_Mo_check_191 ?_
                                  refine j_icmp_ne X (tgt := 200) d_Mo_check_194 (by decide) (fun h257 => ?_) (fun h257 => ?_)
                                  · replace hp := hp.2 h257
                                    replace hF := hF.trans (if_neg h257)
                                    refine j_aload_n X d_Mo_check_200 3 rfl ?_
                                    refine j_get X fd_Mo_75_Mo 124 (by omega) y_Mo rfl d_Mo_check_201 ?_
                                    refine j_iload_n X d_Mo_check_204 2 rfl ?_
                                    refine j_callP (st := [.int (gI S 124 17)]) X hY_Mo_grows (c_Mo_grows l ((gR S 125 (gI S 124 13).toNatClampNeg) &&& 31) ) mw_671 hT_Mo_grows rfl rfl (Nat.le_of_ble_eq_true rfl) d_Mo_check_205 rfl rfl ⟨by decide, by decide⟩ ⟨Nat.zero_le _, Nat.zero_le _⟩ (j_st (st' := [.int (f_Mo_grows ((gR S 125 (gI S 124 13).toNatClampNeg) &&& 31)), .int (gI S 124 17)]) rfl ?_)
                                    refine j_topi (fun r258 e259 => ?_)
                                    replace hp := hp r258 e259
                                    replace hF := hF.trans (px_let_eq e259)
                                    refine j_iadd X d_Mo_check_208 ?_
                                    refine j_bipush X (v := 24) d_Mo_check_209 (by decide) ?_
                                    refine j_icmp_le X (tgt := 218) d_Mo_check_211 (by decide) (fun h260 => ?_) (fun h260 => ?_)
                                    · replace hp := hp.1 h260
                                      replace hF := hF.trans (if_pos h260)
                                      refine j_iconst X (v := 0) d_Mo_check_218 (by decide) ?_
                                      exact j_iret X hr hk (by rw [hF]) rfl d_Mo_check_219
                                    · replace hp := hp.2 h260
                                      replace hF := hF.trans (if_neg h260)
                                      refine j_iconst X (v := 3) d_Mo_check_214 (by decide) ?_
                                      refine j_goto X (tgt := 219) d_Mo_check_215 (by decide) ?_
                                      exact j_iret X hr hk (by rw [hF]) rfl d_Mo_check_219
                                  · replace hp := hp.1 h257
                                    replace hF := hF.trans (if_pos h257)
                                    refine j_bipush X (v := 7) d_Mo_check_197 (by decide) ?_
                                    exact j_iret X hr hk (by rw [hF]) rfl d_Mo_check_199
                              · replace hp := hp.2 h255
                                replace hF := hF.trans (if_neg h255)
                                refine j_bipush X (v := 6) d_Mo_check_177 (by decide) ?_
                                exact j_iret X hr hk (by rw [hF]) rfl d_Mo_check_179
                          · replace hp := hp.1 h252
                            replace hF := hF.trans (if_pos h252)
                            refine j_iload_n X d_Mo_check_162 0 rfl ?_
                            refine j_if_eq X (tgt := 177) d_Mo_check_163 (by decide) (fun _ => ?_) (fun h => absurd (by decide) h)
                            refine j_bipush X (v := 6) d_Mo_check_177 (by decide) ?_
                            exact j_iret X hr hk (by rw [hF]) rfl d_Mo_check_179
                        · replace hp := hp.1 h229
                          replace hF := hF.trans (if_pos h229)
                          refine j_iload_n X d_Mo_check_144 0 rfl ?_
                          refine j_if_lt X (tgt := 154) d_Mo_check_145 (by decide) (fun h => absurd h (by decide)) (fun _ => ?_)
                          refine j_iload_n X d_Mo_check_148 0 rfl ?_
                          refine j_bipush X (v := 32) d_Mo_check_149 (by decide) ?_
                          refine j_icmp_lt X (tgt := 156) d_Mo_check_151 (by decide) (fun _ => ?_) (fun h => absurd (by decide) h)
                          refine j_iload_n X d_Mo_check_156 2 rfl ?_
                          refine j_bipush X (v := 8) d_Mo_check_157 (by decide) ?_
                          refine j_icmp_ne X (tgt := 166) d_Mo_check_159 (by decide) (fun h232 => ?_) (fun h232 => ?_)
                          · replace hp := hp.2 h232
                            replace hF := hF.trans (if_neg h232)
                            refine j_iload_n X d_Mo_check_166 2 rfl ?_
                            refine j_bipush X (v := 19) d_Mo_check_167 (by decide) ?_
                            refine j_icmp_ne X (tgt := 180) d_Mo_check_169 (by decide) (fun h234 => ?_) (fun h234 => ?_)
                            · replace hp := hp.2 h234
                              replace hF := hF.trans (if_neg h234)
                              refine j_iload_n X d_Mo_check_180 2 rfl ?_
                              refine j_bipush X (v := 18) d_Mo_check_181 (by decide) ?_
                              refine j_icmp_ne X (tgt := 200) d_Mo_check_183 (by decide) (fun h244 => ?_) (fun h244 => ?_)
                              · replace hp := hp.2 h244
                                replace hF := hF.trans (if_neg h244)
                                refine j_aload_n X d_Mo_check_200 3 rfl ?_
                                refine j_get X fd_Mo_75_Mo 124 (by omega) y_Mo rfl d_Mo_check_201 ?_
                                refine j_iload_n X d_Mo_check_204 2 rfl ?_
                                refine j_callP (st := [.int (gI S 124 17)]) X hY_Mo_grows (c_Mo_grows l ((gR S 125 (gI S 124 13).toNatClampNeg) &&& 31) ) mw_671 hT_Mo_grows rfl rfl (Nat.le_of_ble_eq_true rfl) d_Mo_check_205 rfl rfl ⟨by decide, by decide⟩ ⟨Nat.zero_le _, Nat.zero_le _⟩ (j_st (st' := [.int (f_Mo_grows ((gR S 125 (gI S 124 13).toNatClampNeg) &&& 31)), .int (gI S 124 17)]) rfl ?_)
                                refine j_topi (fun r249 e250 => ?_)
                                replace hp := hp r249 e250
                                replace hF := hF.trans (px_let_eq e250)
                                refine j_iadd X d_Mo_check_208 ?_
                                refine j_bipush X (v := 24) d_Mo_check_209 (by decide) ?_
                                refine j_icmp_le X (tgt := 218) d_Mo_check_211 (by decide) (fun h251 => ?_) (fun h251 => ?_)
                                · replace hp := hp.1 h251
                                  replace hF := hF.trans (if_pos h251)
                                  refine j_iconst X (v := 0) d_Mo_check_218 (by decide) ?_
                                  exact j_iret X hr hk (by rw [hF]) rfl d_Mo_check_219
                                · replace hp := hp.2 h251
                                  replace hF := hF.trans (if_neg h251)
                                  refine j_iconst X (v := 3) d_Mo_check_214 (by decide) ?_
                                  refine j_goto X (tgt := 219) d_Mo_check_215 (by decide) ?_
                                  exact j_iret X hr hk (by rw [hF]) rfl d_Mo_check_219
                              · replace hp := hp.1 h244
                                replace hF := hF.trans (if_pos h244)
                                refine j_aload_n X d_Mo_check_186 3 rfl ?_
                                refine j_get X fd_Mo_72_Mo 124 (by omega) y_Mo rfl d_Mo_check_187 ?_
                                refine j_aload_n X d_Mo_check_190 3 rfl ?_
                                refine j_get X fd_Mo_60_Mo 124 (by omega) y_Mo rfl d_Mo_check_191 ?_
                                refine j_icmp_ne X (tgt := 200) d_Mo_check_194 (by decide) (fun h245 => ?_) (fun h245 => ?_)
                                · replace hp := hp.2 h245
                                  replace hF := hF.trans (if_neg h245)
                                  refine j_aload_n X d_Mo_check_200 3 rfl ?_
                                  refine j_get X fd_Mo_75_Mo 124 (by omega) y_Mo rfl d_Mo_check_201 ?_
                                  refine j_iload_n X d_Mo_check_204 2 rfl ?_
                                  refine j_callP (st := [.int (gI S 124 17)]) X hY_Mo_grows (c_Mo_grows l ((gR S 125 (gI S 124 13).toNatClampNeg) &&& 31) ) mw_671 hT_Mo_grows rfl rfl (Nat.le_of_ble_eq_true rfl) d_Mo_check_205 rfl rfl ⟨by decide, by decide⟩ ⟨Nat.zero_le _, Nat.zero_le _⟩ (j_st (st' := [.int (f_Mo_grows ((gR S 125 (gI S 124 13).toNatClampNeg) &&& 31)), .int (gI S 124 17)]) rfl ?_)
                                  refine j_topi (fun r246 e247 => ?_)
                                  replace hp := hp r246 e247
                                  replace hF := hF.trans (px_let_eq e247)
                                  refine j_iadd X d_Mo_check_208 ?_
                                  refine j_bipush X (v := 24) d_Mo_check_209 (by decide) ?_
                                  refine j_icmp_le X (tgt := 218) d_Mo_check_211 (by decide) (fun h248 => ?_) (fun h248 => ?_)
                                  · replace hp := hp.1 h248
                                    replace hF := hF.trans (if_pos h248)
                                    refine j_iconst X (v := 0) d_Mo_check_218 (by decide) ?_
                                    exact j_iret X hr hk (by rw [hF]) rfl d_Mo_check_219
                                  · replace hp := hp.2 h248
                                    replace hF := hF.trans (if_neg h248)
                                    refine j_iconst X (v := 3) d_Mo_check_214 (by decide) ?_
                                    refine j_goto X (tgt := 219) d_Mo_check_215 (by decide) ?_
                                    exact j_iret X hr hk (by rw [hF]) rfl d_Mo_check_219
                                · replace hp := hp.1 h245
                                  replace hF := hF.trans (if_pos h245)
                                  refine j_bipush X (v := 7) d_Mo_check_197 (by decide) ?_
                                  exact j_iret X hr hk (by rw [hF]) rfl d_Mo_check_199
                            · replace hp := hp.1 h234
                              replace hF := hF.trans (if_pos h234)
                              refine j_iload_n X d_Mo_check_172 1 rfl ?_
                              refine j_iconst X (v := 1) d_Mo_check_173 (by decide) ?_
                              refine j_icmp_ge X (tgt := 180) d_Mo_check_174 (by decide) (fun h235 => ?_) (fun h235 => ?_)
                              · replace hp := hp.1 h235
                                replace hF := hF.trans (if_pos h235)
                                refine j_iload_n X d_Mo_check_180 2 rfl ?_
                                refine j_bipush X (v := 18) d_Mo_check_181 (by decide) ?_
                                refine j_icmp_ne X (tgt := 200) d_Mo_check_183 (by decide) (fun h236 => ?_) (fun h236 => ?_)
                                · replace hp := hp.2 h236
                                  replace hF := hF.trans (if_neg h236)
                                  refine j_aload_n X d_Mo_check_200 3 rfl ?_
                                  refine j_get X fd_Mo_75_Mo 124 (by omega) y_Mo rfl d_Mo_check_201 ?_
                                  refine j_iload_n X d_Mo_check_204 2 rfl ?_
                                  refine j_callP (st := [.int (gI S 124 17)]) X hY_Mo_grows (c_Mo_grows l ((gR S 125 (gI S 124 13).toNatClampNeg) &&& 31) ) mw_671 hT_Mo_grows rfl rfl (Nat.le_of_ble_eq_true rfl) d_Mo_check_205 rfl rfl ⟨by decide, by decide⟩ ⟨Nat.zero_le _, Nat.zero_le _⟩ (j_st (st' := [.int (f_Mo_grows ((gR S 125 (gI S 124 13).toNatClampNeg) &&& 31)), .int (gI S 124 17)]) rfl ?_)
                                  refine j_topi (fun r241 e242 => ?_)
                                  replace hp := hp r241 e242
                                  replace hF := hF.trans (px_let_eq e242)
                                  refine j_iadd X d_Mo_check_208 ?_
                                  refine j_bipush X (v := 24) d_Mo_check_209 (by decide) ?_
                                  refine j_icmp_le X (tgt := 218) d_Mo_check_211 (by decide) (fun h243 => ?_) (fun h243 => ?_)
                                  · replace hp := hp.1 h243
                                    replace hF := hF.trans (if_pos h243)
                                    refine j_iconst X (v := 0) d_Mo_check_218 (by decide) ?_
                                    exact j_iret X hr hk (by rw [hF]) rfl d_Mo_check_219
                                  · replace hp := hp.2 h243
                                    replace hF := hF.trans (if_neg h243)
                                    refine j_iconst X (v := 3) d_Mo_check_214 (by decide) ?_
                                    refine j_goto X (tgt := 219) d_Mo_check_215 (by decide) ?_
                                    exact j_iret X hr hk (by rw [hF]) rfl d_Mo_check_219
                                · replace hp := hp.1 h236
                                  replace hF := hF.trans (if_pos h236)
                                  refine j_aload_n X d_Mo_check_186 3 rfl ?_
                                  refine j_get X fd_Mo_72_Mo 124 (by omega) y_Mo rfl d_Mo_check_187 ?_
                                  refine j_aload_n X d_Mo_check_190 3 rfl ?_
                                  refine j_get X fd_Mo_60_Mo 124 (by omega) y_Mo rfl d_Mo_check_191 ?_
                                  refine j_icmp_ne X (tgt := 200) d_Mo_check_194 (by decide) (fun h237 => ?_) (fun h237 => ?_)
                                  · replace hp := hp.2 h237
                                    replace hF := hF.trans (if_neg h237)
                                    refine j_aload_n X d_Mo_check_200 3 rfl ?_
                                    refine j_get X fd_Mo_75_Mo 124 (by omega) y_Mo rfl d_Mo_check_201 ?_
                                    refine j_iload_n X d_Mo_check_204 2 rfl ?_
                                    refine j_callP (st := [.int (gI S 124 17)]) X hY_Mo_grows (c_Mo_grows l ((gR S 125 (gI S 124 13).toNatClampNeg) &&& 31) ) mw_671 hT_Mo_grows rfl rfl (Nat.le_of_ble_eq_true rfl) d_Mo_check_205 rfl rfl ⟨by decide, by decide⟩ ⟨Nat.zero_le _, Nat.zero_le _⟩ (j_st (st' := [.int (f_Mo_grows ((gR S 125 (gI S 124 13).toNatClampNeg) &&& 31)), .int (gI S 124 17)]) rfl ?_)
                                    refine j_topi (fun r238 e239 => ?_)
                                    replace hp := hp r238 e239
                                    replace hF := hF.trans (px_let_eq e239)
                                    refine j_iadd X d_Mo_check_208 ?_
                                    refine j_bipush X (v := 24) d_Mo_check_209 (by decide) ?_
                                    refine j_icmp_le X (tgt := 218) d_Mo_check_211 (by decide) (fun h240 => ?_) (fun h240 => ?_)
                                    · replace hp := hp.1 h240
                                      replace hF := hF.trans (if_pos h240)
                                      refine j_iconst X (v := 0) d_Mo_check_218 (by decide) ?_
                                      exact j_iret X hr hk (by rw [hF]) rfl d_Mo_check_219
                                    · replace hp := hp.2 h240
                                      replace hF := hF.trans (if_neg h240)
                                      refine j_iconst X (v := 3) d_Mo_check_214 (by decide) ?_
                                      refine j_goto X (tgt := 219) d_Mo_check_215 (by decide) ?_
                                      exact j_iret X hr hk (by rw [hF]) rfl d_Mo_check_219
                                  · replace hp := hp.1 h237
                                    replace hF := hF.trans (if_pos h237)
                                    refine j_bipush X (v := 7) d_Mo_check_197 (by decide) ?_
                                    exact j_iret X hr hk (by rw [hF]) rfl d_Mo_check_199
                              · replace hp := hp.2 h235
                                replace hF := hF.trans (if_neg h235)
                                refine j_bipush X (v := 6) d_Mo_check_177 (by decide) ?_
                                exact j_iret X hr hk (by rw [hF]) rfl d_Mo_check_179
                          · replace hp := hp.1 h232
                            replace hF := hF.trans (if_pos h232)
                            refine j_iload_n X d_Mo_check_162 0 rfl ?_
                            refine j_if_eq X (tgt := 177) d_Mo_check_163 (by decide) (fun _ => ?_) (fun h => absurd (by decide) h)
                            refine j_bipush X (v := 6) d_Mo_check_177 (by decide) ?_
                            exact j_iret X hr hk (by rw [hF]) rfl d_Mo_check_179
                    · replace hp := hp.2 h205
                      replace hF := hF.trans (if_neg h205)
                      refine j_aload_n X d_Mo_check_116 2 rfl ?_
                      refine j_get X fd_Mo_26_Mo 124 (by omega) y_Mo rfl d_Mo_check_117 ?_
                      refine j_aload_n X d_Mo_check_120 2 rfl ?_
                      refine j_get X fd_Mo_75_Mo 124 (by omega) y_Mo rfl d_Mo_check_121 ?_
                      refine j_iconst X (v := 1) d_Mo_check_124 (by decide) ?_
                      refine j_isub X d_Mo_check_125 ?_
                      obtain ⟨o272, hp⟩ := hp
                      refine j_iald X 130 0 (by omega) y_stack rfl o272 d_Mo_check_126 ?_
                      refine j_goto X (tgt := 131) d_Mo_check_127 (by decide) ?_
                      refine j_istore_n X d_Mo_check_131 [(3, .int (gR S 130 ((gI S 124 17) - 1).toNatClampNeg)), (2, .int ((gR S 125 (gI S 124 13).toNatClampNeg) >>> ((5 : Int32) &&& 31))), (1, .int ((gR S 125 (gI S 124 13).toNatClampNeg) &&& 31)), (0, .ref (ad 124))] (by decide) rfl ?_
                      refine j_iload_n X d_Mo_check_132 2 rfl ?_
                      refine j_bipush X (v := 10) d_Mo_check_133 (by decide) ?_
                      refine j_icmp_eq X (tgt := 144) d_Mo_check_135 (by decide) (fun h273 => ?_) (fun h273 => ?_)
                      · replace hp := hp.1 h273
                        replace hF := hF.trans (if_pos h273)
                        refine j_iload_n X d_Mo_check_144 0 rfl ?_
                        refine j_if_lt X (tgt := 154) d_Mo_check_145 (by decide) (fun h274 => ?_) (fun h274 => ?_)
                        · replace hp := hp.1 h274
                          replace hF := hF.trans (if_pos h274)
                          refine j_iconst X (v := 4) d_Mo_check_154 (by decide) ?_
                          exact j_iret X hr hk (by rw [hF]) rfl d_Mo_check_155
                        · replace hp := hp.2 h274
                          replace hF := hF.trans (if_neg h274)
                          refine j_iload_n X d_Mo_check_148 0 rfl ?_
                          refine j_bipush X (v := 32) d_Mo_check_149 (by decide) ?_
                          refine j_icmp_lt X (tgt := 156) d_Mo_check_151 (by decide) (fun h275 => ?_) (fun h275 => ?_)
                          · replace hp := hp.1 h275
                            replace hF := hF.trans (if_pos h275)
                            refine j_iload_n X d_Mo_check_156 2 rfl ?_
                            refine j_bipush X (v := 8) d_Mo_check_157 (by decide) ?_
                            refine j_icmp_ne X (tgt := 166) d_Mo_check_159 (by decide) (fun h276 => ?_) (fun h276 => ?_)
                            · replace hp := hp.2 h276
                              replace hF := hF.trans (if_neg h276)
                              refine j_iload_n X d_Mo_check_166 2 rfl ?_
                              refine j_bipush X (v := 19) d_Mo_check_167 (by decide) ?_
                              refine j_icmp_ne X (tgt := 180) d_Mo_check_169 (by decide) (fun h296 => ?_) (fun h296 => ?_)
                              · replace hp := hp.2 h296
                                replace hF := hF.trans (if_neg h296)
                                refine j_iload_n X d_Mo_check_180 2 rfl ?_
                                refine j_bipush X (v := 18) d_Mo_check_181 (by decide) ?_
                                refine j_icmp_ne X (tgt := 200) d_Mo_check_183 (by decide) (fun h306 => ?_) (fun h306 => ?_)
                                · replace hp := hp.2 h306
                                  replace hF := hF.trans (if_neg h306)
                                  refine j_aload_n X d_Mo_check_200 3 rfl ?_
                                  refine j_get X fd_Mo_75_Mo 124 (by omega) y_Mo rfl d_Mo_check_201 ?_
                                  refine j_iload_n X d_Mo_check_204 2 rfl ?_
                                  refine j_callP (st := [.int (gI S 124 17)]) X hY_Mo_grows (c_Mo_grows l ((gR S 125 (gI S 124 13).toNatClampNeg) &&& 31) ) mw_671 hT_Mo_grows rfl rfl (Nat.le_of_ble_eq_true rfl) d_Mo_check_205 rfl rfl ⟨by decide, by decide⟩ ⟨Nat.zero_le _, Nat.zero_le _⟩ (j_st (st' := [.int (f_Mo_grows ((gR S 125 (gI S 124 13).toNatClampNeg) &&& 31)), .int (gI S 124 17)]) rfl ?_)
                                  refine j_topi (fun r311 e312 => ?_)
                                  replace hp := hp r311 e312
                                  replace hF := hF.trans (px_let_eq e312)
                                  refine j_iadd X d_Mo_check_208 ?_
                                  refine j_bipush X (v := 24) d_Mo_check_209 (by decide) ?_
                                  refine j_icmp_le X (tgt := 218) d_Mo_check_211 (by decide) (fun h313 => ?_) (fun h313 => ?_)
                                  · replace hp := hp.1 h313
                                    replace hF := hF.trans (if_pos h313)
                                    refine j_iconst X (v := 0) d_Mo_check_218 (by decide) ?_
                                    exact j_iret X hr hk (by rw [hF]) rfl d_Mo_check_219
                                  · replace hp := hp.2 h313
                                    replace hF := hF.trans (if_neg h313)
                                    refine j_iconst X (v := 3) d_Mo_check_214 (by decide) ?_
                                    refine j_goto X (tgt := 219) d_Mo_check_215 (by decide) ?_
                                    exact j_iret X hr hk (by rw [hF]) rfl d_Mo_check_219
                                · replace hp := hp.1 h306
                                  replace hF := hF.trans (if_pos h306)
                                  refine j_aload_n X d_Mo_check_186 3 rfl ?_
                                  refine j_get X fd_Mo_72_Mo 124 (by omega) y_Mo rfl d_Mo_check_187 ?_
                                  refine j_aload_n X d_Mo_check_190 3 rfl ?_
                                  refine j_get X fd_Mo_60_Mo 124 (by omega) y_Mo rfl d_Mo_check_191 ?_
                                  refine j_icmp_ne X (tgt := 200) d_Mo_check_194 (by decide) (fun h307 => ?_) (fun h307 => ?_)
                                  · replace hp := hp.2 h307
                                    replace hF := hF.trans (if_neg h307)
                                    refine j_aload_n X d_Mo_check_200 3 rfl ?_
                                    refine j_get X fd_Mo_75_Mo 124 (by omega) y_Mo rfl d_Mo_check_201 ?_
                                    refine j_iload_n X d_Mo_check_204 2 rfl ?_
                                    refine j_callP (st := [.int (gI S 124 17)]) X hY_Mo_grows (c_Mo_grows l ((gR S 125 (gI S 124 13).toNatClampNeg) &&& 31) ) mw_671 hT_Mo_grows rfl rfl (Nat.le_of_ble_eq_true rfl) d_Mo_check_205 rfl rfl ⟨by decide, by decide⟩ ⟨Nat.zero_le _, Nat.zero_le _⟩ (j_st (st' := [.int (f_Mo_grows ((gR S 125 (gI S 124 13).toNatClampNeg) &&& 31)), .int (gI S 124 17)]) rfl ?_)
                                    refine j_topi (fun r308 e309 => ?_)
                                    replace hp := hp r308 e309
                                    replace hF := hF.trans (px_let_eq e309)
                                    refine j_iadd X d_Mo_check_208 ?_
                                    refine j_bipush X (v := 24) d_Mo_check_209 (by decide) ?_
                                    refine j_icmp_le X (tgt := 218) d_Mo_check_211 (by decide) (fun h310 => ?_) (fun h310 => ?_)
                                    · replace hp := hp.1 h310
                                      replace hF := hF.trans (if_pos h310)
                                      refine j_iconst X (v := 0) d_Mo_check_218 (by decide) ?_
                                      exact j_iret X hr hk (by rw [hF]) rfl d_Mo_check_219
                                    · replace hp := hp.2 h310
                                      replace hF := hF.trans (if_neg h310)
                                      refine j_iconst X (v := 3) d_Mo_check_214 (by decide) ?_
                                      refine j_goto X (tgt := 219) d_Mo_check_215 (by decide) ?_
                                      exact j_iret X hr hk (by rw [hF]) rfl d_Mo_check_219
                                  · replace hp := hp.1 h307
                                    replace hF := hF.trans (if_pos h307)
                                    refine j_bipush X (v := 7) d_Mo_check_197 (by decide) ?_
                                    exact j_iret X hr hk (by rw [hF]) rfl d_Mo_check_199
                              · replace hp := hp.1 h296
                                replace hF := hF.trans (if_pos h296)
                                refine j_iload_n X d_Mo_check_172 1 rfl ?_
                                refine j_iconst X (v := 1) d_Mo_check_173 (by decide) ?_
                                refine j_icmp_ge X (tgt := 180) d_Mo_check_174 (by decide) (fun h297 => ?_) (fun h297 => ?_)
                                · replace hp := hp.1 h297
                                  replace hF := hF.trans (if_pos h297)
                                  refine j_iload_n X d_Mo_check_180 2 rfl ?_
                                  refine j_bipush X (v := 18) d_Mo_check_181 (by decide) ?_
                                  refine j_icmp_ne X (tgt := 200) d_Mo_check_183 (by decide) (fun h298 => ?_) (fun h298 => ?_)
                                  · replace hp := hp.2 h298
                                    replace hF := hF.trans (if_neg h298)
                                    refine j_aload_n X d_Mo_check_200 3 rfl ?_
                                    refine j_get X fd_Mo_75_Mo 124 (by omega) y_Mo rfl d_Mo_check_201 ?_
                                    refine j_iload_n X d_Mo_check_204 2 rfl ?_
                                    refine j_callP (st := [.int (gI S 124 17)]) X hY_Mo_grows (c_Mo_grows l ((gR S 125 (gI S 124 13).toNatClampNeg) &&& 31) ) mw_671 hT_Mo_grows rfl rfl (Nat.le_of_ble_eq_true rfl) d_Mo_check_205 rfl rfl ⟨by decide, by decide⟩ ⟨Nat.zero_le _, Nat.zero_le _⟩ (j_st (st' := [.int (f_Mo_grows ((gR S 125 (gI S 124 13).toNatClampNeg) &&& 31)), .int (gI S 124 17)]) rfl ?_)
                                    refine j_topi (fun r303 e304 => ?_)
                                    replace hp := hp r303 e304
                                    replace hF := hF.trans (px_let_eq e304)
                                    refine j_iadd X d_Mo_check_208 ?_
                                    refine j_bipush X (v := 24) d_Mo_check_209 (by decide) ?_
                                    refine j_icmp_le X (tgt := 218) d_Mo_check_211 (by decide) (fun h305 => ?_) (fun h305 => ?_)
                                    · replace hp := hp.1 h305
                                      replace hF := hF.trans (if_pos h305)
                                      refine j_iconst X (v := 0) d_Mo_check_218 (by decide) ?_
                                      exact j_iret X hr hk (by rw [hF]) rfl d_Mo_check_219
                                    · replace hp := hp.2 h305
                                      replace hF := hF.trans (if_neg h305)
                                      refine j_iconst X (v := 3) d_Mo_check_214 (by decide) ?_
                                      refine j_goto X (tgt := 219) d_Mo_check_215 (by decide) ?_
                                      exact j_iret X hr hk (by rw [hF]) rfl d_Mo_check_219
                                  · replace hp := hp.1 h298
                                    replace hF := hF.trans (if_pos h298)
                                    refine j_aload_n X d_Mo_check_186 3 rfl ?_
                                    refine j_get X fd_Mo_72_Mo 124 (by omega) y_Mo rfl d_Mo_check_187 ?_
                                    refine j_aload_n X d_Mo_check_190 3 rfl ?_
                                    refine j_get X fd_Mo_60_Mo 124 (by omega) y_Mo rfl d_Mo_check_191 ?_
                                    refine j_icmp_ne X (tgt := 200) d_Mo_check_194 (by decide) (fun h299 => ?_) (fun h299 => ?_)
                                    · replace hp := hp.2 h299
                                      replace hF := hF.trans (if_neg h299)
                                      refine j_aload_n X d_Mo_check_200 3 rfl ?_
                                      refine j_get X fd_Mo_75_Mo 124 (by omega) y_Mo rfl d_Mo_check_201 ?_
                                      refine j_iload_n X d_Mo_check_204 2 rfl ?_
                                      refine j_callP (st := [.int (gI S 124 17)]) X hY_Mo_grows (c_Mo_grows l ((gR S 125 (gI S 124 13).toNatClampNeg) &&& 31) ) mw_671 hT_Mo_grows rfl rfl (Nat.le_of_ble_eq_true rfl) d_Mo_check_205 rfl rfl ⟨by decide, by decide⟩ ⟨Nat.zero_le _, Nat.zero_le _⟩ (j_st (st' := [.int (f_Mo_grows ((gR S 125 (gI S 124 13).toNatClampNeg) &&& 31)), .int (gI S 124 17)]) rfl ?_)
                                      refine j_topi (fun r300 e301 => ?_)
                                      replace hp := hp r300 e301
                                      replace hF := hF.trans (px_let_eq e301)
                                      refine j_iadd X d_Mo_check_208 ?_
                                      refine j_bipush X (v := 24) d_Mo_check_209 (by decide) ?_
                                      refine j_icmp_le X (tgt := 218) d_Mo_check_211 (by decide) (fun h302 => ?_) (fun h302 => ?_)
                                      · replace hp := hp.1 h302
                                        replace hF := hF.trans (if_pos h302)
                                        refine j_iconst X (v := 0) d_Mo_check_218 (by decide) ?_
                                        exact j_iret X hr hk (by rw [hF]) rfl d_Mo_check_219
                                      · replace hp := hp.2 h302
                                        replace hF := hF.trans (if_neg h302)
                                        refine j_iconst X (v := 3) d_Mo_check_214 (by decide) ?_
                                        refine j_goto X (tgt := 219) d_Mo_check_215 (by decide) ?_
                                        exact j_iret X hr hk (by rw [hF]) rfl d_Mo_check_219
                                    · replace hp := hp.1 h299
                                      replace hF := hF.trans (if_pos h299)
                                      refine j_bipush X (v := 7) d_Mo_check_197 (by decide) ?_
                                      exact j_iret X hr hk (by rw [hF]) rfl d_Mo_check_199
                                · replace hp := hp.2 h297
                                  replace hF := hF.trans (if_neg h297)
                                  refine j_bipush X (v := 6) d_Mo_check_177 (by decide) ?_
                                  exact j_iret X hr hk (by rw [hF]) rfl d_Mo_check_179
                            · replace hp := hp.1 h276
                              replace hF := hF.trans (if_pos h276)
                              refine j_iload_n X d_Mo_check_162 0 rfl ?_
                              refine j_if_eq X (tgt := 177) d_Mo_check_163 (by decide) (fun h277 => ?_) (fun h277 => ?_)
                              · replace hp := hp.1 h277
                                replace hF := hF.trans (if_pos h277)
                                refine j_bipush X (v := 6) d_Mo_check_177 (by decide) ?_
                                exact j_iret X hr hk (by rw [hF]) rfl d_Mo_check_179
                              · replace hp := hp.2 h277
                                replace hF := hF.trans (if_neg h277)
                                refine j_iload_n X d_Mo_check_166 2 rfl ?_
                                refine j_bipush X (v := 19) d_Mo_check_167 (by decide) ?_
                                refine j_icmp_ne X (tgt := 180) d_Mo_check_169 (by decide) (fun h278 => ?_) (fun h278 => ?_)
                                · replace hp := hp.2 h278
                                  replace hF := hF.trans (if_neg h278)
                                  refine j_iload_n X d_Mo_check_180 2 rfl ?_
                                  refine j_bipush X (v := 18) d_Mo_check_181 (by decide) ?_
                                  refine j_icmp_ne X (tgt := 200) d_Mo_check_183 (by decide) (fun h288 => ?_) (fun h288 => ?_)
                                  · replace hp := hp.2 h288
                                    replace hF := hF.trans (if_neg h288)
                                    refine j_aload_n X d_Mo_check_200 3 rfl ?_
                                    refine j_get X fd_Mo_75_Mo 124 (by omega) y_Mo rfl d_Mo_check_201 ?_
                                    refine j_iload_n X d_Mo_check_204 2 rfl ?_
                                    refine j_callP (st := [.int (gI S 124 17)]) X hY_Mo_grows (c_Mo_grows l ((gR S 125 (gI S 124 13).toNatClampNeg) &&& 31) ) mw_671 hT_Mo_grows rfl rfl (Nat.le_of_ble_eq_true rfl) d_Mo_check_205 rfl rfl ⟨by decide, by decide⟩ ⟨Nat.zero_le _, Nat.zero_le _⟩ (j_st (st' := [.int (f_Mo_grows ((gR S 125 (gI S 124 13).toNatClampNeg) &&& 31)), .int (gI S 124 17)]) rfl ?_)
                                    refine j_topi (fun r293 e294 => ?_)
                                    replace hp := hp r293 e294
                                    replace hF := hF.trans (px_let_eq e294)
                                    refine j_iadd X d_Mo_check_208 ?_
                                    refine j_bipush X (v := 24) d_Mo_check_209 (by decide) ?_
                                    refine j_icmp_le X (tgt := 218) d_Mo_check_211 (by decide) (fun h295 => ?_) (fun h295 => ?_)
                                    · replace hp := hp.1 h295
                                      replace hF := hF.trans (if_pos h295)
                                      refine j_iconst X (v := 0) d_Mo_check_218 (by decide) ?_
                                      exact j_iret X hr hk (by rw [hF]) rfl d_Mo_check_219
                                    · replace hp := hp.2 h295
                                      replace hF := hF.trans (if_neg h295)
                                      refine j_iconst X (v := 3) d_Mo_check_214 (by decide) ?_
                                      refine j_goto X (tgt := 219) d_Mo_check_215 (by decide) ?_
                                      exact j_iret X hr hk (by rw [hF]) rfl d_Mo_check_219
                                  · replace hp := hp.1 h288
                                    replace hF := hF.trans (if_pos h288)
                                    refine j_aload_n X d_Mo_check_186 3 rfl ?_
                                    refine j_get X fd_Mo_72_Mo 124 (by omega) y_Mo rfl d_Mo_check_187 ?_
                                    refine j_aload_n X d_Mo_check_190 3 rfl ?_
                                    refine j_get X fd_Mo_60_Mo 124 (by omega) y_Mo rfl d_Mo_check_191 ?_
                                    refine j_icmp_ne X (tgt := 200) d_Mo_check_194 (by decide) (fun h289 => ?_) (fun h289 => ?_)
                                    · replace hp := hp.2 h289
                                      replace hF := hF.trans (if_neg h289)
                                      refine j_aload_n X d_Mo_check_200 3 rfl ?_
                                      refine j_get X fd_Mo_75_Mo 124 (by omega) y_Mo rfl d_Mo_check_201 ?_
                                      refine j_iload_n X d_Mo_check_204 2 rfl ?_
                                      refine j_callP (st := [.int (gI S 124 17)]) X hY_Mo_grows (c_Mo_grows l ((gR S 125 (gI S 124 13).toNatClampNeg) &&& 31) ) mw_671 hT_Mo_grows rfl rfl (Nat.le_of_ble_eq_true rfl) d_Mo_check_205 rfl rfl ⟨by decide, by decide⟩ ⟨Nat.zero_le _, Nat.zero_le _⟩ (j_st (st' := [.int (f_Mo_grows ((gR S 125 (gI S 124 13).toNatClampNeg) &&& 31)), .int (gI S 124 17)]) rfl ?_)
                                      refine j_topi (fun r290 e291 => ?_)
                                      replace hp := hp r290 e291
                                      replace hF := hF.trans (px_let_eq e291)
                                      refine j_iadd X d_Mo_check_208 ?_
                                      refine j_bipush X (v := 24) d_Mo_check_209 (by decide) ?_
                                      refine j_icmp_le X (tgt := 218) d_Mo_check_211 (by decide) (fun h292 => ?_) (fun h292 => ?_)
                                      · replace hp := hp.1 h292
                                        replace hF := hF.trans (if_pos h292)
                                        refine j_iconst X (v := 0) d_Mo_check_218 (by decide) ?_
                                        exact j_iret X hr hk (by rw [hF]) rfl d_Mo_check_219
                                      · replace hp := hp.2 h292
                                        replace hF := hF.trans (if_neg h292)
                                        refine j_iconst X (v := 3) d_Mo_check_214 (by decide) ?_
                                        refine j_goto X (tgt := 219) d_Mo_check_215 (by decide) ?_
                                        exact j_iret X hr hk (by rw [hF]) rfl d_Mo_check_219
                                    · replace hp := hp.1 h289
                                      replace hF := hF.trans (if_pos h289)
                                      refine j_bipush X (v := 7) d_Mo_check_197 (by decide) ?_
                                      exact j_iret X hr hk (by rw [hF]) rfl d_Mo_check_199
                                · replace hp := hp.1 h278
                                  replace hF := hF.trans (if_pos h278)
                                  refine j_iload_n X d_Mo_check_172 1 rfl ?_
                                  refine j_iconst X (v := 1) d_Mo_check_173 (by decide) ?_
                                  refine j_icmp_ge X (tgt := 180) d_Mo_check_174 (by decide) (fun h279 => ?_) (fun h279 => ?_)
                                  · replace hp := hp.1 h279
                                    replace hF := hF.trans (if_pos h279)
                                    refine j_iload_n X d_Mo_check_180 2 rfl ?_
                                    refine j_bipush X (v := 18) d_Mo_check_181 (by decide) ?_
                                    refine j_icmp_ne X (tgt := 200) d_Mo_check_183 (by decide) (fun h280 => ?_) (fun h280 => ?_)
                                    · replace hp := hp.2 h280
                                      replace hF := hF.trans (if_neg h280)
                                      refine j_aload_n X d_Mo_check_200 3 rfl ?_
                                      refine j_get X fd_Mo_75_Mo 124 (by omega) y_Mo rfl d_Mo_check_201 ?_
                                      refine j_iload_n X d_Mo_check_204 2 rfl ?_
                                      refine j_callP (st := [.int (gI S 124 17)]) X hY_Mo_grows (c_Mo_grows l ((gR S 125 (gI S 124 13).toNatClampNeg) &&& 31) ) mw_671 hT_Mo_grows rfl rfl (Nat.le_of_ble_eq_true rfl) d_Mo_check_205 rfl rfl ⟨by decide, by decide⟩ ⟨Nat.zero_le _, Nat.zero_le _⟩ (j_st (st' := [.int (f_Mo_grows ((gR S 125 (gI S 124 13).toNatClampNeg) &&& 31)), .int (gI S 124 17)]) rfl ?_)
                                      refine j_topi (fun r285 e286 => ?_)
                                      replace hp := hp r285 e286
                                      replace hF := hF.trans (px_let_eq e286)
                                      refine j_iadd X d_Mo_check_208 ?_
                                      refine j_bipush X (v := 24) d_Mo_check_209 (by decide) ?_
                                      refine j_icmp_le X (tgt := 218) d_Mo_check_211 (by decide) (fun h287 => ?_) (fun h287 => ?_)
                                      · replace hp := hp.1 h287
                                        replace hF := hF.trans (if_pos h287)
                                        refine j_iconst X (v := 0) d_Mo_check_218 (by decide) ?_
                                        exact j_iret X hr hk (by rw [hF]) rfl d_Mo_check_219
                                      · replace hp := hp.2 h287
                                        replace hF := hF.trans (if_neg h287)
                                        refine j_iconst X (v := 3) d_Mo_check_214 (by decide) ?_
                                        refine j_goto X (tgt := 219) d_Mo_check_215 (by decide) ?_
                                        exact j_iret X hr hk (by rw [hF]) rfl d_Mo_check_219
                                    · replace hp := hp.1 h280
                                      replace hF := hF.trans (if_pos h280)
                                      refine j_aload_n X d_Mo_check_186 3 rfl ?_
                                      refine j_get X fd_Mo_72_Mo 124 (by omega) y_Mo rfl d_Mo_check_187 ?_
                                      refine j_aload_n X d_Mo_check_190 3 rfl ?_
                                      refine j_get X fd_Mo_60_Mo 124 (by omega) y_Mo rfl d_Mo_check_191 ?_
                                      refine j_icmp_ne X (tgt := 200) d_Mo_check_194 (by decide) (fun h281 => ?_) (fun h281 => ?_)
                                      · replace hp := hp.2 h281
                                        replace hF := hF.trans (if_neg h281)
                                        refine j_aload_n X d_Mo_check_200 3 rfl ?_
                                        refine j_get X fd_Mo_75_Mo 124 (by omega) y_Mo rfl d_Mo_check_201 ?_
                                        refine j_iload_n X d_Mo_check_204 2 rfl ?_
                                        refine j_callP (st := [.int (gI S 124 17)]) X hY_Mo_grows (c_Mo_grows l ((gR S 125 (gI S 124 13).toNatClampNeg) &&& 31) ) mw_671 hT_Mo_grows rfl rfl (Nat.le_of_ble_eq_true rfl) d_Mo_check_205 rfl rfl ⟨by decide, by decide⟩ ⟨Nat.zero_le _, Nat.zero_le _⟩ (j_st (st' := [.int (f_Mo_grows ((gR S 125 (gI S 124 13).toNatClampNeg) &&& 31)), .int (gI S 124 17)]) rfl ?_)
                                        refine j_topi (fun r282 e283 => ?_)
                                        replace hp := hp r282 e283
                                        replace hF := hF.trans (px_let_eq e283)
                                        refine j_iadd X d_Mo_check_208 ?_
                                        refine j_bipush X (v := 24) d_Mo_check_209 (by decide) ?_
                                        refine j_icmp_le X (tgt := 218) d_Mo_check_211 (by decide) (fun h284 => ?_) (fun h284 => ?_)
                                        · replace hp := hp.1 h284
                                          replace hF := hF.trans (if_pos h284)
                                          refine j_iconst X (v := 0) d_Mo_check_218 (by decide) ?_
                                          exact j_iret X hr hk (by rw [hF]) rfl d_Mo_check_219
                                        · replace hp := hp.2 h284
                                          replace hF := hF.trans (if_neg h284)
                                          refine j_iconst X (v := 3) d_Mo_check_214 (by decide) ?_
                                          refine j_goto X (tgt := 219) d_Mo_check_215 (by decide) ?_
                                          exact j_iret X hr hk (by rw [hF]) rfl d_Mo_check_219
                                      · replace hp := hp.1 h281
                                        replace hF := hF.trans (if_pos h281)
                                        refine j_bipush X (v := 7) d_Mo_check_197 (by decide) ?_
                                        exact j_iret X hr hk (by rw [hF]) rfl d_Mo_check_199
                                  · replace hp := hp.2 h279
                                    replace hF := hF.trans (if_neg h279)
                                    refine j_bipush X (v := 6) d_Mo_check_177 (by decide) ?_
                                    exact j_iret X hr hk (by rw [hF]) rfl d_Mo_check_179
                          · replace hp := hp.2 h275
                            replace hF := hF.trans (if_neg h275)
                            refine j_iconst X (v := 4) d_Mo_check_154 (by decide) ?_
                            exact j_iret X hr hk (by rw [hF]) rfl d_Mo_check_155
                      · replace hp := hp.2 h273
                        replace hF := hF.trans (if_neg h273)
                        refine j_iload_n X d_Mo_check_138 2 rfl ?_
                        refine j_bipush X (v := 11) d_Mo_check_139 (by decide) ?_
                        refine j_icmp_ne X (tgt := 156) d_Mo_check_141 (by decide) (fun h314 => ?_) (fun h314 => ?_)
                        · replace hp := hp.2 h314
                          replace hF := hF.trans (if_neg h314)
                          refine j_iload_n X d_Mo_check_156 2 rfl ?_
                          refine j_bipush X (v := 8) d_Mo_check_157 (by decide) ?_
                          refine j_icmp_ne X (tgt := 166) d_Mo_check_159 (by decide) (fun h355 => ?_) (fun h355 => ?_)
                          · replace hp := hp.2 h355
                            replace hF := hF.trans (if_neg h355)
                            refine j_iload_n X d_Mo_check_166 2 rfl ?_
                            refine j_bipush X (v := 19) d_Mo_check_167 (by decide) ?_
                            refine j_icmp_ne X (tgt := 180) d_Mo_check_169 (by decide) (fun h375 => ?_) (fun h375 => ?_)
                            · replace hp := hp.2 h375
                              replace hF := hF.trans (if_neg h375)
                              refine j_iload_n X d_Mo_check_180 2 rfl ?_
                              refine j_bipush X (v := 18) d_Mo_check_181 (by decide) ?_
                              refine j_icmp_ne X (tgt := 200) d_Mo_check_183 (by decide) (fun h385 => ?_) (fun h385 => ?_)
                              · replace hp := hp.2 h385
                                replace hF := hF.trans (if_neg h385)
                                refine j_aload_n X d_Mo_check_200 3 rfl ?_
                                refine j_get X fd_Mo_75_Mo 124 (by omega) y_Mo rfl d_Mo_check_201 ?_
                                refine j_iload_n X d_Mo_check_204 2 rfl ?_
                                refine j_callP (st := [.int (gI S 124 17)]) X hY_Mo_grows (c_Mo_grows l ((gR S 125 (gI S 124 13).toNatClampNeg) &&& 31) ) mw_671 hT_Mo_grows rfl rfl (Nat.le_of_ble_eq_true rfl) d_Mo_check_205 rfl rfl ⟨by decide, by decide⟩ ⟨Nat.zero_le _, Nat.zero_le _⟩ (j_st (st' := [.int (f_Mo_grows ((gR S 125 (gI S 124 13).toNatClampNeg) &&& 31)), .int (gI S 124 17)]) rfl ?_)
                                refine j_topi (fun r390 e391 => ?_)
                                replace hp := hp r390 e391
                                replace hF := hF.trans (px_let_eq e391)
                                refine j_iadd X d_Mo_check_208 ?_
                                refine j_bipush X (v := 24) d_Mo_check_209 (by decide) ?_
                                refine j_icmp_le X (tgt := 218) d_Mo_check_211 (by decide) (fun h392 => ?_) (fun h392 => ?_)
                                · replace hp := hp.1 h392
                                  replace hF := hF.trans (if_pos h392)
                                  refine j_iconst X (v := 0) d_Mo_check_218 (by decide) ?_
                                  exact j_iret X hr hk (by rw [hF]) rfl d_Mo_check_219
                                · replace hp := hp.2 h392
                                  replace hF := hF.trans (if_neg h392)
                                  refine j_iconst X (v := 3) d_Mo_check_214 (by decide) ?_
                                  refine j_goto X (tgt := 219) d_Mo_check_215 (by decide) ?_
                                  exact j_iret X hr hk (by rw [hF]) rfl d_Mo_check_219
                              · replace hp := hp.1 h385
                                replace hF := hF.trans (if_pos h385)
                                refine j_aload_n X d_Mo_check_186 3 rfl ?_
                                refine j_get X fd_Mo_72_Mo 124 (by omega) y_Mo rfl d_Mo_check_187 ?_
                                refine j_aload_n X d_Mo_check_190 3 rfl ?_
                                refine j_get X fd_Mo_60_Mo 124 (by omega) y_Mo rfl d_Mo_check_191 ?_
                                refine j_icmp_ne X (tgt := 200) d_Mo_check_194 (by decide) (fun h386 => ?_) (fun h386 => ?_)
                                · replace hp := hp.2 h386
                                  replace hF := hF.trans (if_neg h386)
                                  refine j_aload_n X d_Mo_check_200 3 rfl ?_
                                  refine j_get X fd_Mo_75_Mo 124 (by omega) y_Mo rfl d_Mo_check_201 ?_
                                  refine j_iload_n X d_Mo_check_204 2 rfl ?_
                                  refine j_callP (st := [.int (gI S 124 17)]) X hY_Mo_grows (c_Mo_grows l ((gR S 125 (gI S 124 13).toNatClampNeg) &&& 31) ) mw_671 hT_Mo_grows rfl rfl (Nat.le_of_ble_eq_true rfl) d_Mo_check_205 rfl rfl ⟨by decide, by decide⟩ ⟨Nat.zero_le _, Nat.zero_le _⟩ (j_st (st' := [.int (f_Mo_grows ((gR S 125 (gI S 124 13).toNatClampNeg) &&& 31)), .int (gI S 124 17)]) rfl ?_)
                                  refine j_topi (fun r387 e388 => ?_)
                                  replace hp := hp r387 e388
                                  replace hF := hF.trans (px_let_eq e388)
                                  refine j_iadd X d_Mo_check_208 ?_
                                  refine j_bipush X (v := 24) d_Mo_check_209 (by decide) ?_
                                  refine j_icmp_le X (tgt := 218) d_Mo_check_211 (by decide) (fun h389 => ?_) (fun h389 => ?_)
                                  · replace hp := hp.1 h389
                                    replace hF := hF.trans (if_pos h389)
                                    refine j_iconst X (v := 0) d_Mo_check_218 (by decide) ?_
                                    exact j_iret X hr hk (by rw [hF]) rfl d_Mo_check_219
                                  · replace hp := hp.2 h389
                                    replace hF := hF.trans (if_neg h389)
                                    refine j_iconst X (v := 3) d_Mo_check_214 (by decide) ?_
                                    refine j_goto X (tgt := 219) d_Mo_check_215 (by decide) ?_
                                    exact j_iret X hr hk (by rw [hF]) rfl d_Mo_check_219
                                · replace hp := hp.1 h386
                                  replace hF := hF.trans (if_pos h386)
                                  refine j_bipush X (v := 7) d_Mo_check_197 (by decide) ?_
                                  exact j_iret X hr hk (by rw [hF]) rfl d_Mo_check_199
                            · replace hp := hp.1 h375
                              replace hF := hF.trans (if_pos h375)
                              refine j_iload_n X d_Mo_check_172 1 rfl ?_
                              refine j_iconst X (v := 1) d_Mo_check_173 (by decide) ?_
                              refine j_icmp_ge X (tgt := 180) d_Mo_check_174 (by decide) (fun h376 => ?_) (fun h376 => ?_)
                              · replace hp := hp.1 h376
                                replace hF := hF.trans (if_pos h376)
                                refine j_iload_n X d_Mo_check_180 2 rfl ?_
                                refine j_bipush X (v := 18) d_Mo_check_181 (by decide) ?_
                                refine j_icmp_ne X (tgt := 200) d_Mo_check_183 (by decide) (fun h377 => ?_) (fun h377 => ?_)
                                · replace hp := hp.2 h377
                                  replace hF := hF.trans (if_neg h377)
                                  refine j_aload_n X d_Mo_check_200 3 rfl ?_
                                  refine j_get X fd_Mo_75_Mo 124 (by omega) y_Mo rfl d_Mo_check_201 ?_
                                  refine j_iload_n X d_Mo_check_204 2 rfl ?_
                                  refine j_callP (st := [.int (gI S 124 17)]) X hY_Mo_grows (c_Mo_grows l ((gR S 125 (gI S 124 13).toNatClampNeg) &&& 31) ) mw_671 hT_Mo_grows rfl rfl (Nat.le_of_ble_eq_true rfl) d_Mo_check_205 rfl rfl ⟨by decide, by decide⟩ ⟨Nat.zero_le _, Nat.zero_le _⟩ (j_st (st' := [.int (f_Mo_grows ((gR S 125 (gI S 124 13).toNatClampNeg) &&& 31)), .int (gI S 124 17)]) rfl ?_)
                                  refine j_topi (fun r382 e383 => ?_)
                                  replace hp := hp r382 e383
                                  replace hF := hF.trans (px_let_eq e383)
                                  refine j_iadd X d_Mo_check_208 ?_
                                  refine j_bipush X (v := 24) d_Mo_check_209 (by decide) ?_
                                  refine j_icmp_le X (tgt := 218) d_Mo_check_211 (by decide) (fun h384 => ?_) (fun h384 => ?_)
                                  · replace hp := hp.1 h384
                                    replace hF := hF.trans (if_pos h384)
                                    refine j_iconst X (v := 0) d_Mo_check_218 (by decide) ?_
                                    exact j_iret X hr hk (by rw [hF]) rfl d_Mo_check_219
                                  · replace hp := hp.2 h384
                                    replace hF := hF.trans (if_neg h384)
                                    refine j_iconst X (v := 3) d_Mo_check_214 (by decide) ?_
                                    refine j_goto X (tgt := 219) d_Mo_check_215 (by decide) ?_
                                    exact j_iret X hr hk (by rw [hF]) rfl d_Mo_check_219
                                · replace hp := hp.1 h377
                                  replace hF := hF.trans (if_pos h377)
                                  refine j_aload_n X d_Mo_check_186 3 rfl ?_
                                  refine j_get X fd_Mo_72_Mo 124 (by omega) y_Mo rfl d_Mo_check_187 ?_
                                  refine j_aload_n X d_Mo_check_190 3 rfl ?_
                                  refine j_get X fd_Mo_60_Mo 124 (by omega) y_Mo rfl d_Mo_check_191 ?_
                                  refine j_icmp_ne X (tgt := 200) d_Mo_check_194 (by decide) (fun h378 => ?_) (fun h378 => ?_)
                                  · replace hp := hp.2 h378
                                    replace hF := hF.trans (if_neg h378)
                                    refine j_aload_n X d_Mo_check_200 3 rfl ?_
                                    refine j_get X fd_Mo_75_Mo 124 (by omega) y_Mo rfl d_Mo_check_201 ?_
                                    refine j_iload_n X d_Mo_check_204 2 rfl ?_
                                    refine j_callP (st := [.int (gI S 124 17)]) X hY_Mo_grows (c_Mo_grows l ((gR S 125 (gI S 124 13).toNatClampNeg) &&& 31) ) mw_671 hT_Mo_grows rfl rfl (Nat.le_of_ble_eq_true rfl) d_Mo_check_205 rfl rfl ⟨by decide, by decide⟩ ⟨Nat.zero_le _, Nat.zero_le _⟩ (j_st (st' := [.int (f_Mo_grows ((gR S 125 (gI S 124 13).toNatClampNeg) &&& 31)), .int (gI S 124 17)]) rfl ?_)
                                    refine j_topi (fun r379 e380 => ?_)
                                    replace hp := hp r379 e380
                                    replace hF := hF.trans (px_let_eq e380)
                                    refine j_iadd X d_Mo_check_208 ?_
                                    refine j_bipush X (v := 24) d_Mo_check_209 (by decide) ?_
                                    refine j_icmp_le X (tgt := 218) d_Mo_check_211 (by decide) (fun h381 => ?_) (fun h381 => ?_)
                                    · replace hp := hp.1 h381
                                      replace hF := hF.trans (if_pos h381)
                                      refine j_iconst X (v := 0) d_Mo_check_218 (by decide) ?_
                                      exact j_iret X hr hk (by rw [hF]) rfl d_Mo_check_219
                                    · replace hp := hp.2 h381
                                      replace hF := hF.trans (if_neg h381)
                                      refine j_iconst X (v := 3) d_Mo_check_214 (by decide) ?_
                                      refine j_goto X (tgt := 219) d_Mo_check_215 (by decide) ?_
                                      exact j_iret X hr hk (by rw [hF]) rfl d_Mo_check_219
                                  · replace hp := hp.1 h378
                                    replace hF := hF.trans (if_pos h378)
                                    refine j_bipush X (v := 7) d_Mo_check_197 (by decide) ?_
                                    exact j_iret X hr hk (by rw [hF]) rfl d_Mo_check_199
                              · replace hp := hp.2 h376
                                replace hF := hF.trans (if_neg h376)
                                refine j_bipush X (v := 6) d_Mo_check_177 (by decide) ?_
                                exact j_iret X hr hk (by rw [hF]) rfl d_Mo_check_179
                          · replace hp := hp.1 h355
                            replace hF := hF.trans (if_pos h355)
                            refine j_iload_n X d_Mo_check_162 0 rfl ?_
                            refine j_if_eq X (tgt := 177) d_Mo_check_163 (by decide) (fun h356 => ?_) (fun h356 => ?_)
                            · replace hp := hp.1 h356
                              replace hF := hF.trans (if_pos h356)
                              refine j_bipush X (v := 6) d_Mo_check_177 (by decide) ?_
                              exact j_iret X hr hk (by rw [hF]) rfl d_Mo_check_179
                            · replace hp := hp.2 h356
                              replace hF := hF.trans (if_neg h356)
                              refine j_iload_n X d_Mo_check_166 2 rfl ?_
                              refine j_bipush X (v := 19) d_Mo_check_167 (by decide) ?_
                              refine j_icmp_ne X (tgt := 180) d_Mo_check_169 (by decide) (fun h357 => ?_) (fun h357 => ?_)
                              · replace hp := hp.2 h357
                                replace hF := hF.trans (if_neg h357)
                                refine j_iload_n X d_Mo_check_180 2 rfl ?_
                                refine j_bipush X (v := 18) d_Mo_check_181 (by decide) ?_
                                refine j_icmp_ne X (tgt := 200) d_Mo_check_183 (by decide) (fun h367 => ?_) (fun h367 => ?_)
                                · replace hp := hp.2 h367
                                  replace hF := hF.trans (if_neg h367)
                                  refine j_aload_n X d_Mo_check_200 3 rfl ?_
                                  refine j_get X fd_Mo_75_Mo 124 (by omega) y_Mo rfl d_Mo_check_201 ?_
                                  refine j_iload_n X d_Mo_check_204 2 rfl ?_
                                  refine j_callP (st := [.int (gI S 124 17)]) X hY_Mo_grows (c_Mo_grows l ((gR S 125 (gI S 124 13).toNatClampNeg) &&& 31) ) mw_671 hT_Mo_grows rfl rfl (Nat.le_of_ble_eq_true rfl) d_Mo_check_205 rfl rfl ⟨by decide, by decide⟩ ⟨Nat.zero_le _, Nat.zero_le _⟩ (j_st (st' := [.int (f_Mo_grows ((gR S 125 (gI S 124 13).toNatClampNeg) &&& 31)), .int (gI S 124 17)]) rfl ?_)
                                  refine j_topi (fun r372 e373 => ?_)
                                  replace hp := hp r372 e373
                                  replace hF := hF.trans (px_let_eq e373)
                                  refine j_iadd X d_Mo_check_208 ?_
                                  refine j_bipush X (v := 24) d_Mo_check_209 (by decide) ?_
                                  refine j_icmp_le X (tgt := 218) d_Mo_check_211 (by decide) (fun h374 => ?_) (fun h374 => ?_)
                                  · replace hp := hp.1 h374
                                    replace hF := hF.trans (if_pos h374)
                                    refine j_iconst X (v := 0) d_Mo_check_218 (by decide) ?_
                                    exact j_iret X hr hk (by rw [hF]) rfl d_Mo_check_219
                                  · replace hp := hp.2 h374
                                    replace hF := hF.trans (if_neg h374)
                                    refine j_iconst X (v := 3) d_Mo_check_214 (by decide) ?_
                                    refine j_goto X (tgt := 219) d_Mo_check_215 (by decide) ?_
                                    exact j_iret X hr hk (by rw [hF]) rfl d_Mo_check_219
                                · replace hp := hp.1 h367
                                  replace hF := hF.trans (if_pos h367)
                                  refine j_aload_n X d_Mo_check_186 3 rfl ?_
                                  refine j_get X fd_Mo_72_Mo 124 (by omega) y_Mo rfl d_Mo_check_187 ?_
                                  refine j_aload_n X d_Mo_check_190 3 rfl ?_
                                  refine j_get X fd_Mo_60_Mo 124 (by omega) y_Mo rfl d_Mo_check_191 ?_
                                  refine j_icmp_ne X (tgt := 200) d_Mo_check_194 (by decide) (fun h368 => ?_) (fun h368 => ?_)
                                  · replace hp := hp.2 h368
                                    replace hF := hF.trans (if_neg h368)
                                    refine j_aload_n X d_Mo_check_200 3 rfl ?_
                                    refine j_get X fd_Mo_75_Mo 124 (by omega) y_Mo rfl d_Mo_check_201 ?_
                                    refine j_iload_n X d_Mo_check_204 2 rfl ?_
                                    refine j_callP (st := [.int (gI S 124 17)]) X hY_Mo_grows (c_Mo_grows l ((gR S 125 (gI S 124 13).toNatClampNeg) &&& 31) ) mw_671 hT_Mo_grows rfl rfl (Nat.le_of_ble_eq_true rfl) d_Mo_check_205 rfl rfl ⟨by decide, by decide⟩ ⟨Nat.zero_le _, Nat.zero_le _⟩ (j_st (st' := [.int (f_Mo_grows ((gR S 125 (gI S 124 13).toNatClampNeg) &&& 31)), .int (gI S 124 17)]) rfl ?_)
                                    refine j_topi (fun r369 e370 => ?_)
                                    replace hp := hp r369 e370
                                    replace hF := hF.trans (px_let_eq e370)
                                    refine j_iadd X d_Mo_check_208 ?_
                                    refine j_bipush X (v := 24) d_Mo_check_209 (by decide) ?_
                                    refine j_icmp_le X (tgt := 218) d_Mo_check_211 (by decide) (fun h371 => ?_) (fun h371 => ?_)
                                    · replace hp := hp.1 h371
                                      replace hF := hF.trans (if_pos h371)
                                      refine j_iconst X (v := 0) d_Mo_check_218 (by decide) ?_
                                      exact j_iret X hr hk (by rw [hF]) rfl d_Mo_check_219
                                    · replace hp := hp.2 h371
                                      replace hF := hF.trans (if_neg h371)
                                      refine j_iconst X (v := 3) d_Mo_check_214 (by decide) ?_
                                      refine j_goto X (tgt := 219) d_Mo_check_215 (by decide) ?_
                                      exact j_iret X hr hk (by rw [hF]) rfl d_Mo_check_219
                                  · replace hp := hp.1 h368
                                    replace hF := hF.trans (if_pos h368)
                                    refine j_bipush X (v := 7) d_Mo_check_197 (by decide) ?_
                                    exact j_iret X hr hk (by rw [hF]) rfl d_Mo_check_199
                              · replace hp := hp.1 h357
                                replace hF := hF.trans (if_pos h357)
                                refine j_iload_n X d_Mo_check_172 1 rfl ?_
                                refine j_iconst X (v := 1) d_Mo_check_173 (by decide) ?_
                                refine j_icmp_ge X (tgt := 180) d_Mo_check_174 (by decide) (fun h358 => ?_) (fun h358 => ?_)
                                · replace hp := hp.1 h358
                                  replace hF := hF.trans (if_pos h358)
                                  refine j_iload_n X d_Mo_check_180 2 rfl ?_
                                  refine j_bipush X (v := 18) d_Mo_check_181 (by decide) ?_
                                  refine j_icmp_ne X (tgt := 200) d_Mo_check_183 (by decide) (fun h359 => ?_) (fun h359 => ?_)
                                  · replace hp := hp.2 h359
                                    replace hF := hF.trans (if_neg h359)
                                    refine j_aload_n X d_Mo_check_200 3 rfl ?_
                                    refine j_get X fd_Mo_75_Mo 124 (by omega) y_Mo rfl d_Mo_check_201 ?_
                                    refine j_iload_n X d_Mo_check_204 2 rfl ?_
                                    refine j_callP (st := [.int (gI S 124 17)]) X hY_Mo_grows (c_Mo_grows l ((gR S 125 (gI S 124 13).toNatClampNeg) &&& 31) ) mw_671 hT_Mo_grows rfl rfl (Nat.le_of_ble_eq_true rfl) d_Mo_check_205 rfl rfl ⟨by decide, by decide⟩ ⟨Nat.zero_le _, Nat.zero_le _⟩ (j_st (st' := [.int (f_Mo_grows ((gR S 125 (gI S 124 13).toNatClampNeg) &&& 31)), .int (gI S 124 17)]) rfl ?_)
                                    refine j_topi (fun r364 e365 => ?_)
                                    replace hp := hp r364 e365
                                    replace hF := hF.trans (px_let_eq e365)
                                    refine j_iadd X d_Mo_check_208 ?_
                                    refine j_bipush X (v := 24) d_Mo_check_209 (by decide) ?_
                                    refine j_icmp_le X (tgt := 218) d_Mo_check_211 (by decide) (fun h366 => ?_) (fun h366 => ?_)
                                    · replace hp := hp.1 h366
                                      replace hF := hF.trans (if_pos h366)
                                      refine j_iconst X (v := 0) d_Mo_check_218 (by decide) ?_
                                      exact j_iret X hr hk (by rw [hF]) rfl d_Mo_check_219
                                    · replace hp := hp.2 h366
                                      replace hF := hF.trans (if_neg h366)
                                      refine j_iconst X (v := 3) d_Mo_check_214 (by decide) ?_
                                      refine j_goto X (tgt := 219) d_Mo_check_215 (by decide) ?_
                                      exact j_iret X hr hk (by rw [hF]) rfl d_Mo_check_219
                                  · replace hp := hp.1 h359
                                    replace hF := hF.trans (if_pos h359)
                                    refine j_aload_n X d_Mo_check_186 3 rfl ?_
                                    refine j_get X fd_Mo_72_Mo 124 (by omega) y_Mo rfl d_Mo_check_187 ?_
                                    refine j_aload_n X d_Mo_check_190 3 rfl ?_
                                    refine j_get X fd_Mo_60_Mo 124 (by omega) y_Mo rfl d_Mo_check_191 ?_
                                    refine j_icmp_ne X (tgt := 200) d_Mo_check_194 (by decide) (fun h360 => ?_) (fun h360 => ?_)
                                    · replace hp := hp.2 h360
                                      replace hF := hF.trans (if_neg h360)
                                      refine j_aload_n X d_Mo_check_200 3 rfl ?_
                                      refine j_get X fd_Mo_75_Mo 124 (by omega) y_Mo rfl d_Mo_check_201 ?_
                                      refine j_iload_n X d_Mo_check_204 2 rfl ?_
                                      refine j_callP (st := [.int (gI S 124 17)]) X hY_Mo_grows (c_Mo_grows l ((gR S 125 (gI S 124 13).toNatClampNeg) &&& 31) ) mw_671 hT_Mo_grows rfl rfl (Nat.le_of_ble_eq_true rfl) d_Mo_check_205 rfl rfl ⟨by decide, by decide⟩ ⟨Nat.zero_le _, Nat.zero_le _⟩ (j_st (st' := [.int (f_Mo_grows ((gR S 125 (gI S 124 13).toNatClampNeg) &&& 31)), .int (gI S 124 17)]) rfl ?_)
                                      refine j_topi (fun r361 e362 => ?_)
                                      replace hp := hp r361 e362
                                      replace hF := hF.trans (px_let_eq e362)
                                      refine j_iadd X d_Mo_check_208 ?_
                                      refine j_bipush X (v := 24) d_Mo_check_209 (by decide) ?_
                                      refine j_icmp_le X (tgt := 218) d_Mo_check_211 (by decide) (fun h363 => ?_) (fun h363 => ?_)
                                      · replace hp := hp.1 h363
                                        replace hF := hF.trans (if_pos h363)
                                        refine j_iconst X (v := 0) d_Mo_check_218 (by decide) ?_
                                        exact j_iret X hr hk (by rw [hF]) rfl d_Mo_check_219
                                      · replace hp := hp.2 h363
                                        replace hF := hF.trans (if_neg h363)
                                        refine j_iconst X (v := 3) d_Mo_check_214 (by decide) ?_
                                        refine j_goto X (tgt := 219) d_Mo_check_215 (by decide) ?_
                                        exact j_iret X hr hk (by rw [hF]) rfl d_Mo_check_219
                                    · replace hp := hp.1 h360
                                      replace hF := hF.trans (if_pos h360)
                                      refine j_bipush X (v := 7) d_Mo_check_197 (by decide) ?_
                                      exact j_iret X hr hk (by rw [hF]) rfl d_Mo_check_199
                                · replace hp := hp.2 h358
                                  replace hF := hF.trans (if_neg h358)
                                  refine j_bipush X (v := 6) d_Mo_check_177 (by decide) ?_
                                  exact j_iret X hr hk (by rw [hF]) rfl d_Mo_check_179
                        · replace hp := hp.1 h314
                          replace hF := hF.trans (if_pos h314)
                          refine j_iload_n X d_Mo_check_144 0 rfl ?_
                          refine j_if_lt X (tgt := 154) d_Mo_check_145 (by decide) (fun h315 => ?_) (fun h315 => ?_)
                          · replace hp := hp.1 h315
                            replace hF := hF.trans (if_pos h315)
                            refine j_iconst X (v := 4) d_Mo_check_154 (by decide) ?_
                            exact j_iret X hr hk (by rw [hF]) rfl d_Mo_check_155
                          · replace hp := hp.2 h315
                            replace hF := hF.trans (if_neg h315)
                            refine j_iload_n X d_Mo_check_148 0 rfl ?_
                            refine j_bipush X (v := 32) d_Mo_check_149 (by decide) ?_
                            refine j_icmp_lt X (tgt := 156) d_Mo_check_151 (by decide) (fun h316 => ?_) (fun h316 => ?_)
                            · replace hp := hp.1 h316
                              replace hF := hF.trans (if_pos h316)
                              refine j_iload_n X d_Mo_check_156 2 rfl ?_
                              refine j_bipush X (v := 8) d_Mo_check_157 (by decide) ?_
                              refine j_icmp_ne X (tgt := 166) d_Mo_check_159 (by decide) (fun h317 => ?_) (fun h317 => ?_)
                              · replace hp := hp.2 h317
                                replace hF := hF.trans (if_neg h317)
                                refine j_iload_n X d_Mo_check_166 2 rfl ?_
                                refine j_bipush X (v := 19) d_Mo_check_167 (by decide) ?_
                                refine j_icmp_ne X (tgt := 180) d_Mo_check_169 (by decide) (fun h337 => ?_) (fun h337 => ?_)
                                · replace hp := hp.2 h337
                                  replace hF := hF.trans (if_neg h337)
                                  refine j_iload_n X d_Mo_check_180 2 rfl ?_
                                  refine j_bipush X (v := 18) d_Mo_check_181 (by decide) ?_
                                  refine j_icmp_ne X (tgt := 200) d_Mo_check_183 (by decide) (fun h347 => ?_) (fun h347 => ?_)
                                  · replace hp := hp.2 h347
                                    replace hF := hF.trans (if_neg h347)
                                    refine j_aload_n X d_Mo_check_200 3 rfl ?_
                                    refine j_get X fd_Mo_75_Mo 124 (by omega) y_Mo rfl d_Mo_check_201 ?_
                                    refine j_iload_n X d_Mo_check_204 2 rfl ?_
                                    refine j_callP (st := [.int (gI S 124 17)]) X hY_Mo_grows (c_Mo_grows l ((gR S 125 (gI S 124 13).toNatClampNeg) &&& 31) ) mw_671 hT_Mo_grows rfl rfl (Nat.le_of_ble_eq_true rfl) d_Mo_check_205 rfl rfl ⟨by decide, by decide⟩ ⟨Nat.zero_le _, Nat.zero_le _⟩ (j_st (st' := [.int (f_Mo_grows ((gR S 125 (gI S 124 13).toNatClampNeg) &&& 31)), .int (gI S 124 17)]) rfl ?_)
                                    refine j_topi (fun r352 e353 => ?_)
                                    replace hp := hp r352 e353
                                    replace hF := hF.trans (px_let_eq e353)
                                    refine j_iadd X d_Mo_check_208 ?_
                                    refine j_bipush X (v := 24) d_Mo_check_209 (by decide) ?_
                                    refine j_icmp_le X (tgt := 218) d_Mo_check_211 (by decide) (fun h354 => ?_) (fun h354 => ?_)
                                    · replace hp := hp.1 h354
                                      replace hF := hF.trans (if_pos h354)
                                      refine j_iconst X (v := 0) d_Mo_check_218 (by decide) ?_
                                      exact j_iret X hr hk (by rw [hF]) rfl d_Mo_check_219
                                    · replace hp := hp.2 h354
                                      replace hF := hF.trans (if_neg h354)
                                      refine j_iconst X (v := 3) d_Mo_check_214 (by decide) ?_
                                      refine j_goto X (tgt := 219) d_Mo_check_215 (by decide) ?_
                                      exact j_iret X hr hk (by rw [hF]) rfl d_Mo_check_219
                                  · replace hp := hp.1 h347
                                    replace hF := hF.trans (if_pos h347)
                                    refine j_aload_n X d_Mo_check_186 3 rfl ?_
                                    refine j_get X fd_Mo_72_Mo 124 (by omega) y_Mo rfl d_Mo_check_187 ?_
                                    refine j_aload_n X d_Mo_check_190 3 rfl ?_
                                    refine j_get X fd_Mo_60_Mo 124 (by omega) y_Mo rfl d_Mo_check_191 ?_
                                    refine j_icmp_ne X (tgt := 200) d_Mo_check_194 (by decide) (fun h348 => ?_) (fun h348 => ?_)
                                    · replace hp := hp.2 h348
                                      replace hF := hF.trans (if_neg h348)
                                      refine j_aload_n X d_Mo_check_200 3 rfl ?_
                                      refine j_get X fd_Mo_75_Mo 124 (by omega) y_Mo rfl d_Mo_check_201 ?_
                                      refine j_iload_n X d_Mo_check_204 2 rfl ?_
                                      refine j_callP (st := [.int (gI S 124 17)]) X hY_Mo_grows (c_Mo_grows l ((gR S 125 (gI S 124 13).toNatClampNeg) &&& 31) ) mw_671 hT_Mo_grows rfl rfl (Nat.le_of_ble_eq_true rfl) d_Mo_check_205 rfl rfl ⟨by decide, by decide⟩ ⟨Nat.zero_le _, Nat.zero_le _⟩ (j_st (st' := [.int (f_Mo_grows ((gR S 125 (gI S 124 13).toNatClampNeg) &&& 31)), .int (gI S 124 17)]) rfl ?_)
                                      refine j_topi (fun r349 e350 => ?_)
                                      replace hp := hp r349 e350
                                      replace hF := hF.trans (px_let_eq e350)
                                      refine j_iadd X d_Mo_check_208 ?_
                                      refine j_bipush X (v := 24) d_Mo_check_209 (by decide) ?_
                                      refine j_icmp_le X (tgt := 218) d_Mo_check_211 (by decide) (fun h351 => ?_) (fun h351 => ?_)
                                      · replace hp := hp.1 h351
                                        replace hF := hF.trans (if_pos h351)
                                        refine j_iconst X (v := 0) d_Mo_check_218 (by decide) ?_
                                        exact j_iret X hr hk (by rw [hF]) rfl d_Mo_check_219
                                      · replace hp := hp.2 h351
                                        replace hF := hF.trans (if_neg h351)
                                        refine j_iconst X (v := 3) d_Mo_check_214 (by decide) ?_
                                        refine j_goto X (tgt := 219) d_Mo_check_215 (by decide) ?_
                                        exact j_iret X hr hk (by rw [hF]) rfl d_Mo_check_219
                                    · replace hp := hp.1 h348
                                      replace hF := hF.trans (if_pos h348)
                                      refine j_bipush X (v := 7) d_Mo_check_197 (by decide) ?_
                                      exact j_iret X hr hk (by rw [hF]) rfl d_Mo_check_199
                                · replace hp := hp.1 h337
                                  replace hF := hF.trans (if_pos h337)
                                  refine j_iload_n X d_Mo_check_172 1 rfl ?_
                                  refine j_iconst X (v := 1) d_Mo_check_173 (by decide) ?_
                                  refine j_icmp_ge X (tgt := 180) d_Mo_check_174 (by decide) (fun h338 => ?_) (fun h338 => ?_)
                                  · replace hp := hp.1 h338
                                    replace hF := hF.trans (if_pos h338)
                                    refine j_iload_n X d_Mo_check_180 2 rfl ?_
                                    refine j_bipush X (v := 18) d_Mo_check_181 (by decide) ?_
                                    refine j_icmp_ne X (tgt := 200) d_Mo_check_183 (by decide) (fun h339 => ?_) (fun h339 => ?_)
                                    · replace hp := hp.2 h339
                                      replace hF := hF.trans (if_neg h339)
                                      refine j_aload_n X d_Mo_check_200 3 rfl ?_
                                      refine j_get X fd_Mo_75_Mo 124 (by omega) y_Mo rfl d_Mo_check_201 ?_
                                      refine j_iload_n X d_Mo_check_204 2 rfl ?_
                                      refine j_callP (st := [.int (gI S 124 17)]) X hY_Mo_grows (c_Mo_grows l ((gR S 125 (gI S 124 13).toNatClampNeg) &&& 31) ) mw_671 hT_Mo_grows rfl rfl (Nat.le_of_ble_eq_true rfl) d_Mo_check_205 rfl rfl ⟨by decide, by decide⟩ ⟨Nat.zero_le _, Nat.zero_le _⟩ (j_st (st' := [.int (f_Mo_grows ((gR S 125 (gI S 124 13).toNatClampNeg) &&& 31)), .int (gI S 124 17)]) rfl ?_)
                                      refine j_topi (fun r344 e345 => ?_)
                                      replace hp := hp r344 e345
                                      replace hF := hF.trans (px_let_eq e345)
                                      refine j_iadd X d_Mo_check_208 ?_
                                      refine j_bipush X (v := 24) d_Mo_check_209 (by decide) ?_
                                      refine j_icmp_le X (tgt := 218) d_Mo_check_211 (by decide) (fun h346 => ?_) (fun h346 => ?_)
                                      · replace hp := hp.1 h346
                                        replace hF := hF.trans (if_pos h346)
                                        refine j_iconst X (v := 0) d_Mo_check_218 (by decide) ?_
                                        exact j_iret X hr hk (by rw [hF]) rfl d_Mo_check_219
                                      · replace hp := hp.2 h346
                                        replace hF := hF.trans (if_neg h346)
                                        refine j_iconst X (v := 3) d_Mo_check_214 (by decide) ?_
                                        refine j_goto X (tgt := 219) d_Mo_check_215 (by decide) ?_
                                        exact j_iret X hr hk (by rw [hF]) rfl d_Mo_check_219
                                    · replace hp := hp.1 h339
                                      replace hF := hF.trans (if_pos h339)
                                      refine j_aload_n X d_Mo_check_186 3 rfl ?_
                                      refine j_get X fd_Mo_72_Mo 124 (by omega) y_Mo rfl d_Mo_check_187 ?_
                                      refine j_aload_n X d_Mo_check_190 3 rfl ?_
                                      refine j_get X fd_Mo_60_Mo 124 (by omega) y_Mo rfl d_Mo_check_191 ?_
                                      refine j_icmp_ne X (tgt := 200) d_Mo_check_194 (by decide) (fun h340 => ?_) (fun h340 => ?_)
                                      · replace hp := hp.2 h340
                                        replace hF := hF.trans (if_neg h340)
                                        refine j_aload_n X d_Mo_check_200 3 rfl ?_
                                        refine j_get X fd_Mo_75_Mo 124 (by omega) y_Mo rfl d_Mo_check_201 ?_
                                        refine j_iload_n X d_Mo_check_204 2 rfl ?_
                                        refine j_callP (st := [.int (gI S 124 17)]) X hY_Mo_grows (c_Mo_grows l ((gR S 125 (gI S 124 13).toNatClampNeg) &&& 31) ) mw_671 hT_Mo_grows rfl rfl (Nat.le_of_ble_eq_true rfl) d_Mo_check_205 rfl rfl ⟨by decide, by decide⟩ ⟨Nat.zero_le _, Nat.zero_le _⟩ (j_st (st' := [.int (f_Mo_grows ((gR S 125 (gI S 124 13).toNatClampNeg) &&& 31)), .int (gI S 124 17)]) rfl ?_)
                                        refine j_topi (fun r341 e342 => ?_)
                                        replace hp := hp r341 e342
                                        replace hF := hF.trans (px_let_eq e342)
                                        refine j_iadd X d_Mo_check_208 ?_
                                        refine j_bipush X (v := 24) d_Mo_check_209 (by decide) ?_
                                        refine j_icmp_le X (tgt := 218) d_Mo_check_211 (by decide) (fun h343 => ?_) (fun h343 => ?_)
                                        · replace hp := hp.1 h343
                                          replace hF := hF.trans (if_pos h343)
                                          refine j_iconst X (v := 0) d_Mo_check_218 (by decide) ?_
                                          exact j_iret X hr hk (by rw [hF]) rfl d_Mo_check_219
                                        · replace hp := hp.2 h343
                                          replace hF := hF.trans (if_neg h343)
                                          refine j_iconst X (v := 3) d_Mo_check_214 (by decide) ?_
                                          refine j_goto X (tgt := 219) d_Mo_check_215 (by decide) ?_
                                          exact j_iret X hr hk (by rw [hF]) rfl d_Mo_check_219
                                      · replace hp := hp.1 h340
                                        replace hF := hF.trans (if_pos h340)
                                        refine j_bipush X (v := 7) d_Mo_check_197 (by decide) ?_
                                        exact j_iret X hr hk (by rw [hF]) rfl d_Mo_check_199
                                  · replace hp := hp.2 h338
                                    replace hF := hF.trans (if_neg h338)
                                    refine j_bipush X (v := 6) d_Mo_check_177 (by decide) ?_
                                    exact j_iret X hr hk (by rw [hF]) rfl d_Mo_check_179
                              · replace hp := hp.1 h317
                                replace hF := hF.trans (if_pos h317)
                                refine j_iload_n X d_Mo_check_162 0 rfl ?_
                                refine j_if_eq X (tgt := 177) d_Mo_check_163 (by decide) (fun h318 => ?_) (fun h318 => ?_)
                                · replace hp := hp.1 h318
                                  replace hF := hF.trans (if_pos h318)
                                  refine j_bipush X (v := 6) d_Mo_check_177 (by decide) ?_
                                  exact j_iret X hr hk (by rw [hF]) rfl d_Mo_check_179
                                · replace hp := hp.2 h318
                                  replace hF := hF.trans (if_neg h318)
                                  refine j_iload_n X d_Mo_check_166 2 rfl ?_
                                  refine j_bipush X (v := 19) d_Mo_check_167 (by decide) ?_
                                  refine j_icmp_ne X (tgt := 180) d_Mo_check_169 (by decide) (fun h319 => ?_) (fun h319 => ?_)
                                  · replace hp := hp.2 h319
                                    replace hF := hF.trans (if_neg h319)
                                    refine j_iload_n X d_Mo_check_180 2 rfl ?_
                                    refine j_bipush X (v := 18) d_Mo_check_181 (by decide) ?_
                                    refine j_icmp_ne X (tgt := 200) d_Mo_check_183 (by decide) (fun h329 => ?_) (fun h329 => ?_)
                                    · replace hp := hp.2 h329
                                      replace hF := hF.trans (if_neg h329)
                                      refine j_aload_n X d_Mo_check_200 3 rfl ?_
                                      refine j_get X fd_Mo_75_Mo 124 (by omega) y_Mo rfl d_Mo_check_201 ?_
                                      refine j_iload_n X d_Mo_check_204 2 rfl ?_
                                      refine j_callP (st := [.int (gI S 124 17)]) X hY_Mo_grows (c_Mo_grows l ((gR S 125 (gI S 124 13).toNatClampNeg) &&& 31) ) mw_671 hT_Mo_grows rfl rfl (Nat.le_of_ble_eq_true rfl) d_Mo_check_205 rfl rfl ⟨by decide, by decide⟩ ⟨Nat.zero_le _, Nat.zero_le _⟩ (j_st (st' := [.int (f_Mo_grows ((gR S 125 (gI S 124 13).toNatClampNeg) &&& 31)), .int (gI S 124 17)]) rfl ?_)
                                      refine j_topi (fun r334 e335 => ?_)
                                      replace hp := hp r334 e335
                                      replace hF := hF.trans (px_let_eq e335)
                                      refine j_iadd X d_Mo_check_208 ?_
                                      refine j_bipush X (v := 24) d_Mo_check_209 (by decide) ?_
                                      refine j_icmp_le X (tgt := 218) d_Mo_check_211 (by decide) (fun h336 => ?_) (fun h336 => ?_)
                                      · replace hp := hp.1 h336
                                        replace hF := hF.trans (if_pos h336)
                                        refine j_iconst X (v := 0) d_Mo_check_218 (by decide) ?_
                                        exact j_iret X hr hk (by rw [hF]) rfl d_Mo_check_219
                                      · replace hp := hp.2 h336
                                        replace hF := hF.trans (if_neg h336)
                                        refine j_iconst X (v := 3) d_Mo_check_214 (by decide) ?_
                                        refine j_goto X (tgt := 219) d_Mo_check_215 (by decide) ?_
                                        exact j_iret X hr hk (by rw [hF]) rfl d_Mo_check_219
                                    · replace hp := hp.1 h329
                                      replace hF := hF.trans (if_pos h329)
                                      refine j_aload_n X d_Mo_check_186 3 rfl ?_
                                      refine j_get X fd_Mo_72_Mo 124 (by omega) y_Mo rfl d_Mo_check_187 ?_
                                      refine j_aload_n X d_Mo_check_190 3 rfl ?_
                                      refine j_get X fd_Mo_60_Mo 124 (by omega) y_Mo rfl d_Mo_check_191 ?_
                                      refine j_icmp_ne X (tgt := 200) d_Mo_check_194 (by decide) (fun h330 => ?_) (fun h330 => ?_)
                                      · replace hp := hp.2 h330
                                        replace hF := hF.trans (if_neg h330)
                                        refine j_aload_n X d_Mo_check_200 3 rfl ?_
                                        refine j_get X fd_Mo_75_Mo 124 (by omega) y_Mo rfl d_Mo_check_201 ?_
                                        refine j_iload_n X d_Mo_check_204 2 rfl ?_
                                        refine j_callP (st := [.int (gI S 124 17)]) X hY_Mo_grows (c_Mo_grows l ((gR S 125 (gI S 124 13).toNatClampNeg) &&& 31) ) mw_671 hT_Mo_grows rfl rfl (Nat.le_of_ble_eq_true rfl) d_Mo_check_205 rfl rfl ⟨by decide, by decide⟩ ⟨Nat.zero_le _, Nat.zero_le _⟩ (j_st (st' := [.int (f_Mo_grows ((gR S 125 (gI S 124 13).toNatClampNeg) &&& 31)), .int (gI S 124 17)]) rfl ?_)
                                        refine j_topi (fun r331 e332 => ?_)
                                        replace hp := hp r331 e332
                                        replace hF := hF.trans (px_let_eq e332)
                                        refine j_iadd X d_Mo_check_208 ?_
                                        refine j_bipush X (v := 24) d_Mo_check_209 (by decide) ?_
                                        refine j_icmp_le X (tgt := 218) d_Mo_check_211 (by decide) (fun h333 => ?_) (fun h333 => ?_)
                                        · replace hp := hp.1 h333
                                          replace hF := hF.trans (if_pos h333)
                                          refine j_iconst X (v := 0) d_Mo_check_218 (by decide) ?_
                                          exact j_iret X hr hk (by rw [hF]) rfl d_Mo_check_219
                                        · replace hp := hp.2 h333
                                          replace hF := hF.trans (if_neg h333)
                                          refine j_iconst X (v := 3) d_Mo_check_214 (by decide) ?_
                                          refine j_goto X (tgt := 219) d_Mo_check_215 (by decide) ?_
                                          exact j_iret X hr hk (by rw [hF]) rfl d_Mo_check_219
                                      · replace hp := hp.1 h330
                                        replace hF := hF.trans (if_pos h330)
                                        refine j_bipush X (v := 7) d_Mo_check_197 (by decide) ?_
                                        exact j_iret X hr hk (by rw [hF]) rfl d_Mo_check_199
                                  · replace hp := hp.1 h319
                                    replace hF := hF.trans (if_pos h319)
                                    refine j_iload_n X d_Mo_check_172 1 rfl ?_
                                    refine j_iconst X (v := 1) d_Mo_check_173 (by decide) ?_
                                    refine j_icmp_ge X (tgt := 180) d_Mo_check_174 (by decide) (fun h320 => ?_) (fun h320 => ?_)
                                    · replace hp := hp.1 h320
                                      replace hF := hF.trans (if_pos h320)
                                      refine j_iload_n X d_Mo_check_180 2 rfl ?_
                                      refine j_bipush X (v := 18) d_Mo_check_181 (by decide) ?_
                                      refine j_icmp_ne X (tgt := 200) d_Mo_check_183 (by decide) (fun h321 => ?_) (fun h321 => ?_)
                                      · replace hp := hp.2 h321
                                        replace hF := hF.trans (if_neg h321)
                                        refine j_aload_n X d_Mo_check_200 3 rfl ?_
                                        refine j_get X fd_Mo_75_Mo 124 (by omega) y_Mo rfl d_Mo_check_201 ?_
                                        refine j_iload_n X d_Mo_check_204 2 rfl ?_
                                        refine j_callP (st := [.int (gI S 124 17)]) X hY_Mo_grows (c_Mo_grows l ((gR S 125 (gI S 124 13).toNatClampNeg) &&& 31) ) mw_671 hT_Mo_grows rfl rfl (Nat.le_of_ble_eq_true rfl) d_Mo_check_205 rfl rfl ⟨by decide, by decide⟩ ⟨Nat.zero_le _, Nat.zero_le _⟩ (j_st (st' := [.int (f_Mo_grows ((gR S 125 (gI S 124 13).toNatClampNeg) &&& 31)), .int (gI S 124 17)]) rfl ?_)
                                        refine j_topi (fun r326 e327 => ?_)
                                        replace hp := hp r326 e327
                                        replace hF := hF.trans (px_let_eq e327)
                                        refine j_iadd X d_Mo_check_208 ?_
                                        refine j_bipush X (v := 24) d_Mo_check_209 (by decide) ?_
                                        refine j_icmp_le X (tgt := 218) d_Mo_check_211 (by decide) (fun h328 => ?_) (fun h328 => ?_)
                                        · replace hp := hp.1 h328
                                          replace hF := hF.trans (if_pos h328)
                                          refine j_iconst X (v := 0) d_Mo_check_218 (by decide) ?_
                                          exact j_iret X hr hk (by rw [hF]) rfl d_Mo_check_219
                                        · replace hp := hp.2 h328
                                          replace hF := hF.trans (if_neg h328)
                                          refine j_iconst X (v := 3) d_Mo_check_214 (by decide) ?_
                                          refine j_goto X (tgt := 219) d_Mo_check_215 (by decide) ?_
                                          exact j_iret X hr hk (by rw [hF]) rfl d_Mo_check_219
                                      · replace hp := hp.1 h321
                                        replace hF := hF.trans (if_pos h321)
                                        refine j_aload_n X d_Mo_check_186 3 rfl ?_
                                        refine j_get X fd_Mo_72_Mo 124 (by omega) y_Mo rfl d_Mo_check_187 ?_
                                        refine j_aload_n X d_Mo_check_190 3 rfl ?_
                                        refine j_get X fd_Mo_60_Mo 124 (by omega) y_Mo rfl d_Mo_check_191 ?_
                                        refine j_icmp_ne X (tgt := 200) d_Mo_check_194 (by decide) (fun h322 => ?_) (fun h322 => ?_)
                                        · replace hp := hp.2 h322
                                          replace hF := hF.trans (if_neg h322)
                                          refine j_aload_n X d_Mo_check_200 3 rfl ?_
                                          refine j_get X fd_Mo_75_Mo 124 (by omega) y_Mo rfl d_Mo_check_201 ?_
                                          refine j_iload_n X d_Mo_check_204 2 rfl ?_
                                          refine j_callP (st := [.int (gI S 124 17)]) X hY_Mo_grows (c_Mo_grows l ((gR S 125 (gI S 124 13).toNatClampNeg) &&& 31) ) mw_671 hT_Mo_grows rfl rfl (Nat.le_of_ble_eq_true rfl) d_Mo_check_205 rfl rfl ⟨by decide, by decide⟩ ⟨Nat.zero_le _, Nat.zero_le _⟩ (j_st (st' := [.int (f_Mo_grows ((gR S 125 (gI S 124 13).toNatClampNeg) &&& 31)), .int (gI S 124 17)]) rfl ?_)
                                          refine j_topi (fun r323 e324 => ?_)
                                          replace hp := hp r323 e324
                                          replace hF := hF.trans (px_let_eq e324)
                                          refine j_iadd X d_Mo_check_208 ?_
                                          refine j_bipush X (v := 24) d_Mo_check_209 (by decide) ?_
                                          refine j_icmp_le X (tgt := 218) d_Mo_check_211 (by decide) (fun h325 => ?_) (fun h325 => ?_)
                                          · replace hp := hp.1 h325
                                            replace hF := hF.trans (if_pos h325)
                                            refine j_iconst X (v := 0) d_Mo_check_218 (by decide) ?_
                                            exact j_iret X hr hk (by rw [hF]) rfl d_Mo_check_219
                                          · replace hp := hp.2 h325
                                            replace hF := hF.trans (if_neg h325)
                                            refine j_iconst X (v := 3) d_Mo_check_214 (by decide) ?_
                                            refine j_goto X (tgt := 219) d_Mo_check_215 (by decide) ?_
                                            exact j_iret X hr hk (by rw [hF]) rfl d_Mo_check_219
                                        · replace hp := hp.1 h322
                                          replace hF := hF.trans (if_pos h322)
                                          refine j_bipush X (v := 7) d_Mo_check_197 (by decide) ?_
                                          exact j_iret X hr hk (by rw [hF]) rfl d_Mo_check_199
                                    · replace hp := hp.2 h320
                                      replace hF := hF.trans (if_neg h320)
                                      refine j_bipush X (v := 6) d_Mo_check_177 (by decide) ?_
                                      exact j_iret X hr hk (by rw [hF]) rfl d_Mo_check_179
                            · replace hp := hp.2 h316
                              replace hF := hF.trans (if_neg h316)
                              refine j_iconst X (v := 4) d_Mo_check_154 (by decide) ?_
                              exact j_iret X hr hk (by rw [hF]) rfl d_Mo_check_155
                  · replace hp := hp.1 h13
                    replace hF := hF.trans (if_pos h13)
                    refine j_aload_n X d_Mo_check_99 2 rfl ?_
                    refine j_iload_n X d_Mo_check_100 0 rfl ?_
                    refine j_callV (st := []) X 124 (by omega) hY_Mo_isArgument (c_Mo_isArgument l D aC ad n hn c0 S ((gR S 125 (gI S 124 13).toNatClampNeg) >>> ((5 : Int32) &&& 31))  ) mw_667 hI_Mo_isArgument hS_Mo_isArgument y_Mo rfl rfl rfl (Nat.le_of_ble_eq_true rfl) d_Mo_check_101 rfl rfl ⟨by decide, by decide⟩ ⟨Nat.zero_le _, Nat.zero_le _⟩ (j_st (st' := [.int (f_Mo_isArgument S ((gR S 125 (gI S 124 13).toNatClampNeg) >>> ((5 : Int32) &&& 31)))]) rfl ?_)
                    refine j_topi (fun r14 e15 => ?_)
                    replace hp := hp r14 e15
                    replace hF := hF.trans (px_let_eq e15)
                    refine j_if_ne X (tgt := 109) d_Mo_check_104 (by decide) (fun h16 => ?_) (fun h16 => ?_)
                    · replace hp := hp.2 h16
                      replace hF := hF.trans (if_neg h16)
                      refine j_aload_n X d_Mo_check_109 2 rfl ?_
                      refine j_get X fd_Mo_75_Mo 124 (by omega) y_Mo rfl d_Mo_check_110 ?_
                      refine j_if_le X (tgt := 130) d_Mo_check_113 (by decide) (fun h17 => ?_) (fun h17 => ?_)
                      · replace hp := hp.1 h17
                        replace hF := hF.trans (if_pos h17)
                        refine j_iconst X (v := 0) d_Mo_check_130 (by decide) ?_
                        refine j_istore_n X d_Mo_check_131 [(3, .int 0), (2, .int ((gR S 125 (gI S 124 13).toNatClampNeg) >>> ((5 : Int32) &&& 31))), (1, .int ((gR S 125 (gI S 124 13).toNatClampNeg) &&& 31)), (0, .ref (ad 124))] (by decide) rfl ?_
                        refine j_iload_n X d_Mo_check_132 2 rfl ?_
                        refine j_bipush X (v := 10) d_Mo_check_133 (by decide) ?_
                        refine j_icmp_eq X (tgt := 144) d_Mo_check_135 (by decide) (fun h18 => ?_) (fun h18 => ?_)
                        · replace hp := hp.1 h18
                          replace hF := hF.trans (if_pos h18)
                          refine j_iload_n X d_Mo_check_144 0 rfl ?_
                          refine j_if_lt X (tgt := 154) d_Mo_check_145 (by decide) (fun h => absurd h (by decide)) (fun _ => ?_)
                          refine j_iload_n X d_Mo_check_148 0 rfl ?_
                          refine j_bipush X (v := 32) d_Mo_check_149 (by decide) ?_
                          refine j_icmp_lt X (tgt := 156) d_Mo_check_151 (by decide) (fun _ => ?_) (fun h => absurd (by decide) h)
                          refine j_iload_n X d_Mo_check_156 2 rfl ?_
                          refine j_bipush X (v := 8) d_Mo_check_157 (by decide) ?_
                          refine j_icmp_ne X (tgt := 166) d_Mo_check_159 (by decide) (fun h21 => ?_) (fun h21 => ?_)
                          · replace hp := hp.2 h21
                            replace hF := hF.trans (if_neg h21)
                            refine j_iload_n X d_Mo_check_166 2 rfl ?_
                            refine j_bipush X (v := 19) d_Mo_check_167 (by decide) ?_
                            refine j_icmp_ne X (tgt := 180) d_Mo_check_169 (by decide) (fun h23 => ?_) (fun h23 => ?_)
                            · replace hp := hp.2 h23
                              replace hF := hF.trans (if_neg h23)
                              refine j_iload_n X d_Mo_check_180 2 rfl ?_
                              refine j_bipush X (v := 18) d_Mo_check_181 (by decide) ?_
                              refine j_icmp_ne X (tgt := 200) d_Mo_check_183 (by decide) (fun h33 => ?_) (fun h33 => ?_)
                              · replace hp := hp.2 h33
                                replace hF := hF.trans (if_neg h33)
                                refine j_aload_n X d_Mo_check_200 3 rfl ?_
                                refine j_get X fd_Mo_75_Mo 124 (by omega) y_Mo rfl d_Mo_check_201 ?_
                                refine j_iload_n X d_Mo_check_204 2 rfl ?_
                                refine j_callP (st := [.int (gI S 124 17)]) X hY_Mo_grows (c_Mo_grows l ((gR S 125 (gI S 124 13).toNatClampNeg) &&& 31) ) mw_671 hT_Mo_grows rfl rfl (Nat.le_of_ble_eq_true rfl) d_Mo_check_205 rfl rfl ⟨by decide, by decide⟩ ⟨Nat.zero_le _, Nat.zero_le _⟩ (j_st (st' := [.int (f_Mo_grows ((gR S 125 (gI S 124 13).toNatClampNeg) &&& 31)), .int (gI S 124 17)]) rfl ?_)
                                refine j_topi (fun r38 e39 => ?_)
                                replace hp := hp r38 e39
                                replace hF := hF.trans (px_let_eq e39)
                                refine j_iadd X d_Mo_check_208 ?_
                                refine j_bipush X (v := 24) d_Mo_check_209 (by decide) ?_
                                refine j_icmp_le X (tgt := 218) d_Mo_check_211 (by decide) (fun h40 => ?_) (fun h40 => ?_)
                                · replace hp := hp.1 h40
                                  replace hF := hF.trans (if_pos h40)
                                  refine j_iconst X (v := 0) d_Mo_check_218 (by decide) ?_
                                  exact j_iret X hr hk (by rw [hF]) rfl d_Mo_check_219
                                · replace hp := hp.2 h40
                                  replace hF := hF.trans (if_neg h40)
                                  refine j_iconst X (v := 3) d_Mo_check_214 (by decide) ?_
                                  refine j_goto X (tgt := 219) d_Mo_check_215 (by decide) ?_
                                  exact j_iret X hr hk (by rw [hF]) rfl d_Mo_check_219
                              · replace hp := hp.1 h33
                                replace hF := hF.trans (if_pos h33)
                                refine j_aload_n X d_Mo_check_186 3 rfl ?_
                                refine j_get X fd_Mo_72_Mo 124 (by omega) y_Mo rfl d_Mo_check_187 ?_
                                refine j_aload_n X d_Mo_check_190 3 rfl ?_
                                refine j_get X fd_Mo_60_Mo 124 (by omega) y_Mo rfl d_Mo_check_191 ?_
                                refine j_icmp_ne X (tgt := 200) d_Mo_check_194 (by decide) (fun h34 => ?_) (fun h34 => ?_)
                                · replace hp := hp.2 h34
                                  replace hF := hF.trans (if_neg h34)
                                  refine j_aload_n X d_Mo_check_200 3 rfl ?_
                                  refine j_get X fd_Mo_75_Mo 124 (by omega) y_Mo rfl d_Mo_check_201 ?_
                                  refine j_iload_n X d_Mo_check_204 2 rfl ?_
                                  refine j_callP (st := [.int (gI S 124 17)]) X hY_Mo_grows (c_Mo_grows l ((gR S 125 (gI S 124 13).toNatClampNeg) &&& 31) ) mw_671 hT_Mo_grows rfl rfl (Nat.le_of_ble_eq_true rfl) d_Mo_check_205 rfl rfl ⟨by decide, by decide⟩ ⟨Nat.zero_le _, Nat.zero_le _⟩ (j_st (st' := [.int (f_Mo_grows ((gR S 125 (gI S 124 13).toNatClampNeg) &&& 31)), .int (gI S 124 17)]) rfl ?_)
                                  refine j_topi (fun r35 e36 => ?_)
                                  replace hp := hp r35 e36
                                  replace hF := hF.trans (px_let_eq e36)
                                  refine j_iadd X d_Mo_check_208 ?_
                                  refine j_bipush X (v := 24) d_Mo_check_209 (by decide) ?_
                                  refine j_icmp_le X (tgt := 218) d_Mo_check_211 (by decide) (fun h37 => ?_) (fun h37 => ?_)
                                  · replace hp := hp.1 h37
                                    replace hF := hF.trans (if_pos h37)
                                    refine j_iconst X (v := 0) d_Mo_check_218 (by decide) ?_
                                    exact j_iret X hr hk (by rw [hF]) rfl d_Mo_check_219
                                  · replace hp := hp.2 h37
                                    replace hF := hF.trans (if_neg h37)
                                    refine j_iconst X (v := 3) d_Mo_check_214 (by decide) ?_
                                    refine j_goto X (tgt := 219) d_Mo_check_215 (by decide) ?_
                                    exact j_iret X hr hk (by rw [hF]) rfl d_Mo_check_219
                                · replace hp := hp.1 h34
                                  replace hF := hF.trans (if_pos h34)
                                  refine j_bipush X (v := 7) d_Mo_check_197 (by decide) ?_
                                  exact j_iret X hr hk (by rw [hF]) rfl d_Mo_check_199
                            · replace hp := hp.1 h23
                              replace hF := hF.trans (if_pos h23)
                              refine j_iload_n X d_Mo_check_172 1 rfl ?_
                              refine j_iconst X (v := 1) d_Mo_check_173 (by decide) ?_
                              refine j_icmp_ge X (tgt := 180) d_Mo_check_174 (by decide) (fun h24 => ?_) (fun h24 => ?_)
                              · replace hp := hp.1 h24
                                replace hF := hF.trans (if_pos h24)
                                refine j_iload_n X d_Mo_check_180 2 rfl ?_
                                refine j_bipush X (v := 18) d_Mo_check_181 (by decide) ?_
                                refine j_icmp_ne X (tgt := 200) d_Mo_check_183 (by decide) (fun h25 => ?_) (fun h25 => ?_)
                                · replace hp := hp.2 h25
                                  replace hF := hF.trans (if_neg h25)
                                  refine j_aload_n X d_Mo_check_200 3 rfl ?_
                                  refine j_get X fd_Mo_75_Mo 124 (by omega) y_Mo rfl d_Mo_check_201 ?_
                                  refine j_iload_n X d_Mo_check_204 2 rfl ?_
                                  refine j_callP (st := [.int (gI S 124 17)]) X hY_Mo_grows (c_Mo_grows l ((gR S 125 (gI S 124 13).toNatClampNeg) &&& 31) ) mw_671 hT_Mo_grows rfl rfl (Nat.le_of_ble_eq_true rfl) d_Mo_check_205 rfl rfl ⟨by decide, by decide⟩ ⟨Nat.zero_le _, Nat.zero_le _⟩ (j_st (st' := [.int (f_Mo_grows ((gR S 125 (gI S 124 13).toNatClampNeg) &&& 31)), .int (gI S 124 17)]) rfl ?_)
                                  refine j_topi (fun r30 e31 => ?_)
                                  replace hp := hp r30 e31
                                  replace hF := hF.trans (px_let_eq e31)
                                  refine j_iadd X d_Mo_check_208 ?_
                                  refine j_bipush X (v := 24) d_Mo_check_209 (by decide) ?_
                                  refine j_icmp_le X (tgt := 218) d_Mo_check_211 (by decide) (fun h32 => ?_) (fun h32 => ?_)
                                  · replace hp := hp.1 h32
                                    replace hF := hF.trans (if_pos h32)
                                    refine j_iconst X (v := 0) d_Mo_check_218 (by decide) ?_
                                    exact j_iret X hr hk (by rw [hF]) rfl d_Mo_check_219
                                  · replace hp := hp.2 h32
                                    replace hF := hF.trans (if_neg h32)
                                    refine j_iconst X (v := 3) d_Mo_check_214 (by decide) ?_
                                    refine j_goto X (tgt := 219) d_Mo_check_215 (by decide) ?_
                                    exact j_iret X hr hk (by rw [hF]) rfl d_Mo_check_219
                                · replace hp := hp.1 h25
                                  replace hF := hF.trans (if_pos h25)
                                  refine j_aload_n X d_Mo_check_186 3 rfl ?_
                                  refine j_get X fd_Mo_72_Mo 124 (by omega) y_Mo rfl d_Mo_check_187 ?_
                                  refine j_aload_n X d_Mo_check_190 3 rfl ?_
                                  refine j_get X fd_Mo_60_Mo 124 (by omega) y_Mo rfl d_Mo_check_191 ?_
                                  refine j_icmp_ne X (tgt := 200) d_Mo_check_194 (by decide) (fun h26 => ?_) (fun h26 => ?_)
                                  · replace hp := hp.2 h26
                                    replace hF := hF.trans (if_neg h26)
                                    refine j_aload_n X d_Mo_check_200 3 rfl ?_
                                    refine j_get X fd_Mo_75_Mo 124 (by omega) y_Mo rfl d_Mo_check_201 ?_
                                    refine j_iload_n X d_Mo_check_204 2 rfl ?_
                                    refine j_callP (st := [.int (gI S 124 17)]) X hY_Mo_grows (c_Mo_grows l ((gR S 125 (gI S 124 13).toNatClampNeg) &&& 31) ) mw_671 hT_Mo_grows rfl rfl (Nat.le_of_ble_eq_true rfl) d_Mo_check_205 rfl rfl ⟨by decide, by decide⟩ ⟨Nat.zero_le _, Nat.zero_le _⟩ (j_st (st' := [.int (f_Mo_grows ((gR S 125 (gI S 124 13).toNatClampNeg) &&& 31)), .int (gI S 124 17)]) rfl ?_)
                                    refine j_topi (fun r27 e28 => ?_)
                                    replace hp := hp r27 e28
                                    replace hF := hF.trans (px_let_eq e28)
                                    refine j_iadd X d_Mo_check_208 ?_
                                    refine j_bipush X (v := 24) d_Mo_check_209 (by decide) ?_
                                    refine j_icmp_le X (tgt := 218) d_Mo_check_211 (by decide) (fun h29 => ?_) (fun h29 => ?_)
                                    · replace hp := hp.1 h29
                                      replace hF := hF.trans (if_pos h29)
                                      refine j_iconst X (v := 0) d_Mo_check_218 (by decide) ?_
                                      exact j_iret X hr hk (by rw [hF]) rfl d_Mo_check_219
                                    · replace hp := hp.2 h29
                                      replace hF := hF.trans (if_neg h29)
                                      refine j_iconst X (v := 3) d_Mo_check_214 (by decide) ?_
                                      refine j_goto X (tgt := 219) d_Mo_check_215 (by decide) ?_
                                      exact j_iret X hr hk (by rw [hF]) rfl d_Mo_check_219
                                  · replace hp := hp.1 h26
                                    replace hF := hF.trans (if_pos h26)
                                    refine j_bipush X (v := 7) d_Mo_check_197 (by decide) ?_
                                    exact j_iret X hr hk (by rw [hF]) rfl d_Mo_check_199
                              · replace hp := hp.2 h24
                                replace hF := hF.trans (if_neg h24)
                                refine j_bipush X (v := 6) d_Mo_check_177 (by decide) ?_
                                exact j_iret X hr hk (by rw [hF]) rfl d_Mo_check_179
                          · replace hp := hp.1 h21
                            replace hF := hF.trans (if_pos h21)
                            refine j_iload_n X d_Mo_check_162 0 rfl ?_
                            refine j_if_eq X (tgt := 177) d_Mo_check_163 (by decide) (fun _ => ?_) (fun h => absurd (by decide) h)
                            refine j_bipush X (v := 6) d_Mo_check_177 (by decide) ?_
                            exact j_iret X hr hk (by rw [hF]) rfl d_Mo_check_179
                        · replace hp := hp.2 h18
                          replace hF := hF.trans (if_neg h18)
                          refine j_iload_n X d_Mo_check_138 2 rfl ?_
                          refine j_bipush X (v := 11) d_Mo_check_139 (by decide) ?_
                          refine j_icmp_ne X (tgt := 156) d_Mo_check_141 (by decide) (fun h41 => ?_) (fun h41 => ?_)
                          · replace hp := hp.2 h41
                            replace hF := hF.trans (if_neg h41)
                            refine j_iload_n X d_Mo_check_156 2 rfl ?_
                            refine j_bipush X (v := 8) d_Mo_check_157 (by decide) ?_
                            refine j_icmp_ne X (tgt := 166) d_Mo_check_159 (by decide) (fun h64 => ?_) (fun h64 => ?_)
                            · replace hp := hp.2 h64
                              replace hF := hF.trans (if_neg h64)
                              refine j_iload_n X d_Mo_check_166 2 rfl ?_
                              refine j_bipush X (v := 19) d_Mo_check_167 (by decide) ?_
                              refine j_icmp_ne X (tgt := 180) d_Mo_check_169 (by decide) (fun h66 => ?_) (fun h66 => ?_)
                              · replace hp := hp.2 h66
                                replace hF := hF.trans (if_neg h66)
                                refine j_iload_n X d_Mo_check_180 2 rfl ?_
                                refine j_bipush X (v := 18) d_Mo_check_181 (by decide) ?_
                                refine j_icmp_ne X (tgt := 200) d_Mo_check_183 (by decide) (fun h76 => ?_) (fun h76 => ?_)
                                · replace hp := hp.2 h76
                                  replace hF := hF.trans (if_neg h76)
                                  refine j_aload_n X d_Mo_check_200 3 rfl ?_
                                  refine j_get X fd_Mo_75_Mo 124 (by omega) y_Mo rfl d_Mo_check_201 ?_
                                  refine j_iload_n X d_Mo_check_204 2 rfl ?_
                                  refine j_callP (st := [.int (gI S 124 17)]) X hY_Mo_grows (c_Mo_grows l ((gR S 125 (gI S 124 13).toNatClampNeg) &&& 31) ) mw_671 hT_Mo_grows rfl rfl (Nat.le_of_ble_eq_true rfl) d_Mo_check_205 rfl rfl ⟨by decide, by decide⟩ ⟨Nat.zero_le _, Nat.zero_le _⟩ (j_st (st' := [.int (f_Mo_grows ((gR S 125 (gI S 124 13).toNatClampNeg) &&& 31)), .int (gI S 124 17)]) rfl ?_)
                                  refine j_topi (fun r81 e82 => ?_)
                                  replace hp := hp r81 e82
                                  replace hF := hF.trans (px_let_eq e82)
                                  refine j_iadd X d_Mo_check_208 ?_
                                  refine j_bipush X (v := 24) d_Mo_check_209 (by decide) ?_
                                  refine j_icmp_le X (tgt := 218) d_Mo_check_211 (by decide) (fun h83 => ?_) (fun h83 => ?_)
                                  · replace hp := hp.1 h83
                                    replace hF := hF.trans (if_pos h83)
                                    refine j_iconst X (v := 0) d_Mo_check_218 (by decide) ?_
                                    exact j_iret X hr hk (by rw [hF]) rfl d_Mo_check_219
                                  · replace hp := hp.2 h83
                                    replace hF := hF.trans (if_neg h83)
                                    refine j_iconst X (v := 3) d_Mo_check_214 (by decide) ?_
                                    refine j_goto X (tgt := 219) d_Mo_check_215 (by decide) ?_
                                    exact j_iret X hr hk (by rw [hF]) rfl d_Mo_check_219
                                · replace hp := hp.1 h76
                                  replace hF := hF.trans (if_pos h76)
                                  refine j_aload_n X d_Mo_check_186 3 rfl ?_
                                  refine j_get X fd_Mo_72_Mo 124 (by omega) y_Mo rfl d_Mo_check_187 ?_
                                  refine j_aload_n X d_Mo_check_190 3 rfl ?_
                                  refine j_get X fd_Mo_60_Mo 124 (by omega) y_Mo rfl d_Mo_check_191 ?_
                                  refine j_icmp_ne X (tgt := 200) d_Mo_check_194 (by decide) (fun h77 => ?_) (fun h77 => ?_)
                                  · replace hp := hp.2 h77
                                    replace hF := hF.trans (if_neg h77)
                                    refine j_aload_n X d_Mo_check_200 3 rfl ?_
                                    refine j_get X fd_Mo_75_Mo 124 (by omega) y_Mo rfl d_Mo_check_201 ?_
                                    refine j_iload_n X d_Mo_check_204 2 rfl ?_
                                    refine j_callP (st := [.int (gI S 124 17)]) X hY_Mo_grows (c_Mo_grows l ((gR S 125 (gI S 124 13).toNatClampNeg) &&& 31) ) mw_671 hT_Mo_grows rfl rfl (Nat.le_of_ble_eq_true rfl) d_Mo_check_205 rfl rfl ⟨by decide, by decide⟩ ⟨Nat.zero_le _, Nat.zero_le _⟩ (j_st (st' := [.int (f_Mo_grows ((gR S 125 (gI S 124 13).toNatClampNeg) &&& 31)), .int (gI S 124 17)]) rfl ?_)
                                    refine j_topi (fun r78 e79 => ?_)
                                    replace hp := hp r78 e79
                                    replace hF := hF.trans (px_let_eq e79)
                                    refine j_iadd X d_Mo_check_208 ?_
                                    refine j_bipush X (v := 24) d_Mo_check_209 (by decide) ?_
                                    refine j_icmp_le X (tgt := 218) d_Mo_check_211 (by decide) (fun h80 => ?_) (fun h80 => ?_)
                                    · replace hp := hp.1 h80
                                      replace hF := hF.trans (if_pos h80)
                                      refine j_iconst X (v := 0) d_Mo_check_218 (by decide) ?_
                                      exact j_iret X hr hk (by rw [hF]) rfl d_Mo_check_219
                                    · replace hp := hp.2 h80
                                      replace hF := hF.trans (if_neg h80)
                                      refine j_iconst X (v := 3) d_Mo_check_214 (by decide) ?_
                                      refine j_goto X (tgt := 219) d_Mo_check_215 (by decide) ?_
                                      exact j_iret X hr hk (by rw [hF]) rfl d_Mo_check_219
                                  · replace hp := hp.1 h77
                                    replace hF := hF.trans (if_pos h77)
                                    refine j_bipush X (v := 7) d_Mo_check_197 (by decide) ?_
                                    exact j_iret X hr hk (by rw [hF]) rfl d_Mo_check_199
                              · replace hp := hp.1 h66
                                replace hF := hF.trans (if_pos h66)
                                refine j_iload_n X d_Mo_check_172 1 rfl ?_
                                refine j_iconst X (v := 1) d_Mo_check_173 (by decide) ?_
                                refine j_icmp_ge X (tgt := 180) d_Mo_check_174 (by decide) (fun h67 => ?_) (fun h67 => ?_)
                                · replace hp := hp.1 h67
                                  replace hF := hF.trans (if_pos h67)
                                  refine j_iload_n X d_Mo_check_180 2 rfl ?_
                                  refine j_bipush X (v := 18) d_Mo_check_181 (by decide) ?_
                                  refine j_icmp_ne X (tgt := 200) d_Mo_check_183 (by decide) (fun h68 => ?_) (fun h68 => ?_)
                                  · replace hp := hp.2 h68
                                    replace hF := hF.trans (if_neg h68)
                                    refine j_aload_n X d_Mo_check_200 3 rfl ?_
                                    refine j_get X fd_Mo_75_Mo 124 (by omega) y_Mo rfl d_Mo_check_201 ?_
                                    refine j_iload_n X d_Mo_check_204 2 rfl ?_
                                    refine j_callP (st := [.int (gI S 124 17)]) X hY_Mo_grows (c_Mo_grows l ((gR S 125 (gI S 124 13).toNatClampNeg) &&& 31) ) mw_671 hT_Mo_grows rfl rfl (Nat.le_of_ble_eq_true rfl) d_Mo_check_205 rfl rfl ⟨by decide, by decide⟩ ⟨Nat.zero_le _, Nat.zero_le _⟩ (j_st (st' := [.int (f_Mo_grows ((gR S 125 (gI S 124 13).toNatClampNeg) &&& 31)), .int (gI S 124 17)]) rfl ?_)
                                    refine j_topi (fun r73 e74 => ?_)
                                    replace hp := hp r73 e74
                                    replace hF := hF.trans (px_let_eq e74)
                                    refine j_iadd X d_Mo_check_208 ?_
                                    refine j_bipush X (v := 24) d_Mo_check_209 (by decide) ?_
                                    refine j_icmp_le X (tgt := 218) d_Mo_check_211 (by decide) (fun h75 => ?_) (fun h75 => ?_)
                                    · replace hp := hp.1 h75
                                      replace hF := hF.trans (if_pos h75)
                                      refine j_iconst X (v := 0) d_Mo_check_218 (by decide) ?_
                                      exact j_iret X hr hk (by rw [hF]) rfl d_Mo_check_219
                                    · replace hp := hp.2 h75
                                      replace hF := hF.trans (if_neg h75)
                                      refine j_iconst X (v := 3) d_Mo_check_214 (by decide) ?_
                                      refine j_goto X (tgt := 219) d_Mo_check_215 (by decide) ?_
                                      exact j_iret X hr hk (by rw [hF]) rfl d_Mo_check_219
                                  · replace hp := hp.1 h68
                                    replace hF := hF.trans (if_pos h68)
                                    refine j_aload_n X d_Mo_check_186 3 rfl ?_
                                    refine j_get X fd_Mo_72_Mo 124 (by omega) y_Mo rfl d_Mo_check_187 ?_
                                    refine j_aload_n X d_Mo_check_190 3 rfl ?_
                                    refine j_get X fd_Mo_60_Mo 124 (by omega) y_Mo rfl d_Mo_check_191 ?_
                                    refine j_icmp_ne X (tgt := 200) d_Mo_check_194 (by decide) (fun h69 => ?_) (fun h69 => ?_)
                                    · replace hp := hp.2 h69
                                      replace hF := hF.trans (if_neg h69)
                                      refine j_aload_n X d_Mo_check_200 3 rfl ?_
                                      refine j_get X fd_Mo_75_Mo 124 (by omega) y_Mo rfl d_Mo_check_201 ?_
                                      refine j_iload_n X d_Mo_check_204 2 rfl ?_
                                      refine j_callP (st := [.int (gI S 124 17)]) X hY_Mo_grows (c_Mo_grows l ((gR S 125 (gI S 124 13).toNatClampNeg) &&& 31) ) mw_671 hT_Mo_grows rfl rfl (Nat.le_of_ble_eq_true rfl) d_Mo_check_205 rfl rfl ⟨by decide, by decide⟩ ⟨Nat.zero_le _, Nat.zero_le _⟩ (j_st (st' := [.int (f_Mo_grows ((gR S 125 (gI S 124 13).toNatClampNeg) &&& 31)), .int (gI S 124 17)]) rfl ?_)
                                      refine j_topi (fun r70 e71 => ?_)
                                      replace hp := hp r70 e71
                                      replace hF := hF.trans (px_let_eq e71)
                                      refine j_iadd X d_Mo_check_208 ?_
                                      refine j_bipush X (v := 24) d_Mo_check_209 (by decide) ?_
                                      refine j_icmp_le X (tgt := 218) d_Mo_check_211 (by decide) (fun h72 => ?_) (fun h72 => ?_)
                                      · replace hp := hp.1 h72
                                        replace hF := hF.trans (if_pos h72)
                                        refine j_iconst X (v := 0) d_Mo_check_218 (by decide) ?_
                                        exact j_iret X hr hk (by rw [hF]) rfl d_Mo_check_219
                                      · replace hp := hp.2 h72
                                        replace hF := hF.trans (if_neg h72)
                                        refine j_iconst X (v := 3) d_Mo_check_214 (by decide) ?_
                                        refine j_goto X (tgt := 219) d_Mo_check_215 (by decide) ?_
                                        exact j_iret X hr hk (by rw [hF]) rfl d_Mo_check_219
                                    · replace hp := hp.1 h69
                                      replace hF := hF.trans (if_pos h69)
                                      refine j_bipush X (v := 7) d_Mo_check_197 (by decide) ?_
                                      exact j_iret X hr hk (by rw [hF]) rfl d_Mo_check_199
                                · replace hp := hp.2 h67
                                  replace hF := hF.trans (if_neg h67)
                                  refine j_bipush X (v := 6) d_Mo_check_177 (by decide) ?_
                                  exact j_iret X hr hk (by rw [hF]) rfl d_Mo_check_179
                            · replace hp := hp.1 h64
                              replace hF := hF.trans (if_pos h64)
                              refine j_iload_n X d_Mo_check_162 0 rfl ?_
                              refine j_if_eq X (tgt := 177) d_Mo_check_163 (by decide) (fun _ => ?_) (fun h => absurd (by decide) h)
                              refine j_bipush X (v := 6) d_Mo_check_177 (by decide) ?_
                              exact j_iret X hr hk (by rw [hF]) rfl d_Mo_check_179
                          · replace hp := hp.1 h41
                            replace hF := hF.trans (if_pos h41)
                            refine j_iload_n X d_Mo_check_144 0 rfl ?_
                            refine j_if_lt X (tgt := 154) d_Mo_check_145 (by decide) (fun h => absurd h (by decide)) (fun _ => ?_)
                            refine j_iload_n X d_Mo_check_148 0 rfl ?_
                            refine j_bipush X (v := 32) d_Mo_check_149 (by decide) ?_
                            refine j_icmp_lt X (tgt := 156) d_Mo_check_151 (by decide) (fun _ => ?_) (fun h => absurd (by decide) h)
                            refine j_iload_n X d_Mo_check_156 2 rfl ?_
                            refine j_bipush X (v := 8) d_Mo_check_157 (by decide) ?_
                            refine j_icmp_ne X (tgt := 166) d_Mo_check_159 (by decide) (fun h44 => ?_) (fun h44 => ?_)
                            · replace hp := hp.2 h44
                              replace hF := hF.trans (if_neg h44)
                              refine j_iload_n X d_Mo_check_166 2 rfl ?_
                              refine j_bipush X (v := 19) d_Mo_check_167 (by decide) ?_
                              refine j_icmp_ne X (tgt := 180) d_Mo_check_169 (by decide) (fun h46 => ?_) (fun h46 => ?_)
                              · replace hp := hp.2 h46
                                replace hF := hF.trans (if_neg h46)
                                refine j_iload_n X d_Mo_check_180 2 rfl ?_
                                refine j_bipush X (v := 18) d_Mo_check_181 (by decide) ?_
                                refine j_icmp_ne X (tgt := 200) d_Mo_check_183 (by decide) (fun h56 => ?_) (fun h56 => ?_)
                                · replace hp := hp.2 h56
                                  replace hF := hF.trans (if_neg h56)
                                  refine j_aload_n X d_Mo_check_200 3 rfl ?_
                                  refine j_get X fd_Mo_75_Mo 124 (by omega) y_Mo rfl d_Mo_check_201 ?_
                                  refine j_iload_n X d_Mo_check_204 2 rfl ?_
                                  refine j_callP (st := [.int (gI S 124 17)]) X hY_Mo_grows (c_Mo_grows l ((gR S 125 (gI S 124 13).toNatClampNeg) &&& 31) ) mw_671 hT_Mo_grows rfl rfl (Nat.le_of_ble_eq_true rfl) d_Mo_check_205 rfl rfl ⟨by decide, by decide⟩ ⟨Nat.zero_le _, Nat.zero_le _⟩ (j_st (st' := [.int (f_Mo_grows ((gR S 125 (gI S 124 13).toNatClampNeg) &&& 31)), .int (gI S 124 17)]) rfl ?_)
                                  refine j_topi (fun r61 e62 => ?_)
                                  replace hp := hp r61 e62
                                  replace hF := hF.trans (px_let_eq e62)
                                  refine j_iadd X d_Mo_check_208 ?_
                                  refine j_bipush X (v := 24) d_Mo_check_209 (by decide) ?_
                                  refine j_icmp_le X (tgt := 218) d_Mo_check_211 (by decide) (fun h63 => ?_) (fun h63 => ?_)
                                  · replace hp := hp.1 h63
                                    replace hF := hF.trans (if_pos h63)
                                    refine j_iconst X (v := 0) d_Mo_check_218 (by decide) ?_
                                    exact j_iret X hr hk (by rw [hF]) rfl d_Mo_check_219
                                  · replace hp := hp.2 h63
                                    replace hF := hF.trans (if_neg h63)
                                    refine j_iconst X (v := 3) d_Mo_check_214 (by decide) ?_
                                    refine j_goto X (tgt := 219) d_Mo_check_215 (by decide) ?_
                                    exact j_iret X hr hk (by rw [hF]) rfl d_Mo_check_219
                                · replace hp := hp.1 h56
                                  replace hF := hF.trans (if_pos h56)
                                  refine j_aload_n X d_Mo_check_186 3 rfl ?_
                                  refine j_get X fd_Mo_72_Mo 124 (by omega) y_Mo rfl d_Mo_check_187 ?_
                                  refine j_aload_n X d_Mo_check_190 3 rfl ?_
                                  refine j_get X fd_Mo_60_Mo 124 (by omega) y_Mo rfl d_Mo_check_191 ?_
                                  refine j_icmp_ne X (tgt := 200) d_Mo_check_194 (by decide) (fun h57 => ?_) (fun h57 => ?_)
                                  · replace hp := hp.2 h57
                                    replace hF := hF.trans (if_neg h57)
                                    refine j_aload_n X d_Mo_check_200 3 rfl ?_
                                    refine j_get X fd_Mo_75_Mo 124 (by omega) y_Mo rfl d_Mo_check_201 ?_
                                    refine j_iload_n X d_Mo_check_204 2 rfl ?_
                                    refine j_callP (st := [.int (gI S 124 17)]) X hY_Mo_grows (c_Mo_grows l ((gR S 125 (gI S 124 13).toNatClampNeg) &&& 31) ) mw_671 hT_Mo_grows rfl rfl (Nat.le_of_ble_eq_true rfl) d_Mo_check_205 rfl rfl ⟨by decide, by decide⟩ ⟨Nat.zero_le _, Nat.zero_le _⟩ (j_st (st' := [.int (f_Mo_grows ((gR S 125 (gI S 124 13).toNatClampNeg) &&& 31)), .int (gI S 124 17)]) rfl ?_)
                                    refine j_topi (fun r58 e59 => ?_)
                                    replace hp := hp r58 e59
                                    replace hF := hF.trans (px_let_eq e59)
                                    refine j_iadd X d_Mo_check_208 ?_
                                    refine j_bipush X (v := 24) d_Mo_check_209 (by decide) ?_
                                    refine j_icmp_le X (tgt := 218) d_Mo_check_211 (by decide) (fun h60 => ?_) (fun h60 => ?_)
                                    · replace hp := hp.1 h60
                                      replace hF := hF.trans (if_pos h60)
                                      refine j_iconst X (v := 0) d_Mo_check_218 (by decide) ?_
                                      exact j_iret X hr hk (by rw [hF]) rfl d_Mo_check_219
                                    · replace hp := hp.2 h60
                                      replace hF := hF.trans (if_neg h60)
                                      refine j_iconst X (v := 3) d_Mo_check_214 (by decide) ?_
                                      refine j_goto X (tgt := 219) d_Mo_check_215 (by decide) ?_
                                      exact j_iret X hr hk (by rw [hF]) rfl d_Mo_check_219
                                  · replace hp := hp.1 h57
                                    replace hF := hF.trans (if_pos h57)
                                    refine j_bipush X (v := 7) d_Mo_check_197 (by decide) ?_
                                    exact j_iret X hr hk (by rw [hF]) rfl d_Mo_check_199
                              · replace hp := hp.1 h46
                                replace hF := hF.trans (if_pos h46)
                                refine j_iload_n X d_Mo_check_172 1 rfl ?_
                                refine j_iconst X (v := 1) d_Mo_check_173 (by decide) ?_
                                refine j_icmp_ge X (tgt := 180) d_Mo_check_174 (by decide) (fun h47 => ?_) (fun h47 => ?_)
                                · replace hp := hp.1 h47
                                  replace hF := hF.trans (if_pos h47)
                                  refine j_iload_n X d_Mo_check_180 2 rfl ?_
                                  refine j_bipush X (v := 18) d_Mo_check_181 (by decide) ?_
                                  refine j_icmp_ne X (tgt := 200) d_Mo_check_183 (by decide) (fun h48 => ?_) (fun h48 => ?_)
                                  · replace hp := hp.2 h48
                                    replace hF := hF.trans (if_neg h48)
                                    refine j_aload_n X d_Mo_check_200 3 rfl ?_
                                    refine j_get X fd_Mo_75_Mo 124 (by omega) y_Mo rfl d_Mo_check_201 ?_
                                    refine j_iload_n X d_Mo_check_204 2 rfl ?_
                                    refine j_callP (st := [.int (gI S 124 17)]) X hY_Mo_grows (c_Mo_grows l ((gR S 125 (gI S 124 13).toNatClampNeg) &&& 31) ) mw_671 hT_Mo_grows rfl rfl (Nat.le_of_ble_eq_true rfl) d_Mo_check_205 rfl rfl ⟨by decide, by decide⟩ ⟨Nat.zero_le _, Nat.zero_le _⟩ (j_st (st' := [.int (f_Mo_grows ((gR S 125 (gI S 124 13).toNatClampNeg) &&& 31)), .int (gI S 124 17)]) rfl ?_)
                                    refine j_topi (fun r53 e54 => ?_)
                                    replace hp := hp r53 e54
                                    replace hF := hF.trans (px_let_eq e54)
                                    refine j_iadd X d_Mo_check_208 ?_
                                    refine j_bipush X (v := 24) d_Mo_check_209 (by decide) ?_
                                    refine j_icmp_le X (tgt := 218) d_Mo_check_211 (by decide) (fun h55 => ?_) (fun h55 => ?_)
                                    · replace hp := hp.1 h55
                                      replace hF := hF.trans (if_pos h55)
                                      refine j_iconst X (v := 0) d_Mo_check_218 (by decide) ?_
                                      exact j_iret X hr hk (by rw [hF]) rfl d_Mo_check_219
                                    · replace hp := hp.2 h55
                                      replace hF := hF.trans (if_neg h55)
                                      refine j_iconst X (v := 3) d_Mo_check_214 (by decide) ?_
                                      refine j_goto X (tgt := 219) d_Mo_check_215 (by decide) ?_
                                      exact j_iret X hr hk (by rw [hF]) rfl d_Mo_check_219
                                  · replace hp := hp.1 h48
                                    replace hF := hF.trans (if_pos h48)
                                    refine j_aload_n X d_Mo_check_186 3 rfl ?_
                                    refine j_get X fd_Mo_72_Mo 124 (by omega) y_Mo rfl d_Mo_check_187 ?_
                                    refine j_aload_n X d_Mo_check_190 3 rfl ?_
                                    refine j_get X fd_Mo_60_Mo 124 (by omega) y_Mo rfl d_Mo_check_191 ?_
                                    refine j_icmp_ne X (tgt := 200) d_Mo_check_194 (by decide) (fun h49 => ?_) (fun h49 => ?_)
                                    · replace hp := hp.2 h49
                                      replace hF := hF.trans (if_neg h49)
                                      refine j_aload_n X d_Mo_check_200 3 rfl ?_
                                      refine j_get X fd_Mo_75_Mo 124 (by omega) y_Mo rfl d_Mo_check_201 ?_
                                      refine j_iload_n X d_Mo_check_204 2 rfl ?_
                                      refine j_callP (st := [.int (gI S 124 17)]) X hY_Mo_grows (c_Mo_grows l ((gR S 125 (gI S 124 13).toNatClampNeg) &&& 31) ) mw_671 hT_Mo_grows rfl rfl (Nat.le_of_ble_eq_true rfl) d_Mo_check_205 rfl rfl ⟨by decide, by decide⟩ ⟨Nat.zero_le _, Nat.zero_le _⟩ (j_st (st' := [.int (f_Mo_grows ((gR S 125 (gI S 124 13).toNatClampNeg) &&& 31)), .int (gI S 124 17)]) rfl ?_)
                                      refine j_topi (fun r50 e51 => ?_)
                                      replace hp := hp r50 e51
                                      replace hF := hF.trans (px_let_eq e51)
                                      refine j_iadd X d_Mo_check_208 ?_
                                      refine j_bipush X (v := 24) d_Mo_check_209 (by decide) ?_
                                      refine j_icmp_le X (tgt := 218) d_Mo_check_211 (by decide) (fun h52 => ?_) (fun h52 => ?_)
                                      · replace hp := hp.1 h52
                                        replace hF := hF.trans (if_pos h52)
                                        refine j_iconst X (v := 0) d_Mo_check_218 (by decide) ?_
                                        exact j_iret X hr hk (by rw [hF]) rfl d_Mo_check_219
                                      · replace hp := hp.2 h52
                                        replace hF := hF.trans (if_neg h52)
                                        refine j_iconst X (v := 3) d_Mo_check_214 (by decide) ?_
                                        refine j_goto X (tgt := 219) d_Mo_check_215 (by decide) ?_
                                        exact j_iret X hr hk (by rw [hF]) rfl d_Mo_check_219
                                    · replace hp := hp.1 h49
                                      replace hF := hF.trans (if_pos h49)
                                      refine j_bipush X (v := 7) d_Mo_check_197 (by decide) ?_
                                      exact j_iret X hr hk (by rw [hF]) rfl d_Mo_check_199
                                · replace hp := hp.2 h47
                                  replace hF := hF.trans (if_neg h47)
                                  refine j_bipush X (v := 6) d_Mo_check_177 (by decide) ?_
                                  exact j_iret X hr hk (by rw [hF]) rfl d_Mo_check_179
                            · replace hp := hp.1 h44
                              replace hF := hF.trans (if_pos h44)
                              refine j_iload_n X d_Mo_check_162 0 rfl ?_
                              refine j_if_eq X (tgt := 177) d_Mo_check_163 (by decide) (fun _ => ?_) (fun h => absurd (by decide) h)
                              refine j_bipush X (v := 6) d_Mo_check_177 (by decide) ?_
                              exact j_iret X hr hk (by rw [hF]) rfl d_Mo_check_179
                      · replace hp := hp.2 h17
                        replace hF := hF.trans (if_neg h17)
                        refine j_aload_n X d_Mo_check_116 2 rfl ?_
                        refine j_get X fd_Mo_26_Mo 124 (by omega) y_Mo rfl d_Mo_check_117 ?_
                        refine j_aload_n X d_Mo_check_120 2 rfl ?_
                        refine j_get X fd_Mo_75_Mo 124 (by omega) y_Mo rfl d_Mo_check_121 ?_
                        refine j_iconst X (v := 1) d_Mo_check_124 (by decide) ?_
                        refine j_isub X d_Mo_check_125 ?_
                        obtain ⟨o84, hp⟩ := hp
                        refine j_iald X 130 0 (by omega) y_stack rfl o84 d_Mo_check_126 ?_
                        refine j_goto X (tgt := 131) d_Mo_check_127 (by decide) ?_
                        refine j_istore_n X d_Mo_check_131 [(3, .int (gR S 130 ((gI S 124 17) - 1).toNatClampNeg)), (2, .int ((gR S 125 (gI S 124 13).toNatClampNeg) >>> ((5 : Int32) &&& 31))), (1, .int ((gR S 125 (gI S 124 13).toNatClampNeg) &&& 31)), (0, .ref (ad 124))] (by decide) rfl ?_
                        refine j_iload_n X d_Mo_check_132 2 rfl ?_
                        refine j_bipush X (v := 10) d_Mo_check_133 (by decide) ?_
                        refine j_icmp_eq X (tgt := 144) d_Mo_check_135 (by decide) (fun h85 => ?_) (fun h85 => ?_)
                        · replace hp := hp.1 h85
                          replace hF := hF.trans (if_pos h85)
                          refine j_iload_n X d_Mo_check_144 0 rfl ?_
                          refine j_if_lt X (tgt := 154) d_Mo_check_145 (by decide) (fun h86 => ?_) (fun h86 => ?_)
                          · replace hp := hp.1 h86
                            replace hF := hF.trans (if_pos h86)
                            refine j_iconst X (v := 4) d_Mo_check_154 (by decide) ?_
                            exact j_iret X hr hk (by rw [hF]) rfl d_Mo_check_155
                          · replace hp := hp.2 h86
                            replace hF := hF.trans (if_neg h86)
                            refine j_iload_n X d_Mo_check_148 0 rfl ?_
                            refine j_bipush X (v := 32) d_Mo_check_149 (by decide) ?_
                            refine j_icmp_lt X (tgt := 156) d_Mo_check_151 (by decide) (fun h87 => ?_) (fun h87 => ?_)
                            · replace hp := hp.1 h87
                              replace hF := hF.trans (if_pos h87)
                              refine j_iload_n X d_Mo_check_156 2 rfl ?_
                              refine j_bipush X (v := 8) d_Mo_check_157 (by decide) ?_
                              refine j_icmp_ne X (tgt := 166) d_Mo_check_159 (by decide) (fun h88 => ?_) (fun h88 => ?_)
                              · replace hp := hp.2 h88
                                replace hF := hF.trans (if_neg h88)
                                refine j_iload_n X d_Mo_check_166 2 rfl ?_
                                refine j_bipush X (v := 19) d_Mo_check_167 (by decide) ?_
                                refine j_icmp_ne X (tgt := 180) d_Mo_check_169 (by decide) (fun h108 => ?_) (fun h108 => ?_)
                                · replace hp := hp.2 h108
                                  replace hF := hF.trans (if_neg h108)
                                  refine j_iload_n X d_Mo_check_180 2 rfl ?_
                                  refine j_bipush X (v := 18) d_Mo_check_181 (by decide) ?_
                                  refine j_icmp_ne X (tgt := 200) d_Mo_check_183 (by decide) (fun h118 => ?_) (fun h118 => ?_)
                                  · replace hp := hp.2 h118
                                    replace hF := hF.trans (if_neg h118)
                                    refine j_aload_n X d_Mo_check_200 3 rfl ?_
                                    refine j_get X fd_Mo_75_Mo 124 (by omega) y_Mo rfl d_Mo_check_201 ?_
                                    refine j_iload_n X d_Mo_check_204 2 rfl ?_
                                    refine j_callP (st := [.int (gI S 124 17)]) X hY_Mo_grows (c_Mo_grows l ((gR S 125 (gI S 124 13).toNatClampNeg) &&& 31) ) mw_671 hT_Mo_grows rfl rfl (Nat.le_of_ble_eq_true rfl) d_Mo_check_205 rfl rfl ⟨by decide, by decide⟩ ⟨Nat.zero_le _, Nat.zero_le _⟩ (j_st (st' := [.int (f_Mo_grows ((gR S 125 (gI S 124 13).toNatClampNeg) &&& 31)), .int (gI S 124 17)]) rfl ?_)
                                    refine j_topi (fun r123 e124 => ?_)
                                    replace hp := hp r123 e124
                                    replace hF := hF.trans (px_let_eq e124)
                                    refine j_iadd X d_Mo_check_208 ?_
                                    refine j_bipush X (v := 24) d_Mo_check_209 (by decide) ?_
                                    refine j_icmp_le X (tgt := 218) d_Mo_check_211 (by decide) (fun h125 => ?_) (fun h125 => ?_)
                                    · replace hp := hp.1 h125
                                      replace hF := hF.trans (if_pos h125)
                                      refine j_iconst X (v := 0) d_Mo_check_218 (by decide) ?_
                                      exact j_iret X hr hk (by rw [hF]) rfl d_Mo_check_219
                                    · replace hp := hp.2 h125
                                      replace hF := hF.trans (if_neg h125)
                                      refine j_iconst X (v := 3) d_Mo_check_214 (by decide) ?_
                                      refine j_goto X (tgt := 219) d_Mo_check_215 (by decide) ?_
                                      exact j_iret X hr hk (by rw [hF]) rfl d_Mo_check_219
                                  · replace hp := hp.1 h118
                                    replace hF := hF.trans (if_pos h118)
                                    refine j_aload_n X d_Mo_check_186 3 rfl ?_
                                    refine j_get X fd_Mo_72_Mo 124 (by omega) y_Mo rfl d_Mo_check_187 ?_
                                    refine j_aload_n X d_Mo_check_190 3 rfl ?_
                                    refine j_get X fd_Mo_60_Mo 124 (by omega) y_Mo rfl d_Mo_check_191 ?_
                                    refine j_icmp_ne X (tgt := 200) d_Mo_check_194 (by decide) (fun h119 => ?_) (fun h119 => ?_)
                                    · replace hp := hp.2 h119
                                      replace hF := hF.trans (if_neg h119)
                                      refine j_aload_n X d_Mo_check_200 3 rfl ?_
                                      refine j_get X fd_Mo_75_Mo 124 (by omega) y_Mo rfl d_Mo_check_201 ?_
                                      refine j_iload_n X d_Mo_check_204 2 rfl ?_
                                      refine j_callP (st := [.int (gI S 124 17)]) X hY_Mo_grows (c_Mo_grows l ((gR S 125 (gI S 124 13).toNatClampNeg) &&& 31) ) mw_671 hT_Mo_grows rfl rfl (Nat.le_of_ble_eq_true rfl) d_Mo_check_205 rfl rfl ⟨by decide, by decide⟩ ⟨Nat.zero_le _, Nat.zero_le _⟩ (j_st (st' := [.int (f_Mo_grows ((gR S 125 (gI S 124 13).toNatClampNeg) &&& 31)), .int (gI S 124 17)]) rfl ?_)
                                      refine j_topi (fun r120 e121 => ?_)
                                      replace hp := hp r120 e121
                                      replace hF := hF.trans (px_let_eq e121)
                                      refine j_iadd X d_Mo_check_208 ?_
                                      refine j_bipush X (v := 24) d_Mo_check_209 (by decide) ?_
                                      refine j_icmp_le X (tgt := 218) d_Mo_check_211 (by decide) (fun h122 => ?_) (fun h122 => ?_)
                                      · replace hp := hp.1 h122
                                        replace hF := hF.trans (if_pos h122)
                                        refine j_iconst X (v := 0) d_Mo_check_218 (by decide) ?_
                                        exact j_iret X hr hk (by rw [hF]) rfl d_Mo_check_219
                                      · replace hp := hp.2 h122
                                        replace hF := hF.trans (if_neg h122)
                                        refine j_iconst X (v := 3) d_Mo_check_214 (by decide) ?_
                                        refine j_goto X (tgt := 219) d_Mo_check_215 (by decide) ?_
                                        exact j_iret X hr hk (by rw [hF]) rfl d_Mo_check_219
                                    · replace hp := hp.1 h119
                                      replace hF := hF.trans (if_pos h119)
                                      refine j_bipush X (v := 7) d_Mo_check_197 (by decide) ?_
                                      exact j_iret X hr hk (by rw [hF]) rfl d_Mo_check_199
                                · replace hp := hp.1 h108
                                  replace hF := hF.trans (if_pos h108)
                                  refine j_iload_n X d_Mo_check_172 1 rfl ?_
                                  refine j_iconst X (v := 1) d_Mo_check_173 (by decide) ?_
                                  refine j_icmp_ge X (tgt := 180) d_Mo_check_174 (by decide) (fun h109 => ?_) (fun h109 => ?_)
                                  · replace hp := hp.1 h109
                                    replace hF := hF.trans (if_pos h109)
                                    refine j_iload_n X d_Mo_check_180 2 rfl ?_
                                    refine j_bipush X (v := 18) d_Mo_check_181 (by decide) ?_
                                    refine j_icmp_ne X (tgt := 200) d_Mo_check_183 (by decide) (fun h110 => ?_) (fun h110 => ?_)
                                    · replace hp := hp.2 h110
                                      replace hF := hF.trans (if_neg h110)
                                      refine j_aload_n X d_Mo_check_200 3 rfl ?_
                                      refine j_get X fd_Mo_75_Mo 124 (by omega) y_Mo rfl d_Mo_check_201 ?_
                                      refine j_iload_n X d_Mo_check_204 2 rfl ?_
                                      refine j_callP (st := [.int (gI S 124 17)]) X hY_Mo_grows (c_Mo_grows l ((gR S 125 (gI S 124 13).toNatClampNeg) &&& 31) ) mw_671 hT_Mo_grows rfl rfl (Nat.le_of_ble_eq_true rfl) d_Mo_check_205 rfl rfl ⟨by decide, by decide⟩ ⟨Nat.zero_le _, Nat.zero_le _⟩ (j_st (st' := [.int (f_Mo_grows ((gR S 125 (gI S 124 13).toNatClampNeg) &&& 31)), .int (gI S 124 17)]) rfl ?_)
                                      refine j_topi (fun r115 e116 => ?_)
                                      replace hp := hp r115 e116
                                      replace hF := hF.trans (px_let_eq e116)
                                      refine j_iadd X d_Mo_check_208 ?_
                                      refine j_bipush X (v := 24) d_Mo_check_209 (by decide) ?_
                                      refine j_icmp_le X (tgt := 218) d_Mo_check_211 (by decide) (fun h117 => ?_) (fun h117 => ?_)
                                      · replace hp := hp.1 h117
                                        replace hF := hF.trans (if_pos h117)
                                        refine j_iconst X (v := 0) d_Mo_check_218 (by decide) ?_
                                        exact j_iret X hr hk (by rw [hF]) rfl d_Mo_check_219
                                      · replace hp := hp.2 h117
                                        replace hF := hF.trans (if_neg h117)
                                        refine j_iconst X (v := 3) d_Mo_check_214 (by decide) ?_
                                        refine j_goto X (tgt := 219) d_Mo_check_215 (by decide) ?_
                                        exact j_iret X hr hk (by rw [hF]) rfl d_Mo_check_219
                                    · replace hp := hp.1 h110
                                      replace hF := hF.trans (if_pos h110)
                                      refine j_aload_n X d_Mo_check_186 3 rfl ?_
                                      refine j_get X fd_Mo_72_Mo 124 (by omega) y_Mo rfl d_Mo_check_187 ?_
                                      refine j_aload_n X d_Mo_check_190 3 rfl ?_
                                      refine j_get X fd_Mo_60_Mo 124 (by omega) y_Mo rfl d_Mo_check_191 ?_
                                      refine j_icmp_ne X (tgt := 200) d_Mo_check_194 (by decide) (fun h111 => ?_) (fun h111 => ?_)
                                      · replace hp := hp.2 h111
                                        replace hF := hF.trans (if_neg h111)
                                        refine j_aload_n X d_Mo_check_200 3 rfl ?_
                                        refine j_get X fd_Mo_75_Mo 124 (by omega) y_Mo rfl d_Mo_check_201 ?_
                                        refine j_iload_n X d_Mo_check_204 2 rfl ?_
                                        refine j_callP (st := [.int (gI S 124 17)]) X hY_Mo_grows (c_Mo_grows l ((gR S 125 (gI S 124 13).toNatClampNeg) &&& 31) ) mw_671 hT_Mo_grows rfl rfl (Nat.le_of_ble_eq_true rfl) d_Mo_check_205 rfl rfl ⟨by decide, by decide⟩ ⟨Nat.zero_le _, Nat.zero_le _⟩ (j_st (st' := [.int (f_Mo_grows ((gR S 125 (gI S 124 13).toNatClampNeg) &&& 31)), .int (gI S 124 17)]) rfl ?_)
                                        refine j_topi (fun r112 e113 => ?_)
                                        replace hp := hp r112 e113
                                        replace hF := hF.trans (px_let_eq e113)
                                        refine j_iadd X d_Mo_check_208 ?_
                                        refine j_bipush X (v := 24) d_Mo_check_209 (by decide) ?_
                                        refine j_icmp_le X (tgt := 218) d_Mo_check_211 (by decide) (fun h114 => ?_) (fun h114 => ?_)
                                        · replace hp := hp.1 h114
                                          replace hF := hF.trans (if_pos h114)
                                          refine j_iconst X (v := 0) d_Mo_check_218 (by decide) ?_
                                          exact j_iret X hr hk (by rw [hF]) rfl d_Mo_check_219
                                        · replace hp := hp.2 h114
                                          replace hF := hF.trans (if_neg h114)
                                          refine j_iconst X (v := 3) d_Mo_check_214 (by decide) ?_
                                          refine j_goto X (tgt := 219) d_Mo_check_215 (by decide) ?_
                                          exact j_iret X hr hk (by rw [hF]) rfl d_Mo_check_219
                                      · replace hp := hp.1 h111
                                        replace hF := hF.trans (if_pos h111)
                                        refine j_bipush X (v := 7) d_Mo_check_197 (by decide) ?_
                                        exact j_iret X hr hk (by rw [hF]) rfl d_Mo_check_199
                                  · replace hp := hp.2 h109
                                    replace hF := hF.trans (if_neg h109)
                                    refine j_bipush X (v := 6) d_Mo_check_177 (by decide) ?_
                                    exact j_iret X hr hk (by rw [hF]) rfl d_Mo_check_179
                              · replace hp := hp.1 h88
                                replace hF := hF.trans (if_pos h88)
                                refine j_iload_n X d_Mo_check_162 0 rfl ?_
                                refine j_if_eq X (tgt := 177) d_Mo_check_163 (by decide) (fun h89 => ?_) (fun h89 => ?_)
                                · replace hp := hp.1 h89
                                  replace hF := hF.trans (if_pos h89)
                                  refine j_bipush X (v := 6) d_Mo_check_177 (by decide) ?_
                                  exact j_iret X hr hk (by rw [hF]) rfl d_Mo_check_179
                                · replace hp := hp.2 h89
                                  replace hF := hF.trans (if_neg h89)
                                  refine j_iload_n X d_Mo_check_166 2 rfl ?_
                                  refine j_bipush X (v := 19) d_Mo_check_167 (by decide) ?_
                                  refine j_icmp_ne X (tgt := 180) d_Mo_check_169 (by decide) (fun h90 => ?_) (fun h90 => ?_)
                                  · replace hp := hp.2 h90
                                    replace hF := hF.trans (if_neg h90)
                                    refine j_iload_n X d_Mo_check_180 2 rfl ?_
                                    refine j_bipush X (v := 18) d_Mo_check_181 (by decide) ?_
                                    refine j_icmp_ne X (tgt := 200) d_Mo_check_183 (by decide) (fun h100 => ?_) (fun h100 => ?_)
                                    · replace hp := hp.2 h100
                                      replace hF := hF.trans (if_neg h100)
                                      refine j_aload_n X d_Mo_check_200 3 rfl ?_
                                      refine j_get X fd_Mo_75_Mo 124 (by omega) y_Mo rfl d_Mo_check_201 ?_
                                      refine j_iload_n X d_Mo_check_204 2 rfl ?_
                                      refine j_callP (st := [.int (gI S 124 17)]) X hY_Mo_grows (c_Mo_grows l ((gR S 125 (gI S 124 13).toNatClampNeg) &&& 31) ) mw_671 hT_Mo_grows rfl rfl (Nat.le_of_ble_eq_true rfl) d_Mo_check_205 rfl rfl ⟨by decide, by decide⟩ ⟨Nat.zero_le _, Nat.zero_le _⟩ (j_st (st' := [.int (f_Mo_grows ((gR S 125 (gI S 124 13).toNatClampNeg) &&& 31)), .int (gI S 124 17)]) rfl ?_)
                                      refine j_topi (fun r105 e106 => ?_)
                                      replace hp := hp r105 e106
                                      replace hF := hF.trans (px_let_eq e106)
                                      refine j_iadd X d_Mo_check_208 ?_
                                      refine j_bipush X (v := 24) d_Mo_check_209 (by decide) ?_
                                      refine j_icmp_le X (tgt := 218) d_Mo_check_211 (by decide) (fun h107 => ?_) (fun h107 => ?_)
                                      · replace hp := hp.1 h107
                                        replace hF := hF.trans (if_pos h107)
                                        refine j_iconst X (v := 0) d_Mo_check_218 (by decide) ?_
                                        exact j_iret X hr hk (by rw [hF]) rfl d_Mo_check_219
                                      · replace hp := hp.2 h107
                                        replace hF := hF.trans (if_neg h107)
                                        refine j_iconst X (v := 3) d_Mo_check_214 (by decide) ?_
                                        refine j_goto X (tgt := 219) d_Mo_check_215 (by decide) ?_
                                        exact j_iret X hr hk (by rw [hF]) rfl d_Mo_check_219
                                    · replace hp := hp.1 h100
                                      replace hF := hF.trans (if_pos h100)
                                      refine j_aload_n X d_Mo_check_186 3 rfl ?_
                                      refine j_get X fd_Mo_72_Mo 124 (by omega) y_Mo rfl d_Mo_check_187 ?_
                                      refine j_aload_n X d_Mo_check_190 3 rfl ?_
                                      refine j_get X fd_Mo_60_Mo 124 (by omega) y_Mo rfl d_Mo_check_191 ?_
                                      refine j_icmp_ne X (tgt := 200) d_Mo_check_194 (by decide) (fun h101 => ?_) (fun h101 => ?_)
                                      · replace hp := hp.2 h101
                                        replace hF := hF.trans (if_neg h101)
                                        refine j_aload_n X d_Mo_check_200 3 rfl ?_
                                        refine j_get X fd_Mo_75_Mo 124 (by omega) y_Mo rfl d_Mo_check_201 ?_
                                        refine j_iload_n X d_Mo_check_204 2 rfl ?_
                                        refine j_callP (st := [.int (gI S 124 17)]) X hY_Mo_grows (c_Mo_grows l ((gR S 125 (gI S 124 13).toNatClampNeg) &&& 31) ) mw_671 hT_Mo_grows rfl rfl (Nat.le_of_ble_eq_true rfl) d_Mo_check_205 rfl rfl ⟨by decide, by decide⟩ ⟨Nat.zero_le _, Nat.zero_le _⟩ (j_st (st' := [.int (f_Mo_grows ((gR S 125 (gI S 124 13).toNatClampNeg) &&& 31)), .int (gI S 124 17)]) rfl ?_)
                                        refine j_topi (fun r102 e103 => ?_)
                                        replace hp := hp r102 e103
                                        replace hF := hF.trans (px_let_eq e103)
                                        refine j_iadd X d_Mo_check_208 ?_
                                        refine j_bipush X (v := 24) d_Mo_check_209 (by decide) ?_
                                        refine j_icmp_le X (tgt := 218) d_Mo_check_211 (by decide) (fun h104 => ?_) (fun h104 => ?_)
                                        · replace hp := hp.1 h104
                                          replace hF := hF.trans (if_pos h104)
                                          refine j_iconst X (v := 0) d_Mo_check_218 (by decide) ?_
                                          exact j_iret X hr hk (by rw [hF]) rfl d_Mo_check_219
                                        · replace hp := hp.2 h104
                                          replace hF := hF.trans (if_neg h104)
                                          refine j_iconst X (v := 3) d_Mo_check_214 (by decide) ?_
                                          refine j_goto X (tgt := 219) d_Mo_check_215 (by decide) ?_
                                          exact j_iret X hr hk (by rw [hF]) rfl d_Mo_check_219
                                      · replace hp := hp.1 h101
                                        replace hF := hF.trans (if_pos h101)
                                        refine j_bipush X (v := 7) d_Mo_check_197 (by decide) ?_
                                        exact j_iret X hr hk (by rw [hF]) rfl d_Mo_check_199
                                  · replace hp := hp.1 h90
                                    replace hF := hF.trans (if_pos h90)
                                    refine j_iload_n X d_Mo_check_172 1 rfl ?_
                                    refine j_iconst X (v := 1) d_Mo_check_173 (by decide) ?_
                                    refine j_icmp_ge X (tgt := 180) d_Mo_check_174 (by decide) (fun h91 => ?_) (fun h91 => ?_)
                                    · replace hp := hp.1 h91
                                      replace hF := hF.trans (if_pos h91)
                                      refine j_iload_n X d_Mo_check_180 2 rfl ?_
                                      refine j_bipush X (v := 18) d_Mo_check_181 (by decide) ?_
                                      refine j_icmp_ne X (tgt := 200) d_Mo_check_183 (by decide) (fun h92 => ?_) (fun h92 => ?_)
                                      · replace hp := hp.2 h92
                                        replace hF := hF.trans (if_neg h92)
                                        refine j_aload_n X d_Mo_check_200 3 rfl ?_
                                        refine j_get X fd_Mo_75_Mo 124 (by omega) y_Mo rfl d_Mo_check_201 ?_
                                        refine j_iload_n X d_Mo_check_204 2 rfl ?_
                                        refine j_callP (st := [.int (gI S 124 17)]) X hY_Mo_grows (c_Mo_grows l ((gR S 125 (gI S 124 13).toNatClampNeg) &&& 31) ) mw_671 hT_Mo_grows rfl rfl (Nat.le_of_ble_eq_true rfl) d_Mo_check_205 rfl rfl ⟨by decide, by decide⟩ ⟨Nat.zero_le _, Nat.zero_le _⟩ (j_st (st' := [.int (f_Mo_grows ((gR S 125 (gI S 124 13).toNatClampNeg) &&& 31)), .int (gI S 124 17)]) rfl ?_)
                                        refine j_topi (fun r97 e98 => ?_)
                                        replace hp := hp r97 e98
                                        replace hF := hF.trans (px_let_eq e98)
                                        refine j_iadd X d_Mo_check_208 ?_
                                        refine j_bipush X (v := 24) d_Mo_check_209 (by decide) ?_
                                        refine j_icmp_le X (tgt := 218) d_Mo_check_211 (by decide) (fun h99 => ?_) (fun h99 => ?_)
                                        · replace hp := hp.1 h99
                                          replace hF := hF.trans (if_pos h99)
                                          refine j_iconst X (v := 0) d_Mo_check_218 (by decide) ?_
                                          exact j_iret X hr hk (by rw [hF]) rfl d_Mo_check_219
                                        · replace hp := hp.2 h99
                                          replace hF := hF.trans (if_neg h99)
                                          refine j_iconst X (v := 3) d_Mo_check_214 (by decide) ?_
                                          refine j_goto X (tgt := 219) d_Mo_check_215 (by decide) ?_
                                          exact j_iret X hr hk (by rw [hF]) rfl d_Mo_check_219
                                      · replace hp := hp.1 h92
                                        replace hF := hF.trans (if_pos h92)
                                        refine j_aload_n X d_Mo_check_186 3 rfl ?_
                                        refine j_get X fd_Mo_72_Mo 124 (by omega) y_Mo rfl d_Mo_check_187 ?_
                                        refine j_aload_n X d_Mo_check_190 3 rfl ?_
                                        refine j_get X fd_Mo_60_Mo 124 (by omega) y_Mo rfl d_Mo_check_191 ?_
                                        refine j_icmp_ne X (tgt := 200) d_Mo_check_194 (by decide) (fun h93 => ?_) (fun h93 => ?_)
                                        · replace hp := hp.2 h93
                                          replace hF := hF.trans (if_neg h93)
                                          refine j_aload_n X d_Mo_check_200 3 rfl ?_
                                          refine j_get X fd_Mo_75_Mo 124 (by omega) y_Mo rfl d_Mo_check_201 ?_
                                          refine j_iload_n X d_Mo_check_204 2 rfl ?_
                                          refine j_callP (st := [.int (gI S 124 17)]) X hY_Mo_grows (c_Mo_grows l ((gR S 125 (gI S 124 13).toNatClampNeg) &&& 31) ) mw_671 hT_Mo_grows rfl rfl (Nat.le_of_ble_eq_true rfl) d_Mo_check_205 rfl rfl ⟨by decide, by decide⟩ ⟨Nat.zero_le _, Nat.zero_le _⟩ (j_st (st' := [.int (f_Mo_grows ((gR S 125 (gI S 124 13).toNatClampNeg) &&& 31)), .int (gI S 124 17)]) rfl ?_)
                                          refine j_topi (fun r94 e95 => ?_)
                                          replace hp := hp r94 e95
                                          replace hF := hF.trans (px_let_eq e95)
                                          refine j_iadd X d_Mo_check_208 ?_
                                          refine j_bipush X (v := 24) d_Mo_check_209 (by decide) ?_
                                          refine j_icmp_le X (tgt := 218) d_Mo_check_211 (by decide) (fun h96 => ?_) (fun h96 => ?_)
                                          · replace hp := hp.1 h96
                                            replace hF := hF.trans (if_pos h96)
                                            refine j_iconst X (v := 0) d_Mo_check_218 (by decide) ?_
                                            exact j_iret X hr hk (by rw [hF]) rfl d_Mo_check_219
                                          · replace hp := hp.2 h96
                                            replace hF := hF.trans (if_neg h96)
                                            refine j_iconst X (v := 3) d_Mo_check_214 (by decide) ?_
                                            refine j_goto X (tgt := 219) d_Mo_check_215 (by decide) ?_
                                            exact j_iret X hr hk (by rw [hF]) rfl d_Mo_check_219
                                        · replace hp := hp.1 h93
                                          replace hF := hF.trans (if_pos h93)
                                          refine j_bipush X (v := 7) d_Mo_check_197 (by decide) ?_
                                          exact j_iret X hr hk (by rw [hF]) rfl d_Mo_check_199
                                    · replace hp := hp.2 h91
                                      replace hF := hF.trans (if_neg h91)
                                      refine j_bipush X (v := 6) d_Mo_check_177 (by decide) ?_
                                      exact j_iret X hr hk (by rw [hF]) rfl d_Mo_check_179
                            · replace hp := hp.2 h87
                              replace hF := hF.trans (if_neg h87)
                              refine j_iconst X (v := 4) d_Mo_check_154 (by decide) ?_
                              exact j_iret X hr hk (by rw [hF]) rfl d_Mo_check_155
                        · replace hp := hp.2 h85
                          replace hF := hF.trans (if_neg h85)
                          refine j_iload_n X d_Mo_check_138 2 rfl ?_
                          refine j_bipush X (v := 11) d_Mo_check_139 (by decide) ?_
                          refine j_icmp_ne X (tgt := 156) d_Mo_check_141 (by decide) (fun h126 => ?_) (fun h126 => ?_)
                          · replace hp := hp.2 h126
                            replace hF := hF.trans (if_neg h126)
                            refine j_iload_n X d_Mo_check_156 2 rfl ?_
                            refine j_bipush X (v := 8) d_Mo_check_157 (by decide) ?_
                            refine j_icmp_ne X (tgt := 166) d_Mo_check_159 (by decide) (fun h167 => ?_) (fun h167 => ?_)
                            · replace hp := hp.2 h167
                              replace hF := hF.trans (if_neg h167)
                              refine j_iload_n X d_Mo_check_166 2 rfl ?_
                              refine j_bipush X (v := 19) d_Mo_check_167 (by decide) ?_
                              refine j_icmp_ne X (tgt := 180) d_Mo_check_169 (by decide) (fun h187 => ?_) (fun h187 => ?_)
                              · replace hp := hp.2 h187
                                replace hF := hF.trans (if_neg h187)
                                refine j_iload_n X d_Mo_check_180 2 rfl ?_
                                refine j_bipush X (v := 18) d_Mo_check_181 (by decide) ?_
                                refine j_icmp_ne X (tgt := 200) d_Mo_check_183 (by decide) (fun h197 => ?_) (fun h197 => ?_)
                                · replace hp := hp.2 h197
                                  replace hF := hF.trans (if_neg h197)
                                  refine j_aload_n X d_Mo_check_200 3 rfl ?_
                                  refine j_get X fd_Mo_75_Mo 124 (by omega) y_Mo rfl d_Mo_check_201 ?_
                                  refine j_iload_n X d_Mo_check_204 2 rfl ?_
                                  refine j_callP (st := [.int (gI S 124 17)]) X hY_Mo_grows (c_Mo_grows l ((gR S 125 (gI S 124 13).toNatClampNeg) &&& 31) ) mw_671 hT_Mo_grows rfl rfl (Nat.le_of_ble_eq_true rfl) d_Mo_check_205 rfl rfl ⟨by decide, by decide⟩ ⟨Nat.zero_le _, Nat.zero_le _⟩ (j_st (st' := [.int (f_Mo_grows ((gR S 125 (gI S 124 13).toNatClampNeg) &&& 31)), .int (gI S 124 17)]) rfl ?_)
                                  refine j_topi (fun r202 e203 => ?_)
                                  replace hp := hp r202 e203
                                  replace hF := hF.trans (px_let_eq e203)
                                  refine j_iadd X d_Mo_check_208 ?_
                                  refine j_bipush X (v := 24) d_Mo_check_209 (by decide) ?_
                                  refine j_icmp_le X (tgt := 218) d_Mo_check_211 (by decide) (fun h204 => ?_) (fun h204 => ?_)
                                  · replace hp := hp.1 h204
                                    replace hF := hF.trans (if_pos h204)
                                    refine j_iconst X (v := 0) d_Mo_check_218 (by decide) ?_
                                    exact j_iret X hr hk (by rw [hF]) rfl d_Mo_check_219
                                  · replace hp := hp.2 h204
                                    replace hF := hF.trans (if_neg h204)
                                    refine j_iconst X (v := 3) d_Mo_check_214 (by decide) ?_
                                    refine j_goto X (tgt := 219) d_Mo_check_215 (by decide) ?_
                                    exact j_iret X hr hk (by rw [hF]) rfl d_Mo_check_219
                                · replace hp := hp.1 h197
                                  replace hF := hF.trans (if_pos h197)
                                  refine j_aload_n X d_Mo_check_186 3 rfl ?_
                                  refine j_get X fd_Mo_72_Mo 124 (by omega) y_Mo rfl d_Mo_check_187 ?_
                                  refine j_aload_n X d_Mo_check_190 3 rfl ?_
                                  refine j_get X fd_Mo_60_Mo 124 (by omega) y_Mo rfl d_Mo_check_191 ?_
                                  refine j_icmp_ne X (tgt := 200) d_Mo_check_194 (by decide) (fun h198 => ?_) (fun h198 => ?_)
                                  · replace hp := hp.2 h198
                                    replace hF := hF.trans (if_neg h198)
                                    refine j_aload_n X d_Mo_check_200 3 rfl ?_
                                    refine j_get X fd_Mo_75_Mo 124 (by omega) y_Mo rfl d_Mo_check_201 ?_
                                    refine j_iload_n X d_Mo_check_204 2 rfl ?_
                                    refine j_callP (st := [.int (gI S 124 17)]) X hY_Mo_grows (c_Mo_grows l ((gR S 125 (gI S 124 13).toNatClampNeg) &&& 31) ) mw_671 hT_Mo_grows rfl rfl (Nat.le_of_ble_eq_true rfl) d_Mo_check_205 rfl rfl ⟨by decide, by decide⟩ ⟨Nat.zero_le _, Nat.zero_le _⟩ (j_st (st' := [.int (f_Mo_grows ((gR S 125 (gI S 124 13).toNatClampNeg) &&& 31)), .int (gI S 124 17)]) rfl ?_)
                                    refine j_topi (fun r199 e200 => ?_)
                                    replace hp := hp r199 e200
                                    replace hF := hF.trans (px_let_eq e200)
                                    refine j_iadd X d_Mo_check_208 ?_
                                    refine j_bipush X (v := 24) d_Mo_check_209 (by decide) ?_
                                    refine j_icmp_le X (tgt := 218) d_Mo_check_211 (by decide) (fun h201 => ?_) (fun h201 => ?_)
                                    · replace hp := hp.1 h201
                                      replace hF := hF.trans (if_pos h201)
                                      refine j_iconst X (v := 0) d_Mo_check_218 (by decide) ?_
                                      exact j_iret X hr hk (by rw [hF]) rfl d_Mo_check_219
                                    · replace hp := hp.2 h201
                                      replace hF := hF.trans (if_neg h201)
                                      refine j_iconst X (v := 3) d_Mo_check_214 (by decide) ?_
                                      refine j_goto X (tgt := 219) d_Mo_check_215 (by decide) ?_
                                      exact j_iret X hr hk (by rw [hF]) rfl d_Mo_check_219
                                  · replace hp := hp.1 h198
                                    replace hF := hF.trans (if_pos h198)
                                    refine j_bipush X (v := 7) d_Mo_check_197 (by decide) ?_
                                    exact j_iret X hr hk (by rw [hF]) rfl d_Mo_check_199
                              · replace hp := hp.1 h187
                                replace hF := hF.trans (if_pos h187)
                                refine j_iload_n X d_Mo_check_172 1 rfl ?_
                                refine j_iconst X (v := 1) d_Mo_check_173 (by decide) ?_
                                refine j_icmp_ge X (tgt := 180) d_Mo_check_174 (by decide) (fun h188 => ?_) (fun h188 => ?_)
                                · replace hp := hp.1 h188
                                  replace hF := hF.trans (if_pos h188)
                                  refine j_iload_n X d_Mo_check_180 2 rfl ?_
                                  refine j_bipush X (v := 18) d_Mo_check_181 (by decide) ?_
                                  refine j_icmp_ne X (tgt := 200) d_Mo_check_183 (by decide) (fun h189 => ?_) (fun h189 => ?_)
                                  · replace hp := hp.2 h189
                                    replace hF := hF.trans (if_neg h189)
                                    refine j_aload_n X d_Mo_check_200 3 rfl ?_
                                    refine j_get X fd_Mo_75_Mo 124 (by omega) y_Mo rfl d_Mo_check_201 ?_
                                    refine j_iload_n X d_Mo_check_204 2 rfl ?_
                                    refine j_callP (st := [.int (gI S 124 17)]) X hY_Mo_grows (c_Mo_grows l ((gR S 125 (gI S 124 13).toNatClampNeg) &&& 31) ) mw_671 hT_Mo_grows rfl rfl (Nat.le_of_ble_eq_true rfl) d_Mo_check_205 rfl rfl ⟨by decide, by decide⟩ ⟨Nat.zero_le _, Nat.zero_le _⟩ (j_st (st' := [.int (f_Mo_grows ((gR S 125 (gI S 124 13).toNatClampNeg) &&& 31)), .int (gI S 124 17)]) rfl ?_)
                                    refine j_topi (fun r194 e195 => ?_)
                                    replace hp := hp r194 e195
                                    replace hF := hF.trans (px_let_eq e195)
                                    refine j_iadd X d_Mo_check_208 ?_
                                    refine j_bipush X (v := 24) d_Mo_check_209 (by decide) ?_
                                    refine j_icmp_le X (tgt := 218) d_Mo_check_211 (by decide) (fun h196 => ?_) (fun h196 => ?_)
                                    · replace hp := hp.1 h196
                                      replace hF := hF.trans (if_pos h196)
                                      refine j_iconst X (v := 0) d_Mo_check_218 (by decide) ?_
                                      exact j_iret X hr hk (by rw [hF]) rfl d_Mo_check_219
                                    · replace hp := hp.2 h196
                                      replace hF := hF.trans (if_neg h196)
                                      refine j_iconst X (v := 3) d_Mo_check_214 (by decide) ?_
                                      refine j_goto X (tgt := 219) d_Mo_check_215 (by decide) ?_
                                      exact j_iret X hr hk (by rw [hF]) rfl d_Mo_check_219
                                  · replace hp := hp.1 h189
                                    replace hF := hF.trans (if_pos h189)
                                    refine j_aload_n X d_Mo_check_186 3 rfl ?_
                                    refine j_get X fd_Mo_72_Mo 124 (by omega) y_Mo rfl d_Mo_check_187 ?_
                                    refine j_aload_n X d_Mo_check_190 3 rfl ?_
                                    refine j_get X fd_Mo_60_Mo 124 (by omega) y_Mo rfl d_Mo_check_191 ?_
                                    refine j_icmp_ne X (tgt := 200) d_Mo_check_194 (by decide) (fun h190 => ?_) (fun h190 => ?_)
                                    · replace hp := hp.2 h190
                                      replace hF := hF.trans (if_neg h190)
                                      refine j_aload_n X d_Mo_check_200 3 rfl ?_
                                      refine j_get X fd_Mo_75_Mo 124 (by omega) y_Mo rfl d_Mo_check_201 ?_
                                      refine j_iload_n X d_Mo_check_204 2 rfl ?_
                                      refine j_callP (st := [.int (gI S 124 17)]) X hY_Mo_grows (c_Mo_grows l ((gR S 125 (gI S 124 13).toNatClampNeg) &&& 31) ) mw_671 hT_Mo_grows rfl rfl (Nat.le_of_ble_eq_true rfl) d_Mo_check_205 rfl rfl ⟨by decide, by decide⟩ ⟨Nat.zero_le _, Nat.zero_le _⟩ (j_st (st' := [.int (f_Mo_grows ((gR S 125 (gI S 124 13).toNatClampNeg) &&& 31)), .int (gI S 124 17)]) rfl ?_)
                                      refine j_topi (fun r191 e192 => ?_)
                                      replace hp := hp r191 e192
                                      replace hF := hF.trans (px_let_eq e192)
                                      refine j_iadd X d_Mo_check_208 ?_
                                      refine j_bipush X (v := 24) d_Mo_check_209 (by decide) ?_
                                      refine j_icmp_le X (tgt := 218) d_Mo_check_211 (by decide) (fun h193 => ?_) (fun h193 => ?_)
                                      · replace hp := hp.1 h193
                                        replace hF := hF.trans (if_pos h193)
                                        refine j_iconst X (v := 0) d_Mo_check_218 (by decide) ?_
                                        exact j_iret X hr hk (by rw [hF]) rfl d_Mo_check_219
                                      · replace hp := hp.2 h193
                                        replace hF := hF.trans (if_neg h193)
                                        refine j_iconst X (v := 3) d_Mo_check_214 (by decide) ?_
                                        refine j_goto X (tgt := 219) d_Mo_check_215 (by decide) ?_
                                        exact j_iret X hr hk (by rw [hF]) rfl d_Mo_check_219
                                    · replace hp := hp.1 h190
                                      replace hF := hF.trans (if_pos h190)
                                      refine j_bipush X (v := 7) d_Mo_check_197 (by decide) ?_
                                      exact j_iret X hr hk (by rw [hF]) rfl d_Mo_check_199
                                · replace hp := hp.2 h188
                                  replace hF := hF.trans (if_neg h188)
                                  refine j_bipush X (v := 6) d_Mo_check_177 (by decide) ?_
                                  exact j_iret X hr hk (by rw [hF]) rfl d_Mo_check_179
                            · replace hp := hp.1 h167
                              replace hF := hF.trans (if_pos h167)
                              refine j_iload_n X d_Mo_check_162 0 rfl ?_
                              refine j_if_eq X (tgt := 177) d_Mo_check_163 (by decide) (fun h168 => ?_) (fun h168 => ?_)
                              · replace hp := hp.1 h168
                                replace hF := hF.trans (if_pos h168)
                                refine j_bipush X (v := 6) d_Mo_check_177 (by decide) ?_
                                exact j_iret X hr hk (by rw [hF]) rfl d_Mo_check_179
                              · replace hp := hp.2 h168
                                replace hF := hF.trans (if_neg h168)
                                refine j_iload_n X d_Mo_check_166 2 rfl ?_
                                refine j_bipush X (v := 19) d_Mo_check_167 (by decide) ?_
                                refine j_icmp_ne X (tgt := 180) d_Mo_check_169 (by decide) (fun h169 => ?_) (fun h169 => ?_)
                                · replace hp := hp.2 h169
                                  replace hF := hF.trans (if_neg h169)
                                  refine j_iload_n X d_Mo_check_180 2 rfl ?_
                                  refine j_bipush X (v := 18) d_Mo_check_181 (by decide) ?_
                                  refine j_icmp_ne X (tgt := 200) d_Mo_check_183 (by decide) (fun h179 => ?_) (fun h179 => ?_)
                                  · replace hp := hp.2 h179
                                    replace hF := hF.trans (if_neg h179)
                                    refine j_aload_n X d_Mo_check_200 3 rfl ?_
                                    refine j_get X fd_Mo_75_Mo 124 (by omega) y_Mo rfl d_Mo_check_201 ?_
                                    refine j_iload_n X d_Mo_check_204 2 rfl ?_
                                    refine j_callP (st := [.int (gI S 124 17)]) X hY_Mo_grows (c_Mo_grows l ((gR S 125 (gI S 124 13).toNatClampNeg) &&& 31) ) mw_671 hT_Mo_grows rfl rfl (Nat.le_of_ble_eq_true rfl) d_Mo_check_205 rfl rfl ⟨by decide, by decide⟩ ⟨Nat.zero_le _, Nat.zero_le _⟩ (j_st (st' := [.int (f_Mo_grows ((gR S 125 (gI S 124 13).toNatClampNeg) &&& 31)), .int (gI S 124 17)]) rfl ?_)
                                    refine j_topi (fun r184 e185 => ?_)
                                    replace hp := hp r184 e185
                                    replace hF := hF.trans (px_let_eq e185)
                                    refine j_iadd X d_Mo_check_208 ?_
                                    refine j_bipush X (v := 24) d_Mo_check_209 (by decide) ?_
                                    refine j_icmp_le X (tgt := 218) d_Mo_check_211 (by decide) (fun h186 => ?_) (fun h186 => ?_)
                                    · replace hp := hp.1 h186
                                      replace hF := hF.trans (if_pos h186)
                                      refine j_iconst X (v := 0) d_Mo_check_218 (by decide) ?_
                                      exact j_iret X hr hk (by rw [hF]) rfl d_Mo_check_219
                                    · replace hp := hp.2 h186
                                      replace hF := hF.trans (if_neg h186)
                                      refine j_iconst X (v := 3) d_Mo_check_214 (by decide) ?_
                                      refine j_goto X (tgt := 219) d_Mo_check_215 (by decide) ?_
                                      exact j_iret X hr hk (by rw [hF]) rfl d_Mo_check_219
                                  · replace hp := hp.1 h179
                                    replace hF := hF.trans (if_pos h179)
                                    refine j_aload_n X d_Mo_check_186 3 rfl ?_
                                    refine j_get X fd_Mo_72_Mo 124 (by omega) y_Mo rfl d_Mo_check_187 ?_
                                    refine j_aload_n X d_Mo_check_190 3 rfl ?_
                                    refine j_get X fd_Mo_60_Mo 124 (by omega) y_Mo rfl d_Mo_check_191 ?_
                                    refine j_icmp_ne X (tgt := 200) d_Mo_check_194 (by decide) (fun h180 => ?_) (fun h180 => ?_)
                                    · replace hp := hp.2 h180
                                      replace hF := hF.trans (if_neg h180)
                                      refine j_aload_n X d_Mo_check_200 3 rfl ?_
                                      refine j_get X fd_Mo_75_Mo 124 (by omega) y_Mo rfl d_Mo_check_201 ?_
                                      refine j_iload_n X d_Mo_check_204 2 rfl ?_
                                      refine j_callP (st := [.int (gI S 124 17)]) X hY_Mo_grows (c_Mo_grows l ((gR S 125 (gI S 124 13).toNatClampNeg) &&& 31) ) mw_671 hT_Mo_grows rfl rfl (Nat.le_of_ble_eq_true rfl) d_Mo_check_205 rfl rfl ⟨by decide, by decide⟩ ⟨Nat.zero_le _, Nat.zero_le _⟩ (j_st (st' := [.int (f_Mo_grows ((gR S 125 (gI S 124 13).toNatClampNeg) &&& 31)), .int (gI S 124 17)]) rfl ?_)
                                      refine j_topi (fun r181 e182 => ?_)
                                      replace hp := hp r181 e182
                                      replace hF := hF.trans (px_let_eq e182)
                                      refine j_iadd X d_Mo_check_208 ?_
                                      refine j_bipush X (v := 24) d_Mo_check_209 (by decide) ?_
                                      refine j_icmp_le X (tgt := 218) d_Mo_check_211 (by decide) (fun h183 => ?_) (fun h183 => ?_)
                                      · replace hp := hp.1 h183
                                        replace hF := hF.trans (if_pos h183)
                                        refine j_iconst X (v := 0) d_Mo_check_218 (by decide) ?_
                                        exact j_iret X hr hk (by rw [hF]) rfl d_Mo_check_219
                                      · replace hp := hp.2 h183
                                        replace hF := hF.trans (if_neg h183)
                                        refine j_iconst X (v := 3) d_Mo_check_214 (by decide) ?_
                                        refine j_goto X (tgt := 219) d_Mo_check_215 (by decide) ?_
                                        exact j_iret X hr hk (by rw [hF]) rfl d_Mo_check_219
                                    · replace hp := hp.1 h180
                                      replace hF := hF.trans (if_pos h180)
                                      refine j_bipush X (v := 7) d_Mo_check_197 (by decide) ?_
                                      exact j_iret X hr hk (by rw [hF]) rfl d_Mo_check_199
                                · replace hp := hp.1 h169
                                  replace hF := hF.trans (if_pos h169)
                                  refine j_iload_n X d_Mo_check_172 1 rfl ?_
                                  refine j_iconst X (v := 1) d_Mo_check_173 (by decide) ?_
                                  refine j_icmp_ge X (tgt := 180) d_Mo_check_174 (by decide) (fun h170 => ?_) (fun h170 => ?_)
                                  · replace hp := hp.1 h170
                                    replace hF := hF.trans (if_pos h170)
                                    refine j_iload_n X d_Mo_check_180 2 rfl ?_
                                    refine j_bipush X (v := 18) d_Mo_check_181 (by decide) ?_
                                    refine j_icmp_ne X (tgt := 200) d_Mo_check_183 (by decide) (fun h171 => ?_) (fun h171 => ?_)
                                    · replace hp := hp.2 h171
                                      replace hF := hF.trans (if_neg h171)
                                      refine j_aload_n X d_Mo_check_200 3 rfl ?_
                                      refine j_get X fd_Mo_75_Mo 124 (by omega) y_Mo rfl d_Mo_check_201 ?_
                                      refine j_iload_n X d_Mo_check_204 2 rfl ?_
                                      refine j_callP (st := [.int (gI S 124 17)]) X hY_Mo_grows (c_Mo_grows l ((gR S 125 (gI S 124 13).toNatClampNeg) &&& 31) ) mw_671 hT_Mo_grows rfl rfl (Nat.le_of_ble_eq_true rfl) d_Mo_check_205 rfl rfl ⟨by decide, by decide⟩ ⟨Nat.zero_le _, Nat.zero_le _⟩ (j_st (st' := [.int (f_Mo_grows ((gR S 125 (gI S 124 13).toNatClampNeg) &&& 31)), .int (gI S 124 17)]) rfl ?_)
                                      refine j_topi (fun r176 e177 => ?_)
                                      replace hp := hp r176 e177
                                      replace hF := hF.trans (px_let_eq e177)
                                      refine j_iadd X d_Mo_check_208 ?_
                                      refine j_bipush X (v := 24) d_Mo_check_209 (by decide) ?_
                                      refine j_icmp_le X (tgt := 218) d_Mo_check_211 (by decide) (fun h178 => ?_) (fun h178 => ?_)
                                      · replace hp := hp.1 h178
                                        replace hF := hF.trans (if_pos h178)
                                        refine j_iconst X (v := 0) d_Mo_check_218 (by decide) ?_
                                        exact j_iret X hr hk (by rw [hF]) rfl d_Mo_check_219
                                      · replace hp := hp.2 h178
                                        replace hF := hF.trans (if_neg h178)
                                        refine j_iconst X (v := 3) d_Mo_check_214 (by decide) ?_
                                        refine j_goto X (tgt := 219) d_Mo_check_215 (by decide) ?_
                                        exact j_iret X hr hk (by rw [hF]) rfl d_Mo_check_219
                                    · replace hp := hp.1 h171
                                      replace hF := hF.trans (if_pos h171)
                                      refine j_aload_n X d_Mo_check_186 3 rfl ?_
                                      refine j_get X fd_Mo_72_Mo 124 (by omega) y_Mo rfl d_Mo_check_187 ?_
                                      refine j_aload_n X d_Mo_check_190 3 rfl ?_
                                      refine j_get X fd_Mo_60_Mo 124 (by omega) y_Mo rfl d_Mo_check_191 ?_
                                      refine j_icmp_ne X (tgt := 200) d_Mo_check_194 (by decide) (fun h172 => ?_) (fun h172 => ?_)
                                      · replace hp := hp.2 h172
                                        replace hF := hF.trans (if_neg h172)
                                        refine j_aload_n X d_Mo_check_200 3 rfl ?_
                                        refine j_get X fd_Mo_75_Mo 124 (by omega) y_Mo rfl d_Mo_check_201 ?_
                                        refine j_iload_n X d_Mo_check_204 2 rfl ?_
                                        refine j_callP (st := [.int (gI S 124 17)]) X hY_Mo_grows (c_Mo_grows l ((gR S 125 (gI S 124 13).toNatClampNeg) &&& 31) ) mw_671 hT_Mo_grows rfl rfl (Nat.le_of_ble_eq_true rfl) d_Mo_check_205 rfl rfl ⟨by decide, by decide⟩ ⟨Nat.zero_le _, Nat.zero_le _⟩ (j_st (st' := [.int (f_Mo_grows ((gR S 125 (gI S 124 13).toNatClampNeg) &&& 31)), .int (gI S 124 17)]) rfl ?_)
                                        refine j_topi (fun r173 e174 => ?_)
                                        replace hp := hp r173 e174
                                        replace hF := hF.trans (px_let_eq e174)
                                        refine j_iadd X d_Mo_check_208 ?_
                                        refine j_bipush X (v := 24) d_Mo_check_209 (by decide) ?_
                                        refine j_icmp_le X (tgt := 218) d_Mo_check_211 (by decide) (fun h175 => ?_) (fun h175 => ?_)
                                        · replace hp := hp.1 h175
                                          replace hF := hF.trans (if_pos h175)
                                          refine j_iconst X (v := 0) d_Mo_check_218 (by decide) ?_
                                          exact j_iret X hr hk (by rw [hF]) rfl d_Mo_check_219
                                        · replace hp := hp.2 h175
                                          replace hF := hF.trans (if_neg h175)
                                          refine j_iconst X (v := 3) d_Mo_check_214 (by decide) ?_
                                          refine j_goto X (tgt := 219) d_Mo_check_215 (by decide) ?_
                                          exact j_iret X hr hk (by rw [hF]) rfl d_Mo_check_219
                                      · replace hp := hp.1 h172
                                        replace hF := hF.trans (if_pos h172)
                                        refine j_bipush X (v := 7) d_Mo_check_197 (by decide) ?_
                                        exact j_iret X hr hk (by rw [hF]) rfl d_Mo_check_199
                                  · replace hp := hp.2 h170
                                    replace hF := hF.trans (if_neg h170)
                                    refine j_bipush X (v := 6) d_Mo_check_177 (by decide) ?_
                                    exact j_iret X hr hk (by rw [hF]) rfl d_Mo_check_179
                          · replace hp := hp.1 h126
                            replace hF := hF.trans (if_pos h126)
                            refine j_iload_n X d_Mo_check_144 0 rfl ?_
                            refine j_if_lt X (tgt := 154) d_Mo_check_145 (by decide) (fun h127 => ?_) (fun h127 => ?_)
                            · replace hp := hp.1 h127
                              replace hF := hF.trans (if_pos h127)
                              refine j_iconst X (v := 4) d_Mo_check_154 (by decide) ?_
                              exact j_iret X hr hk (by rw [hF]) rfl d_Mo_check_155
                            · replace hp := hp.2 h127
                              replace hF := hF.trans (if_neg h127)
                              refine j_iload_n X d_Mo_check_148 0 rfl ?_
                              refine j_bipush X (v := 32) d_Mo_check_149 (by decide) ?_
                              refine j_icmp_lt X (tgt := 156) d_Mo_check_151 (by decide) (fun h128 => ?_) (fun h128 => ?_)
                              · replace hp := hp.1 h128
                                replace hF := hF.trans (if_pos h128)
                                refine j_iload_n X d_Mo_check_156 2 rfl ?_
                                refine j_bipush X (v := 8) d_Mo_check_157 (by decide) ?_
                                refine j_icmp_ne X (tgt := 166) d_Mo_check_159 (by decide) (fun h129 => ?_) (fun h129 => ?_)
                                · replace hp := hp.2 h129
                                  replace hF := hF.trans (if_neg h129)
                                  refine j_iload_n X d_Mo_check_166 2 rfl ?_
                                  refine j_bipush X (v := 19) d_Mo_check_167 (by decide) ?_
                                  refine j_icmp_ne X (tgt := 180) d_Mo_check_169 (by decide) (fun h149 => ?_) (fun h149 => ?_)
                                  · replace hp := hp.2 h149
                                    replace hF := hF.trans (if_neg h149)
                                    refine j_iload_n X d_Mo_check_180 2 rfl ?_
                                    refine j_bipush X (v := 18) d_Mo_check_181 (by decide) ?_
                                    refine j_icmp_ne X (tgt := 200) d_Mo_check_183 (by decide) (fun h159 => ?_) (fun h159 => ?_)
                                    · replace hp := hp.2 h159
                                      replace hF := hF.trans (if_neg h159)
                                      refine j_aload_n X d_Mo_check_200 3 rfl ?_
                                      refine j_get X fd_Mo_75_Mo 124 (by omega) y_Mo rfl d_Mo_check_201 ?_
                                      refine j_iload_n X d_Mo_check_204 2 rfl ?_
                                      refine j_callP (st := [.int (gI S 124 17)]) X hY_Mo_grows (c_Mo_grows l ((gR S 125 (gI S 124 13).toNatClampNeg) &&& 31) ) mw_671 hT_Mo_grows rfl rfl (Nat.le_of_ble_eq_true rfl) d_Mo_check_205 rfl rfl ⟨by decide, by decide⟩ ⟨Nat.zero_le _, Nat.zero_le _⟩ (j_st (st' := [.int (f_Mo_grows ((gR S 125 (gI S 124 13).toNatClampNeg) &&& 31)), .int (gI S 124 17)]) rfl ?_)
                                      refine j_topi (fun r164 e165 => ?_)
                                      replace hp := hp r164 e165
                                      replace hF := hF.trans (px_let_eq e165)
                                      refine j_iadd X d_Mo_check_208 ?_
                                      refine j_bipush X (v := 24) d_Mo_check_209 (by decide) ?_
                                      refine j_icmp_le X (tgt := 218) d_Mo_check_211 (by decide) (fun h166 => ?_) (fun h166 => ?_)
                                      · replace hp := hp.1 h166
                                        replace hF := hF.trans (if_pos h166)
                                        refine j_iconst X (v := 0) d_Mo_check_218 (by decide) ?_
                                        exact j_iret X hr hk (by rw [hF]) rfl d_Mo_check_219
                                      · replace hp := hp.2 h166
                                        replace hF := hF.trans (if_neg h166)
                                        refine j_iconst X (v := 3) d_Mo_check_214 (by decide) ?_
                                        refine j_goto X (tgt := 219) d_Mo_check_215 (by decide) ?_
                                        exact j_iret X hr hk (by rw [hF]) rfl d_Mo_check_219
                                    · replace hp := hp.1 h159
                                      replace hF := hF.trans (if_pos h159)
                                      refine j_aload_n X d_Mo_check_186 3 rfl ?_
                                      refine j_get X fd_Mo_72_Mo 124 (by omega) y_Mo rfl d_Mo_check_187 ?_
                                      refine j_aload_n X d_Mo_check_190 3 rfl ?_
                                      refine j_get X fd_Mo_60_Mo 124 (by omega) y_Mo rfl d_Mo_check_191 ?_
                                      refine j_icmp_ne X (tgt := 200) d_Mo_check_194 (by decide) (fun h160 => ?_) (fun h160 => ?_)
                                      · replace hp := hp.2 h160
                                        replace hF := hF.trans (if_neg h160)
                                        refine j_aload_n X d_Mo_check_200 3 rfl ?_
                                        refine j_get X fd_Mo_75_Mo 124 (by omega) y_Mo rfl d_Mo_check_201 ?_
                                        refine j_iload_n X d_Mo_check_204 2 rfl ?_
                                        refine j_callP (st := [.int (gI S 124 17)]) X hY_Mo_grows (c_Mo_grows l ((gR S 125 (gI S 124 13).toNatClampNeg) &&& 31) ) mw_671 hT_Mo_grows rfl rfl (Nat.le_of_ble_eq_true rfl) d_Mo_check_205 rfl rfl ⟨by decide, by decide⟩ ⟨Nat.zero_le _, Nat.zero_le _⟩ (j_st (st' := [.int (f_Mo_grows ((gR S 125 (gI S 124 13).toNatClampNeg) &&& 31)), .int (gI S 124 17)]) rfl ?_)
                                        refine j_topi (fun r161 e162 => ?_)
                                        replace hp := hp r161 e162
                                        replace hF := hF.trans (px_let_eq e162)
                                        refine j_iadd X d_Mo_check_208 ?_
                                        refine j_bipush X (v := 24) d_Mo_check_209 (by decide) ?_
                                        refine j_icmp_le X (tgt := 218) d_Mo_check_211 (by decide) (fun h163 => ?_) (fun h163 => ?_)
                                        · replace hp := hp.1 h163
                                          replace hF := hF.trans (if_pos h163)
                                          refine j_iconst X (v := 0) d_Mo_check_218 (by decide) ?_
                                          exact j_iret X hr hk (by rw [hF]) rfl d_Mo_check_219
                                        · replace hp := hp.2 h163
                                          replace hF := hF.trans (if_neg h163)
                                          refine j_iconst X (v := 3) d_Mo_check_214 (by decide) ?_
                                          refine j_goto X (tgt := 219) d_Mo_check_215 (by decide) ?_
                                          exact j_iret X hr hk (by rw [hF]) rfl d_Mo_check_219
                                      · replace hp := hp.1 h160
                                        replace hF := hF.trans (if_pos h160)
                                        refine j_bipush X (v := 7) d_Mo_check_197 (by decide) ?_
                                        exact j_iret X hr hk (by rw [hF]) rfl d_Mo_check_199
                                  · replace hp := hp.1 h149
                                    replace hF := hF.trans (if_pos h149)
                                    refine j_iload_n X d_Mo_check_172 1 rfl ?_
                                    refine j_iconst X (v := 1) d_Mo_check_173 (by decide) ?_
                                    refine j_icmp_ge X (tgt := 180) d_Mo_check_174 (by decide) (fun h150 => ?_) (fun h150 => ?_)
                                    · replace hp := hp.1 h150
                                      replace hF := hF.trans (if_pos h150)
                                      refine j_iload_n X d_Mo_check_180 2 rfl ?_
                                      refine j_bipush X (v := 18) d_Mo_check_181 (by decide) ?_
                                      refine j_icmp_ne X (tgt := 200) d_Mo_check_183 (by decide) (fun h151 => ?_) (fun h151 => ?_)
                                      · replace hp := hp.2 h151
                                        replace hF := hF.trans (if_neg h151)
                                        refine j_aload_n X d_Mo_check_200 3 rfl ?_
                                        refine j_get X fd_Mo_75_Mo 124 (by omega) y_Mo rfl d_Mo_check_201 ?_
                                        refine j_iload_n X d_Mo_check_204 2 rfl ?_
                                        refine j_callP (st := [.int (gI S 124 17)]) X hY_Mo_grows (c_Mo_grows l ((gR S 125 (gI S 124 13).toNatClampNeg) &&& 31) ) mw_671 hT_Mo_grows rfl rfl (Nat.le_of_ble_eq_true rfl) d_Mo_check_205 rfl rfl ⟨by decide, by decide⟩ ⟨Nat.zero_le _, Nat.zero_le _⟩ (j_st (st' := [.int (f_Mo_grows ((gR S 125 (gI S 124 13).toNatClampNeg) &&& 31)), .int (gI S 124 17)]) rfl ?_)
                                        refine j_topi (fun r156 e157 => ?_)
                                        replace hp := hp r156 e157
                                        replace hF := hF.trans (px_let_eq e157)
                                        refine j_iadd X d_Mo_check_208 ?_
                                        refine j_bipush X (v := 24) d_Mo_check_209 (by decide) ?_
                                        refine j_icmp_le X (tgt := 218) d_Mo_check_211 (by decide) (fun h158 => ?_) (fun h158 => ?_)
                                        · replace hp := hp.1 h158
                                          replace hF := hF.trans (if_pos h158)
                                          refine j_iconst X (v := 0) d_Mo_check_218 (by decide) ?_
                                          exact j_iret X hr hk (by rw [hF]) rfl d_Mo_check_219
                                        · replace hp := hp.2 h158
                                          replace hF := hF.trans (if_neg h158)
                                          refine j_iconst X (v := 3) d_Mo_check_214 (by decide) ?_
                                          refine j_goto X (tgt := 219) d_Mo_check_215 (by decide) ?_
                                          exact j_iret X hr hk (by rw [hF]) rfl d_Mo_check_219
                                      · replace hp := hp.1 h151
                                        replace hF := hF.trans (if_pos h151)
                                        refine j_aload_n X d_Mo_check_186 3 rfl ?_
                                        refine j_get X fd_Mo_72_Mo 124 (by omega) y_Mo rfl d_Mo_check_187 ?_
                                        refine j_aload_n X d_Mo_check_190 3 rfl ?_
                                        refine j_get X fd_Mo_60_Mo 124 (by omega) y_Mo rfl d_Mo_check_191 ?_
                                        refine j_icmp_ne X (tgt := 200) d_Mo_check_194 (by decide) (fun h152 => ?_) (fun h152 => ?_)
                                        · replace hp := hp.2 h152
                                          replace hF := hF.trans (if_neg h152)
                                          refine j_aload_n X d_Mo_check_200 3 rfl ?_
                                          refine j_get X fd_Mo_75_Mo 124 (by omega) y_Mo rfl d_Mo_check_201 ?_
                                          refine j_iload_n X d_Mo_check_204 2 rfl ?_
                                          refine j_callP (st := [.int (gI S 124 17)]) X hY_Mo_grows (c_Mo_grows l ((gR S 125 (gI S 124 13).toNatClampNeg) &&& 31) ) mw_671 hT_Mo_grows rfl rfl (Nat.le_of_ble_eq_true rfl) d_Mo_check_205 rfl rfl ⟨by decide, by decide⟩ ⟨Nat.zero_le _, Nat.zero_le _⟩ (j_st (st' := [.int (f_Mo_grows ((gR S 125 (gI S 124 13).toNatClampNeg) &&& 31)), .int (gI S 124 17)]) rfl ?_)
                                          refine j_topi (fun r153 e154 => ?_)
                                          replace hp := hp r153 e154
                                          replace hF := hF.trans (px_let_eq e154)
                                          refine j_iadd X d_Mo_check_208 ?_
                                          refine j_bipush X (v := 24) d_Mo_check_209 (by decide) ?_
                                          refine j_icmp_le X (tgt := 218) d_Mo_check_211 (by decide) (fun h155 => ?_) (fun h155 => ?_)
                                          · replace hp := hp.1 h155
                                            replace hF := hF.trans (if_pos h155)
                                            refine j_iconst X (v := 0) d_Mo_check_218 (by decide) ?_
                                            exact j_iret X hr hk (by rw [hF]) rfl d_Mo_check_219
                                          · replace hp := hp.2 h155
                                            replace hF := hF.trans (if_neg h155)
                                            refine j_iconst X (v := 3) d_Mo_check_214 (by decide) ?_
                                            refine j_goto X (tgt := 219) d_Mo_check_215 (by decide) ?_
                                            exact j_iret X hr hk (by rw [hF]) rfl d_Mo_check_219
                                        · replace hp := hp.1 h152
                                          replace hF := hF.trans (if_pos h152)
                                          refine j_bipush X (v := 7) d_Mo_check_197 (by decide) ?_
                                          exact j_iret X hr hk (by rw [hF]) rfl d_Mo_check_199
                                    · replace hp := hp.2 h150
                                      replace hF := hF.trans (if_neg h150)
                                      refine j_bipush X (v := 6) d_Mo_check_177 (by decide) ?_
                                      exact j_iret X hr hk (by rw [hF]) rfl d_Mo_check_179
                                · replace hp := hp.1 h129
                                  replace hF := hF.trans (if_pos h129)
                                  refine j_iload_n X d_Mo_check_162 0 rfl ?_
                                  refine j_if_eq X (tgt := 177) d_Mo_check_163 (by decide) (fun h130 => ?_) (fun h130 => ?_)
                                  · replace hp := hp.1 h130
                                    replace hF := hF.trans (if_pos h130)
                                    refine j_bipush X (v := 6) d_Mo_check_177 (by decide) ?_
                                    exact j_iret X hr hk (by rw [hF]) rfl d_Mo_check_179
                                  · replace hp := hp.2 h130
                                    replace hF := hF.trans (if_neg h130)
                                    refine j_iload_n X d_Mo_check_166 2 rfl ?_
                                    refine j_bipush X (v := 19) d_Mo_check_167 (by decide) ?_
                                    refine j_icmp_ne X (tgt := 180) d_Mo_check_169 (by decide) (fun h131 => ?_) (fun h131 => ?_)
                                    · replace hp := hp.2 h131
                                      replace hF := hF.trans (if_neg h131)
                                      refine j_iload_n X d_Mo_check_180 2 rfl ?_
                                      refine j_bipush X (v := 18) d_Mo_check_181 (by decide) ?_
                                      refine j_icmp_ne X (tgt := 200) d_Mo_check_183 (by decide) (fun h141 => ?_) (fun h141 => ?_)
                                      · replace hp := hp.2 h141
                                        replace hF := hF.trans (if_neg h141)
                                        refine j_aload_n X d_Mo_check_200 3 rfl ?_
                                        refine j_get X fd_Mo_75_Mo 124 (by omega) y_Mo rfl d_Mo_check_201 ?_
                                        refine j_iload_n X d_Mo_check_204 2 rfl ?_
                                        refine j_callP (st := [.int (gI S 124 17)]) X hY_Mo_grows (c_Mo_grows l ((gR S 125 (gI S 124 13).toNatClampNeg) &&& 31) ) mw_671 hT_Mo_grows rfl rfl (Nat.le_of_ble_eq_true rfl) d_Mo_check_205 rfl rfl ⟨by decide, by decide⟩ ⟨Nat.zero_le _, Nat.zero_le _⟩ (j_st (st' := [.int (f_Mo_grows ((gR S 125 (gI S 124 13).toNatClampNeg) &&& 31)), .int (gI S 124 17)]) rfl ?_)
                                        refine j_topi (fun r146 e147 => ?_)
                                        replace hp := hp r146 e147
                                        replace hF := hF.trans (px_let_eq e147)
                                        refine j_iadd X d_Mo_check_208 ?_
                                        refine j_bipush X (v := 24) d_Mo_check_209 (by decide) ?_
                                        refine j_icmp_le X (tgt := 218) d_Mo_check_211 (by decide) (fun h148 => ?_) (fun h148 => ?_)
                                        · replace hp := hp.1 h148
                                          replace hF := hF.trans (if_pos h148)
                                          refine j_iconst X (v := 0) d_Mo_check_218 (by decide) ?_
                                          exact j_iret X hr hk (by rw [hF]) rfl d_Mo_check_219
                                        · replace hp := hp.2 h148
                                          replace hF := hF.trans (if_neg h148)
                                          refine j_iconst X (v := 3) d_Mo_check_214 (by decide) ?_
                                          refine j_goto X (tgt := 219) d_Mo_check_215 (by decide) ?_
                                          exact j_iret X hr hk (by rw [hF]) rfl d_Mo_check_219
                                      · replace hp := hp.1 h141
                                        replace hF := hF.trans (if_pos h141)
                                        refine j_aload_n X d_Mo_check_186 3 rfl ?_
                                        refine j_get X fd_Mo_72_Mo 124 (by omega) y_Mo rfl d_Mo_check_187 ?_
                                        refine j_aload_n X d_Mo_check_190 3 rfl ?_
                                        refine j_get X fd_Mo_60_Mo 124 (by omega) y_Mo rfl d_Mo_check_191 ?_
                                        refine j_icmp_ne X (tgt := 200) d_Mo_check_194 (by decide) (fun h142 => ?_) (fun h142 => ?_)
                                        · replace hp := hp.2 h142
                                          replace hF := hF.trans (if_neg h142)
                                          refine j_aload_n X d_Mo_check_200 3 rfl ?_
                                          refine j_get X fd_Mo_75_Mo 124 (by omega) y_Mo rfl d_Mo_check_201 ?_
                                          refine j_iload_n X d_Mo_check_204 2 rfl ?_
                                          refine j_callP (st := [.int (gI S 124 17)]) X hY_Mo_grows (c_Mo_grows l ((gR S 125 (gI S 124 13).toNatClampNeg) &&& 31) ) mw_671 hT_Mo_grows rfl rfl (Nat.le_of_ble_eq_true rfl) d_Mo_check_205 rfl rfl ⟨by decide, by decide⟩ ⟨Nat.zero_le _, Nat.zero_le _⟩ (j_st (st' := [.int (f_Mo_grows ((gR S 125 (gI S 124 13).toNatClampNeg) &&& 31)), .int (gI S 124 17)]) rfl ?_)
                                          refine j_topi (fun r143 e144 => ?_)
                                          replace hp := hp r143 e144
                                          replace hF := hF.trans (px_let_eq e144)
                                          refine j_iadd X d_Mo_check_208 ?_
                                          refine j_bipush X (v := 24) d_Mo_check_209 (by decide) ?_
                                          refine j_icmp_le X (tgt := 218) d_Mo_check_211 (by decide) (fun h145 => ?_) (fun h145 => ?_)
                                          · replace hp := hp.1 h145
                                            replace hF := hF.trans (if_pos h145)
                                            refine j_iconst X (v := 0) d_Mo_check_218 (by decide) ?_
                                            exact j_iret X hr hk (by rw [hF]) rfl d_Mo_check_219
                                          · replace hp := hp.2 h145
                                            replace hF := hF.trans (if_neg h145)
                                            refine j_iconst X (v := 3) d_Mo_check_214 (by decide) ?_
                                            refine j_goto X (tgt := 219) d_Mo_check_215 (by decide) ?_
                                            exact j_iret X hr hk (by rw [hF]) rfl d_Mo_check_219
                                        · replace hp := hp.1 h142
                                          replace hF := hF.trans (if_pos h142)
                                          refine j_bipush X (v := 7) d_Mo_check_197 (by decide) ?_
                                          exact j_iret X hr hk (by rw [hF]) rfl d_Mo_check_199
                                    · replace hp := hp.1 h131
                                      replace hF := hF.trans (if_pos h131)
                                      refine j_iload_n X d_Mo_check_172 1 rfl ?_
                                      refine j_iconst X (v := 1) d_Mo_check_173 (by decide) ?_
                                      refine j_icmp_ge X (tgt := 180) d_Mo_check_174 (by decide) (fun h132 => ?_) (fun h132 => ?_)
                                      · replace hp := hp.1 h132
                                        replace hF := hF.trans (if_pos h132)
                                        refine j_iload_n X d_Mo_check_180 2 rfl ?_
                                        refine j_bipush X (v := 18) d_Mo_check_181 (by decide) ?_
                                        refine j_icmp_ne X (tgt := 200) d_Mo_check_183 (by decide) (fun h133 => ?_) (fun h133 => ?_)
                                        · replace hp := hp.2 h133
                                          replace hF := hF.trans (if_neg h133)
                                          refine j_aload_n X d_Mo_check_200 3 rfl ?_
                                          refine j_get X fd_Mo_75_Mo 124 (by omega) y_Mo rfl d_Mo_check_201 ?_
                                          refine j_iload_n X d_Mo_check_204 2 rfl ?_
                                          refine j_callP (st := [.int (gI S 124 17)]) X hY_Mo_grows (c_Mo_grows l ((gR S 125 (gI S 124 13).toNatClampNeg) &&& 31) ) mw_671 hT_Mo_grows rfl rfl (Nat.le_of_ble_eq_true rfl) d_Mo_check_205 rfl rfl ⟨by decide, by decide⟩ ⟨Nat.zero_le _, Nat.zero_le _⟩ (j_st (st' := [.int (f_Mo_grows ((gR S 125 (gI S 124 13).toNatClampNeg) &&& 31)), .int (gI S 124 17)]) rfl ?_)
                                          refine j_topi (fun r138 e139 => ?_)
                                          replace hp := hp r138 e139
                                          replace hF := hF.trans (px_let_eq e139)
                                          refine j_iadd X d_Mo_check_208 ?_
                                          refine j_bipush X (v := 24) d_Mo_check_209 (by decide) ?_
                                          refine j_icmp_le X (tgt := 218) d_Mo_check_211 (by decide) (fun h140 => ?_) (fun h140 => ?_)
                                          · replace hp := hp.1 h140
                                            replace hF := hF.trans (if_pos h140)
                                            refine j_iconst X (v := 0) d_Mo_check_218 (by decide) ?_
                                            exact j_iret X hr hk (by rw [hF]) rfl d_Mo_check_219
                                          · replace hp := hp.2 h140
                                            replace hF := hF.trans (if_neg h140)
                                            refine j_iconst X (v := 3) d_Mo_check_214 (by decide) ?_
                                            refine j_goto X (tgt := 219) d_Mo_check_215 (by decide) ?_
                                            exact j_iret X hr hk (by rw [hF]) rfl d_Mo_check_219
                                        · replace hp := hp.1 h133
                                          replace hF := hF.trans (if_pos h133)
                                          refine j_aload_n X d_Mo_check_186 3 rfl ?_
                                          refine j_get X fd_Mo_72_Mo 124 (by omega) y_Mo rfl d_Mo_check_187 ?_
                                          refine j_aload_n X d_Mo_check_190 3 rfl ?_
                                          refine j_get X fd_Mo_60_Mo 124 (by omega) y_Mo rfl d_Mo_check_191 ?_
                                          refine j_icmp_ne X (tgt := 200) d_Mo_check_194 (by decide) (fun h134 => ?_) (fun h134 => ?_)
                                          · replace hp := hp.2 h134
                                            replace hF := hF.trans (if_neg h134)
                                            refine j_aload_n X d_Mo_check_200 3 rfl ?_
                                            refine j_get X fd_Mo_75_Mo 124 (by omega) y_Mo rfl d_Mo_check_201 ?_
                                            refine j_iload_n X d_Mo_check_204 2 rfl ?_
                                            refine j_callP (st := [.int (gI S 124 17)]) X hY_Mo_grows (c_Mo_grows l ((gR S 125 (gI S 124 13).toNatClampNeg) &&& 31) ) mw_671 hT_Mo_grows rfl rfl (Nat.le_of_ble_eq_true rfl) d_Mo_check_205 rfl rfl ⟨by decide, by decide⟩ ⟨Nat.zero_le _, Nat.zero_le _⟩ (j_st (st' := [.int (f_Mo_grows ((gR S 125 (gI S 124 13).toNatClampNeg) &&& 31)), .int (gI S 124 17)]) rfl ?_)
                                            refine j_topi (fun r135 e136 => ?_)
                                            replace hp := hp r135 e136
                                            replace hF := hF.trans (px_let_eq e136)
                                            refine j_iadd X d_Mo_check_208 ?_
                                            refine j_bipush X (v := 24) d_Mo_check_209 (by decide) ?_
                                            refine j_icmp_le X (tgt := 218) d_Mo_check_211 (by decide) (fun h137 => ?_) (fun h137 => ?_)
                                            · replace hp := hp.1 h137
                                              replace hF := hF.trans (if_pos h137)
                                              refine j_iconst X (v := 0) d_Mo_check_218 (by decide) ?_
                                              exact j_iret X hr hk (by rw [hF]) rfl d_Mo_check_219
                                            · replace hp := hp.2 h137
                                              replace hF := hF.trans (if_neg h137)
                                              refine j_iconst X (v := 3) d_Mo_check_214 (by decide) ?_
                                              refine j_goto X (tgt := 219) d_Mo_check_215 (by decide) ?_
                                              exact j_iret X hr hk (by rw [hF]) rfl d_Mo_check_219
                                          · replace hp := hp.1 h134
                                            replace hF := hF.trans (if_pos h134)
                                            refine j_bipush X (v := 7) d_Mo_check_197 (by decide) ?_
                                            exact j_iret X hr hk (by rw [hF]) rfl d_Mo_check_199
                                      · replace hp := hp.2 h132
                                        replace hF := hF.trans (if_neg h132)
                                        refine j_bipush X (v := 6) d_Mo_check_177 (by decide) ?_
                                        exact j_iret X hr hk (by rw [hF]) rfl d_Mo_check_179
                              · replace hp := hp.2 h128
                                replace hF := hF.trans (if_neg h128)
                                refine j_iconst X (v := 4) d_Mo_check_154 (by decide) ?_
                                exact j_iret X hr hk (by rw [hF]) rfl d_Mo_check_155
                    · replace hp := hp.1 h16
                      replace hF := hF.trans (if_pos h16)
                      refine j_iconst X (v := 2) d_Mo_check_107 (by decide) ?_
                      exact j_iret X hr hk (by rw [hF]) rfl d_Mo_check_108
        · replace hp := hp.1 h6
          replace hF := hF.trans (if_pos h6)
          refine j_iconst X (v := 1) d_Mo_check_55 (by decide) ?_
          exact j_iret X hr hk (by rw [hF]) rfl d_Mo_check_56
      · replace hp := hp.2 h5
        replace hF := hF.trans (if_neg h5)
        refine j_iconst X (v := 5) d_Mo_check_49 (by decide) ?_
        exact j_iret X hr hk (by rw [hF]) rfl d_Mo_check_50
    · replace hp := hp.2 h2
      replace hF := hF.trans (if_neg h2)
      refine j_iconst X (v := 4) d_Mo_check_16 (by decide) ?_
      exact j_iret X hr hk (by rw [hF]) rfl d_Mo_check_17
