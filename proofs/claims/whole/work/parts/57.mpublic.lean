def f_Mo_advance (S : xS)  : Int32 × xS := px_let (f_Mo_check S) (fun r2 : Int32 => if r2 = 0 then if (gI S 124 12) = 3000 then (8, S) else px_let ((f_Mo_perform S ).2) (fun S7 : xS => if 32 ≤ (gI S7 124 19) then px_let (sI S7 124 19 32) (fun S10 : xS => if (gI S10 124 12) ≤ (gI S10 124 18) then (0, S10) else px_let ((f_Mo_grow S10 ).2) (fun S14 : xS => (0, S14))) else px_let (sI S7 124 19 ((gI S7 124 19) + 1)) (fun S16 : xS => if (gI S16 124 12) ≤ (gI S16 124 18) then (0, S16) else px_let ((f_Mo_grow S16 ).2) (fun S20 : xS => (0, S20)))) else (r2, S))
def p_Mo_advance (S : xS)  : Prop := (p_Mo_check S) ∧ ((∀ r2 : Int32, r2 = (f_Mo_check S) → (r2 = 0 → ((gI S 124 12) = 3000 → True) ∧ (¬ (gI S 124 12) = 3000 → (p_Mo_perform S) ∧ ((∀ S7 : xS, S7 = (f_Mo_perform S ).2 → (32 ≤ (gI S7 124 19) → (∀ S10 : xS, S10 = sI S7 124 19 32 → ((gI S10 124 12) ≤ (gI S10 124 18) → True) ∧ (¬ (gI S10 124 12) ≤ (gI S10 124 18) → (p_Mo_grow S10) ∧ ((∀ S14 : xS, S14 = (f_Mo_grow S10 ).2 → True))))) ∧ (¬ 32 ≤ (gI S7 124 19) → (∀ S16 : xS, S16 = sI S7 124 19 ((gI S7 124 19) + 1) → ((gI S16 124 12) ≤ (gI S16 124 18) → True) ∧ (¬ (gI S16 124 12) ≤ (gI S16 124 18) → (p_Mo_grow S16) ∧ ((∀ S20 : xS, S20 = (f_Mo_grow S16 ).2 → True))))))))) ∧ (¬ r2 = 0 → True)))
abbrev rm_Mo_advance : Room := { frames := 3, cells := 0, slots := 0, locals := 66 }
set_option maxHeartbeats 4000000 in
set_option maxRecDepth 100000 in
theorem c_Mo_advance (l : Launch) (D : va_G) (aC : Nat → ClassId) (ad : Nat → Nat) (n : Nat) (hn : 135 ≤ n) (c0 : Nat → va_E) (S : xS)   (hp : p_Mo_advance S ) : px_M l y_Mo_advance (Cond.code y_Mo_advance b_Mo_advance 2 (some .int) :: WS) rm_Mo_advance GG D CLS (TYS aC) [.ref (ad 124)] ad (ye aC ad S c0) n (some (.int (f_Mo_advance S).1)) (ye aC ad (f_Mo_advance S).2 c0) := by
  obtain ⟨F, hF⟩ : ∃ F, F = f_Mo_advance S := ⟨_, rfl⟩
  rw [← hF]
  unfold f_Mo_advance at hF
  refine px_start GG_k (by decide) (Nat.le_of_ble_eq_true rfl) ?_
  intro p e s m args below meth cd X hr hk
  refine j_L (L' := [(0, .ref (ad 124))]) rfl ?_
  unfold p_Mo_advance at hp
  refine j_aload_n X d_Mo_advance_0 0 rfl ?_
  obtain ⟨o1, hp⟩ := hp
  refine j_callV (st := []) X 124 (by omega) hY_Mo_check (c_Mo_check l D aC ad n hn c0 S   o1) mw_660 hI_Mo_check hS_Mo_check y_Mo rfl rfl rfl (Nat.le_of_ble_eq_true rfl) d_Mo_advance_1 rfl rfl ⟨by decide, by decide⟩ ⟨Nat.zero_le _, Nat.zero_le _⟩ (j_st (st' := [.int (f_Mo_check S)]) rfl ?_)
  refine j_topi (fun r2 e3 => ?_)
  replace hp := hp r2 e3
  replace hF := hF.trans (px_let_eq e3)
  refine j_istore_n X d_Mo_advance_4 [(1, .int r2), (0, .ref (ad 124))] (by decide) rfl ?_
  refine j_iload_n X d_Mo_advance_5 0 rfl ?_
  refine j_if_eq X (tgt := 11) d_Mo_advance_6 (by decide) (fun h4 => ?_) (fun h4 => ?_)
  · replace hp := hp.1 h4
    replace hF := hF.trans (if_pos h4)
    refine j_aload_n X d_Mo_advance_11 1 rfl ?_
    refine j_get X fd_Mo_63_Mo 124 (by omega) y_Mo rfl d_Mo_advance_12 ?_
    refine j_sipush X (v := 3000) d_Mo_advance_15 (by decide) ?_
    refine j_icmp_ne X (tgt := 24) d_Mo_advance_18 (by decide) (fun h5 => ?_) (fun h5 => ?_)
    · replace hp := hp.2 h5
      replace hF := hF.trans (if_neg h5)
      refine j_aload_n X d_Mo_advance_24 1 rfl ?_
      obtain ⟨o6, hp⟩ := hp
      refine j_callV (st := []) X 124 (by omega) hY_Mo_perform (c_Mo_perform l D aC ad n hn c0 S   o6) mw_674 hI_Mo_perform hS_Mo_perform y_Mo rfl rfl rfl (Nat.le_of_ble_eq_true rfl) d_Mo_advance_25 rfl rfl ⟨by decide, by decide⟩ ⟨Nat.zero_le _, Nat.zero_le _⟩ (j_st (st' := []) rfl ?_)
      refine y_gen (fun S7 e8 => ?_)
      replace hp := hp S7 e8
      replace hF := hF.trans (px_let_eq e8)
      refine j_aload_n X d_Mo_advance_28 1 rfl ?_
      refine j_aload_n X d_Mo_advance_29 1 rfl ?_
      refine j_get X fd_Mo_122_Mo 124 (by omega) y_Mo rfl d_Mo_advance_30 ?_
      refine j_bipush X (v := 32) d_Mo_advance_33 (by decide) ?_
      refine j_icmp_ge X (tgt := 47) d_Mo_advance_35 (by decide) (fun h9 => ?_) (fun h9 => ?_)
      · replace hp := hp.1 h9
        replace hF := hF.trans (if_pos h9)
        refine j_bipush X (v := 32) d_Mo_advance_47 (by decide) ?_
        refine j_put X fp_Mo_122_Mo 124 (by omega) y_Mo (Nat.le_of_ble_eq_true rfl) rfl rfl d_Mo_advance_49 (j_w (y_put_19) ?_)
        refine y_gen (fun S10 e11 => ?_)
        replace hp := hp S10 e11
        replace hF := hF.trans (px_let_eq e11)
        refine j_aload_n X d_Mo_advance_52 1 rfl ?_
        refine j_get X fd_Mo_63_Mo 124 (by omega) y_Mo rfl d_Mo_advance_53 ?_
        refine j_aload_n X d_Mo_advance_56 1 rfl ?_
        refine j_get X fd_Mo_57_Mo 124 (by omega) y_Mo rfl d_Mo_advance_57 ?_
        refine j_icmp_le X (tgt := 67) d_Mo_advance_60 (by decide) (fun h12 => ?_) (fun h12 => ?_)
        · replace hp := hp.1 h12
          replace hF := hF.trans (if_pos h12)
          refine j_iconst X (v := 0) d_Mo_advance_67 (by decide) ?_
          exact j_iret X hr hk (by rw [hF]) (by rw [hF]) d_Mo_advance_68
        · replace hp := hp.2 h12
          replace hF := hF.trans (if_neg h12)
          refine j_aload_n X d_Mo_advance_63 1 rfl ?_
          obtain ⟨o13, hp⟩ := hp
          refine j_callV (st := []) X 124 (by omega) hY_Mo_grow (c_Mo_grow l D aC ad n hn c0 S10   o13) mw_707 hI_Mo_grow hS_Mo_grow y_Mo rfl rfl rfl (Nat.le_of_ble_eq_true rfl) d_Mo_advance_64 rfl rfl ⟨by decide, by decide⟩ ⟨Nat.zero_le _, Nat.zero_le _⟩ (j_st (st' := []) rfl ?_)
          refine y_gen (fun S14 e15 => ?_)
          replace hp := hp S14 e15
          replace hF := hF.trans (px_let_eq e15)
          refine j_iconst X (v := 0) d_Mo_advance_67 (by decide) ?_
          exact j_iret X hr hk (by rw [hF]) (by rw [hF]) d_Mo_advance_68
      · replace hp := hp.2 h9
        replace hF := hF.trans (if_neg h9)
        refine j_aload_n X d_Mo_advance_38 1 rfl ?_
        refine j_get X fd_Mo_122_Mo 124 (by omega) y_Mo rfl d_Mo_advance_39 ?_
        refine j_iconst X (v := 1) d_Mo_advance_42 (by decide) ?_
        refine j_iadd X d_Mo_advance_43 ?_
        refine j_goto X (tgt := 49) d_Mo_advance_44 (by decide) ?_
        refine j_put X fp_Mo_122_Mo 124 (by omega) y_Mo (Nat.le_of_ble_eq_true rfl) rfl rfl d_Mo_advance_49 (j_w (y_put_19) ?_)
        refine y_gen (fun S16 e17 => ?_)
        replace hp := hp S16 e17
        replace hF := hF.trans (px_let_eq e17)
        refine j_aload_n X d_Mo_advance_52 1 rfl ?_
        refine j_get X fd_Mo_63_Mo 124 (by omega) y_Mo rfl d_Mo_advance_53 ?_
        refine j_aload_n X d_Mo_advance_56 1 rfl ?_
        refine j_get X fd_Mo_57_Mo 124 (by omega) y_Mo rfl d_Mo_advance_57 ?_
        refine j_icmp_le X (tgt := 67) d_Mo_advance_60 (by decide) (fun h18 => ?_) (fun h18 => ?_)
        · replace hp := hp.1 h18
          replace hF := hF.trans (if_pos h18)
          refine j_iconst X (v := 0) d_Mo_advance_67 (by decide) ?_
          exact j_iret X hr hk (by rw [hF]) (by rw [hF]) d_Mo_advance_68
        · replace hp := hp.2 h18
          replace hF := hF.trans (if_neg h18)
          refine j_aload_n X d_Mo_advance_63 1 rfl ?_
          obtain ⟨o19, hp⟩ := hp
          refine j_callV (st := []) X 124 (by omega) hY_Mo_grow (c_Mo_grow l D aC ad n hn c0 S16   o19) mw_707 hI_Mo_grow hS_Mo_grow y_Mo rfl rfl rfl (Nat.le_of_ble_eq_true rfl) d_Mo_advance_64 rfl rfl ⟨by decide, by decide⟩ ⟨Nat.zero_le _, Nat.zero_le _⟩ (j_st (st' := []) rfl ?_)
          refine y_gen (fun S20 e21 => ?_)
          replace hp := hp S20 e21
          replace hF := hF.trans (px_let_eq e21)
          refine j_iconst X (v := 0) d_Mo_advance_67 (by decide) ?_
          exact j_iret X hr hk (by rw [hF]) (by rw [hF]) d_Mo_advance_68
    · replace hp := hp.1 h5
      replace hF := hF.trans (if_pos h5)
      refine j_bipush X (v := 8) d_Mo_advance_21 (by decide) ?_
      exact j_iret X hr hk (by rw [hF]) (by rw [hF]) d_Mo_advance_23
  · replace hp := hp.2 h4
    replace hF := hF.trans (if_neg h4)
    refine j_iload_n X d_Mo_advance_9 0 rfl ?_
    exact j_iret X hr hk (by rw [hF]) (by rw [hF]) d_Mo_advance_10
def f_Mo_step (S : xS)  : Int32 × xS := px_let (sI S 124 10 0) (fun S1 : xS => px_let (sI S1 124 20 0) (fun S3 : xS => px_let ((f_Mo_advance S3 ).2) (fun S6 : xS => px_let ((f_Mo_advance S3).1) (fun r8 : Int32 => (r8, S6)))))
def p_Mo_step (S : xS)  : Prop := (∀ S1 : xS, S1 = sI S 124 10 0 → (∀ S3 : xS, S3 = sI S1 124 20 0 → (p_Mo_advance S3) ∧ ((∀ S6 : xS, S6 = (f_Mo_advance S3 ).2 → (∀ r8 : Int32, r8 = ((f_Mo_advance S3).1) → True)))))
abbrev rm_Mo_step : Room := { frames := 4, cells := 0, slots := 0, locals := 87 }
set_option maxHeartbeats 4000000 in
set_option maxRecDepth 100000 in
theorem c_Mo_step (l : Launch) (D : va_G) (aC : Nat → ClassId) (ad : Nat → Nat) (n : Nat) (hn : 135 ≤ n) (c0 : Nat → va_E) (S : xS)   (hp : p_Mo_step S ) : px_M l y_Mo_step (Cond.code y_Mo_step b_Mo_step 1 (some .int) :: WS) rm_Mo_step GG D CLS (TYS aC) [.ref (ad 124)] ad (ye aC ad S c0) n (some (.int (f_Mo_step S).1)) (ye aC ad (f_Mo_step S).2 c0) := by
  obtain ⟨F, hF⟩ : ∃ F, F = f_Mo_step S := ⟨_, rfl⟩
  rw [← hF]
  unfold f_Mo_step at hF
  refine px_start GG_k (by decide) (Nat.le_of_ble_eq_true rfl) ?_
  intro p e s m args below meth cd X hr hk
  refine j_L (L' := [(0, .ref (ad 124))]) rfl ?_
  unfold p_Mo_step at hp
  refine j_aload_n X d_Mo_step_0 0 rfl ?_
  refine j_iconst X (v := 0) d_Mo_step_1 (by decide) ?_
  refine j_put X fp_Mo_54_Mo 124 (by omega) y_Mo (Nat.le_of_ble_eq_true rfl) rfl rfl d_Mo_step_2 (j_w (y_put_10) ?_)
  refine y_gen (fun S1 e2 => ?_)
  replace hp := hp S1 e2
  replace hF := hF.trans (px_let_eq e2)
  refine j_aload_n X d_Mo_step_5 0 rfl ?_
  refine j_iconst X (v := 0) d_Mo_step_6 (by decide) ?_
  refine j_put X fp_Mo_128_Mo 124 (by omega) y_Mo (Nat.le_of_ble_eq_true rfl) rfl rfl d_Mo_step_7 (j_w (y_put_20) ?_)
  refine y_gen (fun S3 e4 => ?_)
  replace hp := hp S3 e4
  replace hF := hF.trans (px_let_eq e4)
  refine j_aload_n X d_Mo_step_10 0 rfl ?_
  obtain ⟨o5, hp⟩ := hp
  refine j_callV (st := []) X 124 (by omega) hY_Mo_advance (c_Mo_advance l D aC ad n hn c0 S3   o5) mw_656 hI_Mo_advance hS_Mo_advance y_Mo rfl rfl rfl (Nat.le_of_ble_eq_true rfl) d_Mo_step_11 rfl rfl ⟨by decide, by decide⟩ ⟨Nat.zero_le _, Nat.zero_le _⟩ (j_st (st' := [.int ((f_Mo_advance S3).1)]) rfl ?_)
  refine y_gen (fun S6 e7 => ?_)
  replace hp := hp S6 e7
  replace hF := hF.trans (px_let_eq e7)
  refine j_topi (fun r8 e9 => ?_)
  replace hp := hp r8 e9
  replace hF := hF.trans (px_let_eq e9)
  exact j_iret X hr hk (by rw [hF]) (by rw [hF]) d_Mo_step_14
def g_Mo_forth  : Nat → xS → Int32 → Int32 → Int32 → Int32 × xS
  | 0, S, _, _, _ => ((0 : Int32), S)
  | k + 1, S, t, u, v => if t ≤ v then if u = 0 then (11, S) else (u, S) else if u = 0 then px_let ((f_Mo_remember S ).2) (fun S5 : xS => px_let ((f_Mo_advance S5 ).2) (fun S8 : xS => px_let ((f_Mo_advance S5).1) (fun r10 : Int32 => if r10 = 0 then px_let (f_Mo_stop S8) (fun r14 : Int32 => g_Mo_forth k S8 t r14 (v + 1)) else g_Mo_forth k S8 t r10 (v + 1)))) else if u = 0 then (11, S) else (u, S)
def q_Mo_forth  : Nat → xS → Int32 → Int32 → Int32 → Prop
  | 0, _, _, _, _ => False
  | k + 1, S, t, u, v => (t ≤ v → (u = 0 → True) ∧ (¬ u = 0 → True)) ∧ (¬ t ≤ v → (u = 0 → (p_Mo_remember S) ∧ ((∀ S5 : xS, S5 = (f_Mo_remember S ).2 → (p_Mo_advance S5) ∧ ((∀ S8 : xS, S8 = (f_Mo_advance S5 ).2 → (∀ r10 : Int32, r10 = ((f_Mo_advance S5).1) → (r10 = 0 → (p_Mo_stop S8) ∧ ((∀ r14 : Int32, r14 = (f_Mo_stop S8) → q_Mo_forth k S8 t r14 (v + 1)))) ∧ (¬ r10 = 0 → q_Mo_forth k S8 t r10 (v + 1)))))))) ∧ (¬ u = 0 → (u = 0 → True) ∧ (¬ u = 0 → True)))
def f_Mo_forth (S : xS) (t : Int32) : Int32 × xS := if t < 0 then px_let (sI S 124 10 1) (fun S2 : xS => if (gI S2 124 10) ≤ 0 then px_let (sI S2 124 20 0) (fun S5 : xS => g_Mo_forth 1001 S5 t 0 0) else (0, S2)) else if t ≤ 1000 then px_let (sI S 124 10 0) (fun S8 : xS => if (gI S8 124 10) ≤ 0 then px_let (sI S8 124 20 0) (fun S11 : xS => g_Mo_forth 1001 S11 t 0 0) else (0, S8)) else px_let (sI S 124 10 1) (fun S13 : xS => if (gI S13 124 10) ≤ 0 then px_let (sI S13 124 20 0) (fun S16 : xS => g_Mo_forth 1001 S16 t 0 0) else (0, S13))
def p_Mo_forth (S : xS) (t : Int32) : Prop := (t < 0 → (∀ S2 : xS, S2 = sI S 124 10 1 → ((gI S2 124 10) ≤ 0 → (∀ S5 : xS, S5 = sI S2 124 20 0 → q_Mo_forth 1001 S5 t 0 0)) ∧ (¬ (gI S2 124 10) ≤ 0 → True))) ∧ (¬ t < 0 → (t ≤ 1000 → (∀ S8 : xS, S8 = sI S 124 10 0 → ((gI S8 124 10) ≤ 0 → (∀ S11 : xS, S11 = sI S8 124 20 0 → q_Mo_forth 1001 S11 t 0 0)) ∧ (¬ (gI S8 124 10) ≤ 0 → True))) ∧ (¬ t ≤ 1000 → (∀ S13 : xS, S13 = sI S 124 10 1 → ((gI S13 124 10) ≤ 0 → (∀ S16 : xS, S16 = sI S13 124 20 0 → q_Mo_forth 1001 S16 t 0 0)) ∧ (¬ (gI S13 124 10) ≤ 0 → True))))
abbrev rm_Mo_forth : Room := { frames := 4, cells := 0, slots := 0, locals := 87 }
set_option maxHeartbeats 4000000 in
set_option maxRecDepth 100000 in
theorem w_Mo_forth (l : Launch) (D : va_G) (aC : Nat → ClassId) (ad : Nat → Nat) (n : Nat) (hn : 135 ≤ n) (c0 : Nat → va_E)   {p : Program} {e : Env} {s : State} {m : MethodId} {args : Array Value} {below : List Frame} {meth : Method} {cd : Code} (X : px_X p s m args cd b_Mo_forth 4 WS y_Mo_forth.cls GG D CLS (TYS aC) (px_A ad n s.heap.size) ad n) (hr : meth.sig.returnType = (some .int)) (hk : meth.locks = false) : ∀ (k : Nat) (S : xS) (t : Int32) (u : Int32) (v : Int32), q_Mo_forth  k S t u v → ∀ F, F = g_Mo_forth  k S t u v → px_J p l e rm_Mo_forth s m args below meth cd D CLS (px_A ad n s.heap.size) ad n 4 0 0 (MQ below (px_Qc D CLS ad n s.heap.size (some (.int F.1)) (ye aC ad F.2 c0)) args s 0 0 (px_A ad n s.heap.size)) (ye aC ad S c0) 38 [(0, .ref (ad 124)), (1, .int t), (2, .int u), (3, .int v)] [] := by
  intro k
  induction k with
  | zero => intro S t u v hp; exact hp.elim
  | succ k ih =>
    intro S t u v hp F hF
    rw [q_Mo_forth] at hp
    rw [g_Mo_forth] at hF
    refine j_iload_n X d_Mo_forth_38 3 rfl ?_
    refine j_iload_n X d_Mo_forth_39 1 rfl ?_
    refine j_icmp_ge X (tgt := 71) d_Mo_forth_40 (by decide) (fun h1 => ?_) (fun h1 => ?_)
    · replace hp := hp.1 h1
      replace hF := hF.trans (if_pos h1)
      refine j_iload_n X d_Mo_forth_71 2 rfl ?_
      refine j_if_ne X (tgt := 80) d_Mo_forth_72 (by decide) (fun h2 => ?_) (fun h2 => ?_)
      · replace hp := hp.2 h2
        replace hF := hF.trans (if_neg h2)
        refine j_iload_n X d_Mo_forth_80 2 rfl ?_
        exact j_iret X hr hk (by rw [hF]) (by rw [hF]) d_Mo_forth_81
      · replace hp := hp.1 h2
        replace hF := hF.trans (if_pos h2)
        refine j_bipush X (v := 11) d_Mo_forth_75 (by decide) ?_
        refine j_goto X (tgt := 81) d_Mo_forth_77 (by decide) ?_
        exact j_iret X hr hk (by rw [hF]) (by rw [hF]) d_Mo_forth_81
    · replace hp := hp.2 h1
      replace hF := hF.trans (if_neg h1)
      refine j_iload_n X d_Mo_forth_43 2 rfl ?_
      refine j_if_ne X (tgt := 71) d_Mo_forth_44 (by decide) (fun h3 => ?_) (fun h3 => ?_)
      · replace hp := hp.2 h3
        replace hF := hF.trans (if_neg h3)
        refine j_iload_n X d_Mo_forth_71 2 rfl ?_
        refine j_if_ne X (tgt := 80) d_Mo_forth_72 (by decide) (fun h16 => ?_) (fun h16 => ?_)
        · replace hp := hp.2 h16
          replace hF := hF.trans (if_neg h16)
          refine j_iload_n X d_Mo_forth_80 2 rfl ?_
          exact j_iret X hr hk (by rw [hF]) (by rw [hF]) d_Mo_forth_81
        · replace hp := hp.1 h16
          replace hF := hF.trans (if_pos h16)
          refine j_bipush X (v := 11) d_Mo_forth_75 (by decide) ?_
          refine j_goto X (tgt := 81) d_Mo_forth_77 (by decide) ?_
          exact j_iret X hr hk (by rw [hF]) (by rw [hF]) d_Mo_forth_81
      · replace hp := hp.1 h3
        replace hF := hF.trans (if_pos h3)
        refine j_aload_n X d_Mo_forth_47 0 rfl ?_
        obtain ⟨o4, hp⟩ := hp
        refine j_callV (st := []) X 124 (by omega) hY_Mo_remember (c_Mo_remember l D aC ad n hn c0 S   o4) mw_715 hI_Mo_remember hS_Mo_remember y_Mo rfl rfl rfl (Nat.le_of_ble_eq_true rfl) d_Mo_forth_48 rfl rfl ⟨by decide, by decide⟩ ⟨Nat.zero_le _, Nat.zero_le _⟩ (j_st (st' := []) rfl ?_)
        refine y_gen (fun S5 e6 => ?_)
        replace hp := hp S5 e6
        replace hF := hF.trans (px_let_eq e6)
        refine j_aload_n X d_Mo_forth_51 0 rfl ?_
        obtain ⟨o7, hp⟩ := hp
        refine j_callV (st := []) X 124 (by omega) hY_Mo_advance (c_Mo_advance l D aC ad n hn c0 S5   o7) mw_656 hI_Mo_advance hS_Mo_advance y_Mo rfl rfl rfl (Nat.le_of_ble_eq_true rfl) d_Mo_forth_52 rfl rfl ⟨by decide, by decide⟩ ⟨Nat.zero_le _, Nat.zero_le _⟩ (j_st (st' := [.int ((f_Mo_advance S5).1)]) rfl ?_)
        refine y_gen (fun S8 e9 => ?_)
        replace hp := hp S8 e9
        replace hF := hF.trans (px_let_eq e9)
        refine j_topi (fun r10 e11 => ?_)
        replace hp := hp r10 e11
        replace hF := hF.trans (px_let_eq e11)
        refine j_istore_n X d_Mo_forth_55 [(2, .int r10), (0, .ref (ad 124)), (1, .int t), (3, .int v)] (by decide) rfl ?_
        refine j_iload_n X d_Mo_forth_56 0 rfl ?_
        refine j_if_ne X (tgt := 65) d_Mo_forth_57 (by decide) (fun h12 => ?_) (fun h12 => ?_)
        · replace hp := hp.2 h12
          replace hF := hF.trans (if_neg h12)
          refine j_iinc X d_Mo_forth_65 3 [(3, .int (v + 1)), (2, .int r10), (0, .ref (ad 124)), (1, .int t)] rfl rfl (by decide) rfl ?_
          refine j_goto X (tgt := 38) d_Mo_forth_68 (by decide) ?_
          refine j_sub (L' := [(0, .ref (ad 124)), (1, .int t), (2, .int r10), (3, .int (v + 1))]) [2, 3, 1, 0] rfl ?_
          exact ih S8 t r10 (v + 1) hp F hF
        · replace hp := hp.1 h12
          replace hF := hF.trans (if_pos h12)
          refine j_aload_n X d_Mo_forth_60 1 rfl ?_
          obtain ⟨o13, hp⟩ := hp
          refine j_callV (st := []) X 124 (by omega) hY_Mo_stop (c_Mo_stop l D aC ad n hn c0 S8   o13) mw_719 hI_Mo_stop hS_Mo_stop y_Mo rfl rfl rfl (Nat.le_of_ble_eq_true rfl) d_Mo_forth_61 rfl rfl ⟨by decide, by decide⟩ ⟨Nat.zero_le _, Nat.zero_le _⟩ (j_st (st' := [.int (f_Mo_stop S8)]) rfl ?_)
          refine j_topi (fun r14 e15 => ?_)
          replace hp := hp r14 e15
          replace hF := hF.trans (px_let_eq e15)
          refine j_istore_n X d_Mo_forth_64 [(2, .int r14), (0, .ref (ad 124)), (1, .int t), (3, .int v)] (by decide) rfl ?_
          refine j_iinc X d_Mo_forth_65 3 [(3, .int (v + 1)), (2, .int r14), (0, .ref (ad 124)), (1, .int t)] rfl rfl (by decide) rfl ?_
          refine j_goto X (tgt := 38) d_Mo_forth_68 (by decide) ?_
          refine j_sub (L' := [(0, .ref (ad 124)), (1, .int t), (2, .int r14), (3, .int (v + 1))]) [2, 3, 1, 0] rfl ?_
          exact ih S8 t r14 (v + 1) hp F hF
set_option maxHeartbeats 4000000 in
set_option maxRecDepth 100000 in
theorem c_Mo_forth (l : Launch) (D : va_G) (aC : Nat → ClassId) (ad : Nat → Nat) (n : Nat) (hn : 135 ≤ n) (c0 : Nat → va_E) (S : xS) (t : Int32)  (hp : p_Mo_forth S t) : px_M l y_Mo_forth (Cond.code y_Mo_forth b_Mo_forth 4 (some .int) :: WS) rm_Mo_forth GG D CLS (TYS aC) [.ref (ad 124), .int t] ad (ye aC ad S c0) n (some (.int (f_Mo_forth S t).1)) (ye aC ad (f_Mo_forth S t).2 c0) := by
  obtain ⟨F, hF⟩ : ∃ F, F = f_Mo_forth S t := ⟨_, rfl⟩
  rw [← hF]
  unfold f_Mo_forth at hF
  refine px_start GG_k (by decide) (Nat.le_of_ble_eq_true rfl) ?_
  intro p e s m args below meth cd X hr hk
  refine j_L (L' := [(0, .ref (ad 124)), (1, .int t)]) rfl ?_
  unfold p_Mo_forth at hp
  refine j_aload_n X d_Mo_forth_0 0 rfl ?_
  refine j_iload_n X d_Mo_forth_1 1 rfl ?_
  refine j_if_lt X (tgt := 12) d_Mo_forth_2 (by decide) (fun h1 => ?_) (fun h1 => ?_)
  · replace hp := hp.1 h1
    replace hF := hF.trans (if_pos h1)
    refine j_iconst X (v := 1) d_Mo_forth_12 (by decide) ?_
    refine j_goto X (tgt := 17) d_Mo_forth_13 (by decide) ?_
    refine j_put X fp_Mo_54_Mo 124 (by omega) y_Mo (Nat.le_of_ble_eq_true rfl) rfl rfl d_Mo_forth_17 (j_w (y_put_10) ?_)
    refine y_gen (fun S2 e3 => ?_)
    replace hp := hp S2 e3
    replace hF := hF.trans (px_let_eq e3)
    refine j_aload_n X d_Mo_forth_20 0 rfl ?_
    refine j_get X fd_Mo_54_Mo 124 (by omega) y_Mo rfl d_Mo_forth_21 ?_
    refine j_if_le X (tgt := 29) d_Mo_forth_24 (by decide) (fun h4 => ?_) (fun h4 => ?_)
    · replace hp := hp.1 h4
      replace hF := hF.trans (if_pos h4)
      refine j_aload_n X d_Mo_forth_29 0 rfl ?_
      refine j_iconst X (v := 0) d_Mo_forth_30 (by decide) ?_
      refine j_put X fp_Mo_128_Mo 124 (by omega) y_Mo (Nat.le_of_ble_eq_true rfl) rfl rfl d_Mo_forth_31 (j_w (y_put_20) ?_)
      refine y_gen (fun S5 e6 => ?_)
      replace hp := hp S5 e6
      replace hF := hF.trans (px_let_eq e6)
      refine j_iconst X (v := 0) d_Mo_forth_34 (by decide) ?_
      refine j_istore_n X d_Mo_forth_35 [(2, .int 0), (0, .ref (ad 124)), (1, .int t)] (by decide) rfl ?_
      refine j_iconst X (v := 0) d_Mo_forth_36 (by decide) ?_
      refine j_istore_n X d_Mo_forth_37 [(3, .int 0), (2, .int 0), (0, .ref (ad 124)), (1, .int t)] (by decide) rfl ?_
      refine j_sub (L' := [(0, .ref (ad 124)), (1, .int t), (2, .int 0), (3, .int 0)]) [2, 3, 1, 0] rfl ?_
      exact w_Mo_forth l D aC ad n hn c0  X hr hk 1001 S5 t 0 0 hp F hF
    · replace hp := hp.2 h4
      replace hF := hF.trans (if_neg h4)
      refine j_iconst X (v := 0) d_Mo_forth_27 (by decide) ?_
      exact j_iret X hr hk (by rw [hF]) (by rw [hF]) d_Mo_forth_28
  · replace hp := hp.2 h1
    replace hF := hF.trans (if_neg h1)
    refine j_iload_n X d_Mo_forth_5 1 rfl ?_
    refine j_sipush X (v := 1000) d_Mo_forth_6 (by decide) ?_
    refine j_icmp_le X (tgt := 16) d_Mo_forth_9 (by decide) (fun h7 => ?_) (fun h7 => ?_)
    · replace hp := hp.1 h7
      replace hF := hF.trans (if_pos h7)
      refine j_iconst X (v := 0) d_Mo_forth_16 (by decide) ?_
      refine j_put X fp_Mo_54_Mo 124 (by omega) y_Mo (Nat.le_of_ble_eq_true rfl) rfl rfl d_Mo_forth_17 (j_w (y_put_10) ?_)
      refine y_gen (fun S8 e9 => ?_)
      replace hp := hp S8 e9
      replace hF := hF.trans (px_let_eq e9)
      refine j_aload_n X d_Mo_forth_20 0 rfl ?_
      refine j_get X fd_Mo_54_Mo 124 (by omega) y_Mo rfl d_Mo_forth_21 ?_
      refine j_if_le X (tgt := 29) d_Mo_forth_24 (by decide) (fun h10 => ?_) (fun h10 => ?_)
      · replace hp := hp.1 h10
        replace hF := hF.trans (if_pos h10)
        refine j_aload_n X d_Mo_forth_29 0 rfl ?_
        refine j_iconst X (v := 0) d_Mo_forth_30 (by decide) ?_
        refine j_put X fp_Mo_128_Mo 124 (by omega) y_Mo (Nat.le_of_ble_eq_true rfl) rfl rfl d_Mo_forth_31 (j_w (y_put_20) ?_)
        refine y_gen (fun S11 e12 => ?_)
        replace hp := hp S11 e12
        replace hF := hF.trans (px_let_eq e12)
        refine j_iconst X (v := 0) d_Mo_forth_34 (by decide) ?_
        refine j_istore_n X d_Mo_forth_35 [(2, .int 0), (0, .ref (ad 124)), (1, .int t)] (by decide) rfl ?_
        refine j_iconst X (v := 0) d_Mo_forth_36 (by decide) ?_
        refine j_istore_n X d_Mo_forth_37 [(3, .int 0), (2, .int 0), (0, .ref (ad 124)), (1, .int t)] (by decide) rfl ?_
        refine j_sub (L' := [(0, .ref (ad 124)), (1, .int t), (2, .int 0), (3, .int 0)]) [2, 3, 1, 0] rfl ?_
        exact w_Mo_forth l D aC ad n hn c0  X hr hk 1001 S11 t 0 0 hp F hF
      · replace hp := hp.2 h10
        replace hF := hF.trans (if_neg h10)
        refine j_iconst X (v := 0) d_Mo_forth_27 (by decide) ?_
        exact j_iret X hr hk (by rw [hF]) (by rw [hF]) d_Mo_forth_28
    · replace hp := hp.2 h7
      replace hF := hF.trans (if_neg h7)
      refine j_iconst X (v := 1) d_Mo_forth_12 (by decide) ?_
      refine j_goto X (tgt := 17) d_Mo_forth_13 (by decide) ?_
      refine j_put X fp_Mo_54_Mo 124 (by omega) y_Mo (Nat.le_of_ble_eq_true rfl) rfl rfl d_Mo_forth_17 (j_w (y_put_10) ?_)
      refine y_gen (fun S13 e14 => ?_)
      replace hp := hp S13 e14
      replace hF := hF.trans (px_let_eq e14)
      refine j_aload_n X d_Mo_forth_20 0 rfl ?_
      refine j_get X fd_Mo_54_Mo 124 (by omega) y_Mo rfl d_Mo_forth_21 ?_
      refine j_if_le X (tgt := 29) d_Mo_forth_24 (by decide) (fun h15 => ?_) (fun h15 => ?_)
      · replace hp := hp.1 h15
        replace hF := hF.trans (if_pos h15)
        refine j_aload_n X d_Mo_forth_29 0 rfl ?_
        refine j_iconst X (v := 0) d_Mo_forth_30 (by decide) ?_
        refine j_put X fp_Mo_128_Mo 124 (by omega) y_Mo (Nat.le_of_ble_eq_true rfl) rfl rfl d_Mo_forth_31 (j_w (y_put_20) ?_)
        refine y_gen (fun S16 e17 => ?_)
        replace hp := hp S16 e17
        replace hF := hF.trans (px_let_eq e17)
        refine j_iconst X (v := 0) d_Mo_forth_34 (by decide) ?_
        refine j_istore_n X d_Mo_forth_35 [(2, .int 0), (0, .ref (ad 124)), (1, .int t)] (by decide) rfl ?_
        refine j_iconst X (v := 0) d_Mo_forth_36 (by decide) ?_
        refine j_istore_n X d_Mo_forth_37 [(3, .int 0), (2, .int 0), (0, .ref (ad 124)), (1, .int t)] (by decide) rfl ?_
        refine j_sub (L' := [(0, .ref (ad 124)), (1, .int t), (2, .int 0), (3, .int 0)]) [2, 3, 1, 0] rfl ?_
        exact w_Mo_forth l D aC ad n hn c0  X hr hk 1001 S16 t 0 0 hp F hF
      · replace hp := hp.2 h15
        replace hF := hF.trans (if_neg h15)
        refine j_iconst X (v := 0) d_Mo_forth_27 (by decide) ?_
        exact j_iret X hr hk (by rw [hF]) (by rw [hF]) d_Mo_forth_28
def f_Mo_go (S : xS) (t : Int32) : Int32 × xS := if t < 0 then px_let (sI S 124 10 1) (fun S2 : xS => if (gI S2 124 10) ≤ 0 then px_let (sI S2 124 20 0) (fun S5 : xS => if t = (gI S5 124 12) then px_let ((f_Mo_seek S5 t).2) (fun S9 : xS => ((0 : Int32), S9)) else px_let ((f_Mo_account S5 t).2) (fun S12 : xS => px_let ((f_Mo_seek S12 t).2) (fun S15 : xS => ((0 : Int32), S15)))) else ((0 : Int32), S2)) else if t ≤ (gI S 124 18) then px_let (sI S 124 10 0) (fun S18 : xS => if (gI S18 124 10) ≤ 0 then px_let (sI S18 124 20 0) (fun S21 : xS => if t = (gI S21 124 12) then px_let ((f_Mo_seek S21 t).2) (fun S25 : xS => ((0 : Int32), S25)) else px_let ((f_Mo_account S21 t).2) (fun S28 : xS => px_let ((f_Mo_seek S28 t).2) (fun S31 : xS => ((0 : Int32), S31)))) else ((0 : Int32), S18)) else px_let (sI S 124 10 1) (fun S33 : xS => if (gI S33 124 10) ≤ 0 then px_let (sI S33 124 20 0) (fun S36 : xS => if t = (gI S36 124 12) then px_let ((f_Mo_seek S36 t).2) (fun S40 : xS => ((0 : Int32), S40)) else px_let ((f_Mo_account S36 t).2) (fun S43 : xS => px_let ((f_Mo_seek S43 t).2) (fun S46 : xS => ((0 : Int32), S46)))) else ((0 : Int32), S33))
def p_Mo_go (S : xS) (t : Int32) : Prop := (t < 0 → (∀ S2 : xS, S2 = sI S 124 10 1 → ((gI S2 124 10) ≤ 0 → (∀ S5 : xS, S5 = sI S2 124 20 0 → (t = (gI S5 124 12) → (p_Mo_seek S5 t) ∧ ((∀ S9 : xS, S9 = (f_Mo_seek S5 t).2 → True))) ∧ (¬ t = (gI S5 124 12) → (p_Mo_account S5 t) ∧ ((∀ S12 : xS, S12 = (f_Mo_account S5 t).2 → (p_Mo_seek S12 t) ∧ ((∀ S15 : xS, S15 = (f_Mo_seek S12 t).2 → True))))))) ∧ (¬ (gI S2 124 10) ≤ 0 → True))) ∧ (¬ t < 0 → (t ≤ (gI S 124 18) → (∀ S18 : xS, S18 = sI S 124 10 0 → ((gI S18 124 10) ≤ 0 → (∀ S21 : xS, S21 = sI S18 124 20 0 → (t = (gI S21 124 12) → (p_Mo_seek S21 t) ∧ ((∀ S25 : xS, S25 = (f_Mo_seek S21 t).2 → True))) ∧ (¬ t = (gI S21 124 12) → (p_Mo_account S21 t) ∧ ((∀ S28 : xS, S28 = (f_Mo_account S21 t).2 → (p_Mo_seek S28 t) ∧ ((∀ S31 : xS, S31 = (f_Mo_seek S28 t).2 → True))))))) ∧ (¬ (gI S18 124 10) ≤ 0 → True))) ∧ (¬ t ≤ (gI S 124 18) → (∀ S33 : xS, S33 = sI S 124 10 1 → ((gI S33 124 10) ≤ 0 → (∀ S36 : xS, S36 = sI S33 124 20 0 → (t = (gI S36 124 12) → (p_Mo_seek S36 t) ∧ ((∀ S40 : xS, S40 = (f_Mo_seek S36 t).2 → True))) ∧ (¬ t = (gI S36 124 12) → (p_Mo_account S36 t) ∧ ((∀ S43 : xS, S43 = (f_Mo_account S36 t).2 → (p_Mo_seek S43 t) ∧ ((∀ S46 : xS, S46 = (f_Mo_seek S43 t).2 → True))))))) ∧ (¬ (gI S33 124 10) ≤ 0 → True))))
abbrev rm_Mo_go : Room := { frames := 4, cells := 0, slots := 0, locals := 89 }
set_option maxHeartbeats 4000000 in
set_option maxRecDepth 100000 in
theorem c_Mo_go (l : Launch) (D : va_G) (aC : Nat → ClassId) (ad : Nat → Nat) (n : Nat) (hn : 135 ≤ n) (c0 : Nat → va_E) (S : xS) (t : Int32)  (hp : p_Mo_go S t) : px_M l y_Mo_go (Cond.code y_Mo_go b_Mo_go 2 none :: WS) rm_Mo_go GG D CLS (TYS aC) [.ref (ad 124), .int t] ad (ye aC ad S c0) n none (ye aC ad (f_Mo_go S t).2 c0) := by
  obtain ⟨F, hF⟩ : ∃ F, F = f_Mo_go S t := ⟨_, rfl⟩
  rw [← hF]
  unfold f_Mo_go at hF
  refine px_start GG_k (by decide) (Nat.le_of_ble_eq_true rfl) ?_
  intro p e s m args below meth cd X hr hk
  refine j_L (L' := [(0, .ref (ad 124)), (1, .int t)]) rfl ?_
  unfold p_Mo_go at hp
  refine j_aload_n X d_Mo_go_0 0 rfl ?_
  refine j_iload_n X d_Mo_go_1 1 rfl ?_
  refine j_if_lt X (tgt := 13) d_Mo_go_2 (by decide) (fun h1 => ?_) (fun h1 => ?_)
  · replace hp := hp.1 h1
    replace hF := hF.trans (if_pos h1)
    refine j_iconst X (v := 1) d_Mo_go_13 (by decide) ?_
    refine j_goto X (tgt := 18) d_Mo_go_14 (by decide) ?_
    refine j_put X fp_Mo_54_Mo 124 (by omega) y_Mo (Nat.le_of_ble_eq_true rfl) rfl rfl d_Mo_go_18 (j_w (y_put_10) ?_)
    refine y_gen (fun S2 e3 => ?_)
    replace hp := hp S2 e3
    replace hF := hF.trans (px_let_eq e3)
    refine j_aload_n X d_Mo_go_21 0 rfl ?_
    refine j_get X fd_Mo_54_Mo 124 (by omega) y_Mo rfl d_Mo_go_22 ?_
    refine j_if_le X (tgt := 29) d_Mo_go_25 (by decide) (fun h4 => ?_) (fun h4 => ?_)
    · replace hp := hp.1 h4
      replace hF := hF.trans (if_pos h4)
      refine j_aload_n X d_Mo_go_29 0 rfl ?_
      refine j_iconst X (v := 0) d_Mo_go_30 (by decide) ?_
      refine j_put X fp_Mo_128_Mo 124 (by omega) y_Mo (Nat.le_of_ble_eq_true rfl) rfl rfl d_Mo_go_31 (j_w (y_put_20) ?_)
      refine y_gen (fun S5 e6 => ?_)
      replace hp := hp S5 e6
      replace hF := hF.trans (px_let_eq e6)
      refine j_iload_n X d_Mo_go_34 1 rfl ?_
      refine j_aload_n X d_Mo_go_35 0 rfl ?_
      refine j_get X fd_Mo_63_Mo 124 (by omega) y_Mo rfl d_Mo_go_36 ?_
      refine j_icmp_eq X (tgt := 47) d_Mo_go_39 (by decide) (fun h7 => ?_) (fun h7 => ?_)
      · replace hp := hp.1 h7
        replace hF := hF.trans (if_pos h7)
        refine j_aload_n X d_Mo_go_47 0 rfl ?_
        refine j_iload_n X d_Mo_go_48 1 rfl ?_
        obtain ⟨o8, hp⟩ := hp
        refine j_callV (st := []) X 124 (by omega) hY_Mo_seek (c_Mo_seek l D aC ad n hn c0 S5 t  o8) mw_731 hI_Mo_seek hS_Mo_seek y_Mo rfl rfl rfl (Nat.le_of_ble_eq_true rfl) d_Mo_go_49 rfl rfl ⟨by decide, by decide⟩ ⟨Nat.zero_le _, Nat.zero_le _⟩ (j_st (st' := []) rfl ?_)
        refine y_gen (fun S9 e10 => ?_)
        replace hp := hp S9 e10
        replace hF := hF.trans (px_let_eq e10)
        exact j_vret X hr hk rfl (by rw [hF]) d_Mo_go_52
      · replace hp := hp.2 h7
        replace hF := hF.trans (if_neg h7)
        refine j_aload_n X d_Mo_go_42 0 rfl ?_
        refine j_iload_n X d_Mo_go_43 1 rfl ?_
        obtain ⟨o11, hp⟩ := hp
        refine j_callV (st := []) X 124 (by omega) hY_Mo_account (c_Mo_account l D aC ad n hn c0 S5 t  o11) mw_727 hI_Mo_account hS_Mo_account y_Mo rfl rfl rfl (Nat.le_of_ble_eq_true rfl) d_Mo_go_44 rfl rfl ⟨by decide, by decide⟩ ⟨Nat.zero_le _, Nat.zero_le _⟩ (j_st (st' := []) rfl ?_)
        refine y_gen (fun S12 e13 => ?_)
        replace hp := hp S12 e13
        replace hF := hF.trans (px_let_eq e13)
        refine j_aload_n X d_Mo_go_47 0 rfl ?_
        refine j_iload_n X d_Mo_go_48 1 rfl ?_
        obtain ⟨o14, hp⟩ := hp
        refine j_callV (st := []) X 124 (by omega) hY_Mo_seek (c_Mo_seek l D aC ad n hn c0 S12 t  o14) mw_731 hI_Mo_seek hS_Mo_seek y_Mo rfl rfl rfl (Nat.le_of_ble_eq_true rfl) d_Mo_go_49 rfl rfl ⟨by decide, by decide⟩ ⟨Nat.zero_le _, Nat.zero_le _⟩ (j_st (st' := []) rfl ?_)
        refine y_gen (fun S15 e16 => ?_)
        replace hp := hp S15 e16
        replace hF := hF.trans (px_let_eq e16)
        exact j_vret X hr hk rfl (by rw [hF]) d_Mo_go_52
    · replace hp := hp.2 h4
      replace hF := hF.trans (if_neg h4)
      exact j_vret X hr hk rfl (by rw [hF]) d_Mo_go_28
  · replace hp := hp.2 h1
    replace hF := hF.trans (if_neg h1)
    refine j_iload_n X d_Mo_go_5 1 rfl ?_
    refine j_aload_n X d_Mo_go_6 0 rfl ?_
    refine j_get X fd_Mo_57_Mo 124 (by omega) y_Mo rfl d_Mo_go_7 ?_
    refine j_icmp_le X (tgt := 17) d_Mo_go_10 (by decide) (fun h17 => ?_) (fun h17 => ?_)
    · replace hp := hp.1 h17
      replace hF := hF.trans (if_pos h17)
      refine j_iconst X (v := 0) d_Mo_go_17 (by decide) ?_
      refine j_put X fp_Mo_54_Mo 124 (by omega) y_Mo (Nat.le_of_ble_eq_true rfl) rfl rfl d_Mo_go_18 (j_w (y_put_10) ?_)
      refine y_gen (fun S18 e19 => ?_)
      replace hp := hp S18 e19
      replace hF := hF.trans (px_let_eq e19)
      refine j_aload_n X d_Mo_go_21 0 rfl ?_
      refine j_get X fd_Mo_54_Mo 124 (by omega) y_Mo rfl d_Mo_go_22 ?_
      refine j_if_le X (tgt := 29) d_Mo_go_25 (by decide) (fun h20 => ?_) (fun h20 => ?_)
      · replace hp := hp.1 h20
        replace hF := hF.trans (if_pos h20)
        refine j_aload_n X d_Mo_go_29 0 rfl ?_
        refine j_iconst X (v := 0) d_Mo_go_30 (by decide) ?_
        refine j_put X fp_Mo_128_Mo 124 (by omega) y_Mo (Nat.le_of_ble_eq_true rfl) rfl rfl d_Mo_go_31 (j_w (y_put_20) ?_)
        refine y_gen (fun S21 e22 => ?_)
        replace hp := hp S21 e22
        replace hF := hF.trans (px_let_eq e22)
        refine j_iload_n X d_Mo_go_34 1 rfl ?_
        refine j_aload_n X d_Mo_go_35 0 rfl ?_
        refine j_get X fd_Mo_63_Mo 124 (by omega) y_Mo rfl d_Mo_go_36 ?_
        refine j_icmp_eq X (tgt := 47) d_Mo_go_39 (by decide) (fun h23 => ?_) (fun h23 => ?_)
        · replace hp := hp.1 h23
          replace hF := hF.trans (if_pos h23)
          refine j_aload_n X d_Mo_go_47 0 rfl ?_
          refine j_iload_n X d_Mo_go_48 1 rfl ?_
          obtain ⟨o24, hp⟩ := hp
          refine j_callV (st := []) X 124 (by omega) hY_Mo_seek (c_Mo_seek l D aC ad n hn c0 S21 t  o24) mw_731 hI_Mo_seek hS_Mo_seek y_Mo rfl rfl rfl (Nat.le_of_ble_eq_true rfl) d_Mo_go_49 rfl rfl ⟨by decide, by decide⟩ ⟨Nat.zero_le _, Nat.zero_le _⟩ (j_st (st' := []) rfl ?_)
          refine y_gen (fun S25 e26 => ?_)
          replace hp := hp S25 e26
          replace hF := hF.trans (px_let_eq e26)
          exact j_vret X hr hk rfl (by rw [hF]) d_Mo_go_52
        · replace hp := hp.2 h23
          replace hF := hF.trans (if_neg h23)
          refine j_aload_n X d_Mo_go_42 0 rfl ?_
          refine j_iload_n X d_Mo_go_43 1 rfl ?_
          obtain ⟨o27, hp⟩ := hp
          refine j_callV (st := []) X 124 (by omega) hY_Mo_account (c_Mo_account l D aC ad n hn c0 S21 t  o27) mw_727 hI_Mo_account hS_Mo_account y_Mo rfl rfl rfl (Nat.le_of_ble_eq_true rfl) d_Mo_go_44 rfl rfl ⟨by decide, by decide⟩ ⟨Nat.zero_le _, Nat.zero_le _⟩ (j_st (st' := []) rfl ?_)
          refine y_gen (fun S28 e29 => ?_)
          replace hp := hp S28 e29
          replace hF := hF.trans (px_let_eq e29)
          refine j_aload_n X d_Mo_go_47 0 rfl ?_
          refine j_iload_n X d_Mo_go_48 1 rfl ?_
          obtain ⟨o30, hp⟩ := hp
          refine j_callV (st := []) X 124 (by omega) hY_Mo_seek (c_Mo_seek l D aC ad n hn c0 S28 t  o30) mw_731 hI_Mo_seek hS_Mo_seek y_Mo rfl rfl rfl (Nat.le_of_ble_eq_true rfl) d_Mo_go_49 rfl rfl ⟨by decide, by decide⟩ ⟨Nat.zero_le _, Nat.zero_le _⟩ (j_st (st' := []) rfl ?_)
          refine y_gen (fun S31 e32 => ?_)
          replace hp := hp S31 e32
          replace hF := hF.trans (px_let_eq e32)
          exact j_vret X hr hk rfl (by rw [hF]) d_Mo_go_52
      · replace hp := hp.2 h20
        replace hF := hF.trans (if_neg h20)
        exact j_vret X hr hk rfl (by rw [hF]) d_Mo_go_28
    · replace hp := hp.2 h17
      replace hF := hF.trans (if_neg h17)
      refine j_iconst X (v := 1) d_Mo_go_13 (by decide) ?_
      refine j_goto X (tgt := 18) d_Mo_go_14 (by decide) ?_
      refine j_put X fp_Mo_54_Mo 124 (by omega) y_Mo (Nat.le_of_ble_eq_true rfl) rfl rfl d_Mo_go_18 (j_w (y_put_10) ?_)
      refine y_gen (fun S33 e34 => ?_)
      replace hp := hp S33 e34
      replace hF := hF.trans (px_let_eq e34)
      refine j_aload_n X d_Mo_go_21 0 rfl ?_
      refine j_get X fd_Mo_54_Mo 124 (by omega) y_Mo rfl d_Mo_go_22 ?_
      refine j_if_le X (tgt := 29) d_Mo_go_25 (by decide) (fun h35 => ?_) (fun h35 => ?_)
      · replace hp := hp.1 h35
        replace hF := hF.trans (if_pos h35)
        refine j_aload_n X d_Mo_go_29 0 rfl ?_
        refine j_iconst X (v := 0) d_Mo_go_30 (by decide) ?_
        refine j_put X fp_Mo_128_Mo 124 (by omega) y_Mo (Nat.le_of_ble_eq_true rfl) rfl rfl d_Mo_go_31 (j_w (y_put_20) ?_)
        refine y_gen (fun S36 e37 => ?_)
        replace hp := hp S36 e37
        replace hF := hF.trans (px_let_eq e37)
        refine j_iload_n X d_Mo_go_34 1 rfl ?_
        refine j_aload_n X d_Mo_go_35 0 rfl ?_
        refine j_get X fd_Mo_63_Mo 124 (by omega) y_Mo rfl d_Mo_go_36 ?_
        refine j_icmp_eq X (tgt := 47) d_Mo_go_39 (by decide) (fun h38 => ?_) (fun h38 => ?_)
        · replace hp := hp.1 h38
          replace hF := hF.trans (if_pos h38)
          refine j_aload_n X d_Mo_go_47 0 rfl ?_
          refine j_iload_n X d_Mo_go_48 1 rfl ?_
          obtain ⟨o39, hp⟩ := hp
          refine j_callV (st := []) X 124 (by omega) hY_Mo_seek (c_Mo_seek l D aC ad n hn c0 S36 t  o39) mw_731 hI_Mo_seek hS_Mo_seek y_Mo rfl rfl rfl (Nat.le_of_ble_eq_true rfl) d_Mo_go_49 rfl rfl ⟨by decide, by decide⟩ ⟨Nat.zero_le _, Nat.zero_le _⟩ (j_st (st' := []) rfl ?_)
          refine y_gen (fun S40 e41 => ?_)
          replace hp := hp S40 e41
          replace hF := hF.trans (px_let_eq e41)
          exact j_vret X hr hk rfl (by rw [hF]) d_Mo_go_52
        · replace hp := hp.2 h38
          replace hF := hF.trans (if_neg h38)
          refine j_aload_n X d_Mo_go_42 0 rfl ?_
          refine j_iload_n X d_Mo_go_43 1 rfl ?_
          obtain ⟨o42, hp⟩ := hp
          refine j_callV (st := []) X 124 (by omega) hY_Mo_account (c_Mo_account l D aC ad n hn c0 S36 t  o42) mw_727 hI_Mo_account hS_Mo_account y_Mo rfl rfl rfl (Nat.le_of_ble_eq_true rfl) d_Mo_go_44 rfl rfl ⟨by decide, by decide⟩ ⟨Nat.zero_le _, Nat.zero_le _⟩ (j_st (st' := []) rfl ?_)
          refine y_gen (fun S43 e44 => ?_)
          replace hp := hp S43 e44
          replace hF := hF.trans (px_let_eq e44)
          refine j_aload_n X d_Mo_go_47 0 rfl ?_
          refine j_iload_n X d_Mo_go_48 1 rfl ?_
          obtain ⟨o45, hp⟩ := hp
          refine j_callV (st := []) X 124 (by omega) hY_Mo_seek (c_Mo_seek l D aC ad n hn c0 S43 t  o45) mw_731 hI_Mo_seek hS_Mo_seek y_Mo rfl rfl rfl (Nat.le_of_ble_eq_true rfl) d_Mo_go_49 rfl rfl ⟨by decide, by decide⟩ ⟨Nat.zero_le _, Nat.zero_le _⟩ (j_st (st' := []) rfl ?_)
          refine y_gen (fun S46 e47 => ?_)
          replace hp := hp S46 e47
          replace hF := hF.trans (px_let_eq e47)
          exact j_vret X hr hk rfl (by rw [hF]) d_Mo_go_52
      · replace hp := hp.2 h35
        replace hF := hF.trans (if_neg h35)
        exact j_vret X hr hk rfl (by rw [hF]) d_Mo_go_28
def f_Mo_backOne (S : xS)  : Int32 × xS := px_let ((f_Mo_account S ((gI S 124 12) - 1)).2) (fun S2 : xS => if ((gI S 124 12) - 1) = 0 then px_let ((f_Mo_seek S2 0).2) (fun S6 : xS => (12, S6)) else px_let ((f_Mo_seek S2 (((gI S 124 12) - 1) - 1)).2) (fun S9 : xS => px_let ((f_Mo_remember S9 ).2) (fun S12 : xS => px_let ((f_Mo_seek S12 ((gI S 124 12) - 1)).2) (fun S15 : xS => px_let (f_Mo_stop S15) (fun r18 : Int32 => (r18, S15))))))
def p_Mo_backOne (S : xS)  : Prop := (p_Mo_account S ((gI S 124 12) - 1)) ∧ ((∀ S2 : xS, S2 = (f_Mo_account S ((gI S 124 12) - 1)).2 → (((gI S 124 12) - 1) = 0 → (p_Mo_seek S2 0) ∧ ((∀ S6 : xS, S6 = (f_Mo_seek S2 0).2 → True))) ∧ (¬ ((gI S 124 12) - 1) = 0 → (p_Mo_seek S2 (((gI S 124 12) - 1) - 1)) ∧ ((∀ S9 : xS, S9 = (f_Mo_seek S2 (((gI S 124 12) - 1) - 1)).2 → (p_Mo_remember S9) ∧ ((∀ S12 : xS, S12 = (f_Mo_remember S9 ).2 → (p_Mo_seek S12 ((gI S 124 12) - 1)) ∧ ((∀ S15 : xS, S15 = (f_Mo_seek S12 ((gI S 124 12) - 1)).2 → (p_Mo_stop S15) ∧ ((∀ r18 : Int32, r18 = (f_Mo_stop S15) → True)))))))))))
abbrev rm_Mo_backOne : Room := { frames := 4, cells := 0, slots := 0, locals := 89 }
set_option maxHeartbeats 4000000 in
set_option maxRecDepth 100000 in
theorem c_Mo_backOne (l : Launch) (D : va_G) (aC : Nat → ClassId) (ad : Nat → Nat) (n : Nat) (hn : 135 ≤ n) (c0 : Nat → va_E) (S : xS)   (hp : p_Mo_backOne S ) : px_M l y_Mo_backOne (Cond.code y_Mo_backOne b_Mo_backOne 2 (some .int) :: WS) rm_Mo_backOne GG D CLS (TYS aC) [.ref (ad 124)] ad (ye aC ad S c0) n (some (.int (f_Mo_backOne S).1)) (ye aC ad (f_Mo_backOne S).2 c0) := by
  obtain ⟨F, hF⟩ : ∃ F, F = f_Mo_backOne S := ⟨_, rfl⟩
  rw [← hF]
  unfold f_Mo_backOne at hF
  refine px_start GG_k (by decide) (Nat.le_of_ble_eq_true rfl) ?_
  intro p e s m args below meth cd X hr hk
  refine j_L (L' := [(0, .ref (ad 124))]) rfl ?_
  unfold p_Mo_backOne at hp
  refine j_aload_n X d_Mo_backOne_0 0 rfl ?_
  refine j_get X fd_Mo_63_Mo 124 (by omega) y_Mo rfl d_Mo_backOne_1 ?_
  refine j_iconst X (v := 1) d_Mo_backOne_4 (by decide) ?_
  refine j_isub X d_Mo_backOne_5 ?_
  refine j_istore_n X d_Mo_backOne_6 [(1, .int ((gI S 124 12) - 1)), (0, .ref (ad 124))] (by decide) rfl ?_
  refine j_aload_n X d_Mo_backOne_7 1 rfl ?_
  refine j_iload_n X d_Mo_backOne_8 0 rfl ?_
  obtain ⟨o1, hp⟩ := hp
  refine j_callV (st := []) X 124 (by omega) hY_Mo_account (c_Mo_account l D aC ad n hn c0 S ((gI S 124 12) - 1)  o1) mw_727 hI_Mo_account hS_Mo_account y_Mo rfl rfl rfl (Nat.le_of_ble_eq_true rfl) d_Mo_backOne_9 rfl rfl ⟨by decide, by decide⟩ ⟨Nat.zero_le _, Nat.zero_le _⟩ (j_st (st' := []) rfl ?_)
  refine y_gen (fun S2 e3 => ?_)
  replace hp := hp S2 e3
  replace hF := hF.trans (px_let_eq e3)
  refine j_iload_n X d_Mo_backOne_12 0 rfl ?_
  refine j_if_ne X (tgt := 24) d_Mo_backOne_13 (by decide) (fun h4 => ?_) (fun h4 => ?_)
  · replace hp := hp.2 h4
    replace hF := hF.trans (if_neg h4)
    refine j_aload_n X d_Mo_backOne_24 1 rfl ?_
    refine j_iload_n X d_Mo_backOne_25 0 rfl ?_
    refine j_iconst X (v := 1) d_Mo_backOne_26 (by decide) ?_
    refine j_isub X d_Mo_backOne_27 ?_
    obtain ⟨o8, hp⟩ := hp
    refine j_callV (st := []) X 124 (by omega) hY_Mo_seek (c_Mo_seek l D aC ad n hn c0 S2 (((gI S 124 12) - 1) - 1)  o8) mw_731 hI_Mo_seek hS_Mo_seek y_Mo rfl rfl rfl (Nat.le_of_ble_eq_true rfl) d_Mo_backOne_28 rfl rfl ⟨by decide, by decide⟩ ⟨Nat.zero_le _, Nat.zero_le _⟩ (j_st (st' := []) rfl ?_)
    refine y_gen (fun S9 e10 => ?_)
    replace hp := hp S9 e10
    replace hF := hF.trans (px_let_eq e10)
    refine j_aload_n X d_Mo_backOne_31 1 rfl ?_
    obtain ⟨o11, hp⟩ := hp
    refine j_callV (st := []) X 124 (by omega) hY_Mo_remember (c_Mo_remember l D aC ad n hn c0 S9   o11) mw_715 hI_Mo_remember hS_Mo_remember y_Mo rfl rfl rfl (Nat.le_of_ble_eq_true rfl) d_Mo_backOne_32 rfl rfl ⟨by decide, by decide⟩ ⟨Nat.zero_le _, Nat.zero_le _⟩ (j_st (st' := []) rfl ?_)
    refine y_gen (fun S12 e13 => ?_)
    replace hp := hp S12 e13
    replace hF := hF.trans (px_let_eq e13)
    refine j_aload_n X d_Mo_backOne_35 1 rfl ?_
    refine j_iload_n X d_Mo_backOne_36 0 rfl ?_
    obtain ⟨o14, hp⟩ := hp
    refine j_callV (st := []) X 124 (by omega) hY_Mo_seek (c_Mo_seek l D aC ad n hn c0 S12 ((gI S 124 12) - 1)  o14) mw_731 hI_Mo_seek hS_Mo_seek y_Mo rfl rfl rfl (Nat.le_of_ble_eq_true rfl) d_Mo_backOne_37 rfl rfl ⟨by decide, by decide⟩ ⟨Nat.zero_le _, Nat.zero_le _⟩ (j_st (st' := []) rfl ?_)
    refine y_gen (fun S15 e16 => ?_)
    replace hp := hp S15 e16
    replace hF := hF.trans (px_let_eq e16)
    refine j_aload_n X d_Mo_backOne_40 1 rfl ?_
    obtain ⟨o17, hp⟩ := hp
    refine j_callV (st := []) X 124 (by omega) hY_Mo_stop (c_Mo_stop l D aC ad n hn c0 S15   o17) mw_719 hI_Mo_stop hS_Mo_stop y_Mo rfl rfl rfl (Nat.le_of_ble_eq_true rfl) d_Mo_backOne_41 rfl rfl ⟨by decide, by decide⟩ ⟨Nat.zero_le _, Nat.zero_le _⟩ (j_st (st' := [.int (f_Mo_stop S15)]) rfl ?_)
    refine j_topi (fun r18 e19 => ?_)
    replace hp := hp r18 e19
    replace hF := hF.trans (px_let_eq e19)
    exact j_iret X hr hk (by rw [hF]) (by rw [hF]) d_Mo_backOne_44
  · replace hp := hp.1 h4
    replace hF := hF.trans (if_pos h4)
    refine j_aload_n X d_Mo_backOne_16 1 rfl ?_
    refine j_iconst X (v := 0) d_Mo_backOne_17 (by decide) ?_
    obtain ⟨o5, hp⟩ := hp
    refine j_callV (st := []) X 124 (by omega) hY_Mo_seek (c_Mo_seek l D aC ad n hn c0 S2 0  o5) mw_731 hI_Mo_seek hS_Mo_seek y_Mo rfl rfl rfl (Nat.le_of_ble_eq_true rfl) d_Mo_backOne_18 rfl rfl ⟨by decide, by decide⟩ ⟨Nat.zero_le _, Nat.zero_le _⟩ (j_st (st' := []) rfl ?_)
    refine y_gen (fun S6 e7 => ?_)
    replace hp := hp S6 e7
    replace hF := hF.trans (px_let_eq e7)
    refine j_bipush X (v := 12) d_Mo_backOne_21 (by decide) ?_
    exact j_iret X hr hk (by rw [hF]) (by rw [hF]) d_Mo_backOne_23
def g_Mo_back  : Nat → xS → Int32 → Int32 → Int32 → Int32 × xS
  | 0, S, _, _, _ => ((0 : Int32), S)
  | k + 1, S, t, u, v => if t ≤ v then if u = 0 then (11, S) else (u, S) else if u = 0 then px_let ((f_Mo_backOne S ).2) (fun S5 : xS => px_let ((f_Mo_backOne S).1) (fun r7 : Int32 => g_Mo_back k S5 t r7 (v + 1))) else if u = 0 then (11, S) else (u, S)
def q_Mo_back  : Nat → xS → Int32 → Int32 → Int32 → Prop
  | 0, _, _, _, _ => False
  | k + 1, S, t, u, v => (t ≤ v → (u = 0 → True) ∧ (¬ u = 0 → True)) ∧ (¬ t ≤ v → (u = 0 → (p_Mo_backOne S) ∧ ((∀ S5 : xS, S5 = (f_Mo_backOne S ).2 → (∀ r7 : Int32, r7 = ((f_Mo_backOne S).1) → q_Mo_back k S5 t r7 (v + 1))))) ∧ (¬ u = 0 → (u = 0 → True) ∧ (¬ u = 0 → True)))
def f_Mo_back (S : xS) (t : Int32) : Int32 × xS := if t < 0 then px_let (sI S 124 10 1) (fun S2 : xS => if (gI S2 124 10) ≤ 0 then px_let (sI S2 124 20 0) (fun S5 : xS => if (gI S5 124 12) = 0 then g_Mo_back 1001 S5 t 12 0 else g_Mo_back 1001 S5 t 0 0) else (0, S2)) else if t ≤ 1000 then px_let (sI S 124 10 0) (fun S9 : xS => if (gI S9 124 10) ≤ 0 then px_let (sI S9 124 20 0) (fun S12 : xS => if (gI S12 124 12) = 0 then g_Mo_back 1001 S12 t 12 0 else g_Mo_back 1001 S12 t 0 0) else (0, S9)) else px_let (sI S 124 10 1) (fun S15 : xS => if (gI S15 124 10) ≤ 0 then px_let (sI S15 124 20 0) (fun S18 : xS => if (gI S18 124 12) = 0 then g_Mo_back 1001 S18 t 12 0 else g_Mo_back 1001 S18 t 0 0) else (0, S15))
def p_Mo_back (S : xS) (t : Int32) : Prop := (t < 0 → (∀ S2 : xS, S2 = sI S 124 10 1 → ((gI S2 124 10) ≤ 0 → (∀ S5 : xS, S5 = sI S2 124 20 0 → ((gI S5 124 12) = 0 → q_Mo_back 1001 S5 t 12 0) ∧ (¬ (gI S5 124 12) = 0 → q_Mo_back 1001 S5 t 0 0))) ∧ (¬ (gI S2 124 10) ≤ 0 → True))) ∧ (¬ t < 0 → (t ≤ 1000 → (∀ S9 : xS, S9 = sI S 124 10 0 → ((gI S9 124 10) ≤ 0 → (∀ S12 : xS, S12 = sI S9 124 20 0 → ((gI S12 124 12) = 0 → q_Mo_back 1001 S12 t 12 0) ∧ (¬ (gI S12 124 12) = 0 → q_Mo_back 1001 S12 t 0 0))) ∧ (¬ (gI S9 124 10) ≤ 0 → True))) ∧ (¬ t ≤ 1000 → (∀ S15 : xS, S15 = sI S 124 10 1 → ((gI S15 124 10) ≤ 0 → (∀ S18 : xS, S18 = sI S15 124 20 0 → ((gI S18 124 12) = 0 → q_Mo_back 1001 S18 t 12 0) ∧ (¬ (gI S18 124 12) = 0 → q_Mo_back 1001 S18 t 0 0))) ∧ (¬ (gI S15 124 10) ≤ 0 → True))))
abbrev rm_Mo_back : Room := { frames := 5, cells := 0, slots := 0, locals := 110 }
set_option maxHeartbeats 4000000 in
set_option maxRecDepth 100000 in
theorem w_Mo_back (l : Launch) (D : va_G) (aC : Nat → ClassId) (ad : Nat → Nat) (n : Nat) (hn : 135 ≤ n) (c0 : Nat → va_E)   {p : Program} {e : Env} {s : State} {m : MethodId} {args : Array Value} {below : List Frame} {meth : Method} {cd : Code} (X : px_X p s m args cd b_Mo_back 4 WS y_Mo_back.cls GG D CLS (TYS aC) (px_A ad n s.heap.size) ad n) (hr : meth.sig.returnType = (some .int)) (hk : meth.locks = false) : ∀ (k : Nat) (S : xS) (t : Int32) (u : Int32) (v : Int32), q_Mo_back  k S t u v → ∀ F, F = g_Mo_back  k S t u v → px_J p l e rm_Mo_back s m args below meth cd D CLS (px_A ad n s.heap.size) ad n 4 0 0 (MQ below (px_Qc D CLS ad n s.heap.size (some (.int F.1)) (ye aC ad F.2 c0)) args s 0 0 (px_A ad n s.heap.size)) (ye aC ad S c0) 50 [(0, .ref (ad 124)), (1, .int t), (2, .int u), (3, .int v)] [] := by
  intro k
  induction k with
  | zero => intro S t u v hp; exact hp.elim
  | succ k ih =>
    intro S t u v hp F hF
    rw [q_Mo_back] at hp
    rw [g_Mo_back] at hF
    refine j_iload_n X d_Mo_back_50 3 rfl ?_
    refine j_iload_n X d_Mo_back_51 1 rfl ?_
    refine j_icmp_ge X (tgt := 70) d_Mo_back_52 (by decide) (fun h1 => ?_) (fun h1 => ?_)
    · replace hp := hp.1 h1
      replace hF := hF.trans (if_pos h1)
      refine j_iload_n X d_Mo_back_70 2 rfl ?_
      refine j_if_ne X (tgt := 79) d_Mo_back_71 (by decide) (fun h2 => ?_) (fun h2 => ?_)
      · replace hp := hp.2 h2
        replace hF := hF.trans (if_neg h2)
        refine j_iload_n X d_Mo_back_79 2 rfl ?_
        exact j_iret X hr hk (by rw [hF]) (by rw [hF]) d_Mo_back_80
      · replace hp := hp.1 h2
        replace hF := hF.trans (if_pos h2)
        refine j_bipush X (v := 11) d_Mo_back_74 (by decide) ?_
        refine j_goto X (tgt := 80) d_Mo_back_76 (by decide) ?_
        exact j_iret X hr hk (by rw [hF]) (by rw [hF]) d_Mo_back_80
    · replace hp := hp.2 h1
      replace hF := hF.trans (if_neg h1)
      refine j_iload_n X d_Mo_back_55 2 rfl ?_
      refine j_if_ne X (tgt := 70) d_Mo_back_56 (by decide) (fun h3 => ?_) (fun h3 => ?_)
      · replace hp := hp.2 h3
        replace hF := hF.trans (if_neg h3)
        refine j_iload_n X d_Mo_back_70 2 rfl ?_
        refine j_if_ne X (tgt := 79) d_Mo_back_71 (by decide) (fun h9 => ?_) (fun h9 => ?_)
        · replace hp := hp.2 h9
          replace hF := hF.trans (if_neg h9)
          refine j_iload_n X d_Mo_back_79 2 rfl ?_
          exact j_iret X hr hk (by rw [hF]) (by rw [hF]) d_Mo_back_80
        · replace hp := hp.1 h9
          replace hF := hF.trans (if_pos h9)
          refine j_bipush X (v := 11) d_Mo_back_74 (by decide) ?_
          refine j_goto X (tgt := 80) d_Mo_back_76 (by decide) ?_
          exact j_iret X hr hk (by rw [hF]) (by rw [hF]) d_Mo_back_80
      · replace hp := hp.1 h3
        replace hF := hF.trans (if_pos h3)
        refine j_aload_n X d_Mo_back_59 0 rfl ?_
        obtain ⟨o4, hp⟩ := hp
        refine j_callV (st := []) X 124 (by omega) hY_Mo_backOne (c_Mo_backOne l D aC ad n hn c0 S   o4) mw_739 hI_Mo_backOne hS_Mo_backOne y_Mo rfl rfl rfl (Nat.le_of_ble_eq_true rfl) d_Mo_back_60 rfl rfl ⟨by decide, by decide⟩ ⟨Nat.zero_le _, Nat.zero_le _⟩ (j_st (st' := [.int ((f_Mo_backOne S).1)]) rfl ?_)
        refine y_gen (fun S5 e6 => ?_)
        replace hp := hp S5 e6
        replace hF := hF.trans (px_let_eq e6)
        refine j_topi (fun r7 e8 => ?_)
        replace hp := hp r7 e8
        replace hF := hF.trans (px_let_eq e8)
        refine j_istore_n X d_Mo_back_63 [(2, .int r7), (0, .ref (ad 124)), (1, .int t), (3, .int v)] (by decide) rfl ?_
        refine j_iinc X d_Mo_back_64 3 [(3, .int (v + 1)), (2, .int r7), (0, .ref (ad 124)), (1, .int t)] rfl rfl (by decide) rfl ?_
        refine j_goto X (tgt := 50) d_Mo_back_67 (by decide) ?_
        refine j_sub (L' := [(0, .ref (ad 124)), (1, .int t), (2, .int r7), (3, .int (v + 1))]) [2, 3, 1, 0] rfl ?_
        exact ih S5 t r7 (v + 1) hp F hF
set_option maxHeartbeats 4000000 in
set_option maxRecDepth 100000 in
theorem c_Mo_back (l : Launch) (D : va_G) (aC : Nat → ClassId) (ad : Nat → Nat) (n : Nat) (hn : 135 ≤ n) (c0 : Nat → va_E) (S : xS) (t : Int32)  (hp : p_Mo_back S t) : px_M l y_Mo_back (Cond.code y_Mo_back b_Mo_back 4 (some .int) :: WS) rm_Mo_back GG D CLS (TYS aC) [.ref (ad 124), .int t] ad (ye aC ad S c0) n (some (.int (f_Mo_back S t).1)) (ye aC ad (f_Mo_back S t).2 c0) := by
  obtain ⟨F, hF⟩ : ∃ F, F = f_Mo_back S t := ⟨_, rfl⟩
  rw [← hF]
  unfold f_Mo_back at hF
  refine px_start GG_k (by decide) (Nat.le_of_ble_eq_true rfl) ?_
  intro p e s m args below meth cd X hr hk
  refine j_L (L' := [(0, .ref (ad 124)), (1, .int t)]) rfl ?_
  unfold p_Mo_back at hp
  refine j_aload_n X d_Mo_back_0 0 rfl ?_
  refine j_iload_n X d_Mo_back_1 1 rfl ?_
  refine j_if_lt X (tgt := 12) d_Mo_back_2 (by decide) (fun h1 => ?_) (fun h1 => ?_)
  · replace hp := hp.1 h1
    replace hF := hF.trans (if_pos h1)
    refine j_iconst X (v := 1) d_Mo_back_12 (by decide) ?_
    refine j_goto X (tgt := 17) d_Mo_back_13 (by decide) ?_
    refine j_put X fp_Mo_54_Mo 124 (by omega) y_Mo (Nat.le_of_ble_eq_true rfl) rfl rfl d_Mo_back_17 (j_w (y_put_10) ?_)
    refine y_gen (fun S2 e3 => ?_)
    replace hp := hp S2 e3
    replace hF := hF.trans (px_let_eq e3)
    refine j_aload_n X d_Mo_back_20 0 rfl ?_
    refine j_get X fd_Mo_54_Mo 124 (by omega) y_Mo rfl d_Mo_back_21 ?_
    refine j_if_le X (tgt := 29) d_Mo_back_24 (by decide) (fun h4 => ?_) (fun h4 => ?_)
    · replace hp := hp.1 h4
      replace hF := hF.trans (if_pos h4)
      refine j_aload_n X d_Mo_back_29 0 rfl ?_
      refine j_iconst X (v := 0) d_Mo_back_30 (by decide) ?_
      refine j_put X fp_Mo_128_Mo 124 (by omega) y_Mo (Nat.le_of_ble_eq_true rfl) rfl rfl d_Mo_back_31 (j_w (y_put_20) ?_)
      refine y_gen (fun S5 e6 => ?_)
      replace hp := hp S5 e6
      replace hF := hF.trans (px_let_eq e6)
      refine j_aload_n X d_Mo_back_34 0 rfl ?_
      refine j_get X fd_Mo_63_Mo 124 (by omega) y_Mo rfl d_Mo_back_35 ?_
      refine j_if_ne X (tgt := 46) d_Mo_back_38 (by decide) (fun h7 => ?_) (fun h7 => ?_)
      · replace hp := hp.2 h7
        replace hF := hF.trans (if_neg h7)
        refine j_iconst X (v := 0) d_Mo_back_46 (by decide) ?_
        refine j_istore_n X d_Mo_back_47 [(2, .int 0), (0, .ref (ad 124)), (1, .int t)] (by decide) rfl ?_
        refine j_iconst X (v := 0) d_Mo_back_48 (by decide) ?_
        refine j_istore_n X d_Mo_back_49 [(3, .int 0), (2, .int 0), (0, .ref (ad 124)), (1, .int t)] (by decide) rfl ?_
        refine j_sub (L' := [(0, .ref (ad 124)), (1, .int t), (2, .int 0), (3, .int 0)]) [2, 3, 1, 0] rfl ?_
        exact w_Mo_back l D aC ad n hn c0  X hr hk 1001 S5 t 0 0 hp F hF
      · replace hp := hp.1 h7
        replace hF := hF.trans (if_pos h7)
        refine j_bipush X (v := 12) d_Mo_back_41 (by decide) ?_
        refine j_goto X (tgt := 47) d_Mo_back_43 (by decide) ?_
        refine j_istore_n X d_Mo_back_47 [(2, .int 12), (0, .ref (ad 124)), (1, .int t)] (by decide) rfl ?_
        refine j_iconst X (v := 0) d_Mo_back_48 (by decide) ?_
        refine j_istore_n X d_Mo_back_49 [(3, .int 0), (2, .int 12), (0, .ref (ad 124)), (1, .int t)] (by decide) rfl ?_
        refine j_sub (L' := [(0, .ref (ad 124)), (1, .int t), (2, .int 12), (3, .int 0)]) [2, 3, 1, 0] rfl ?_
        exact w_Mo_back l D aC ad n hn c0  X hr hk 1001 S5 t 12 0 hp F hF
    · replace hp := hp.2 h4
      replace hF := hF.trans (if_neg h4)
      refine j_iconst X (v := 0) d_Mo_back_27 (by decide) ?_
      exact j_iret X hr hk (by rw [hF]) (by rw [hF]) d_Mo_back_28
  · replace hp := hp.2 h1
    replace hF := hF.trans (if_neg h1)
    refine j_iload_n X d_Mo_back_5 1 rfl ?_
    refine j_sipush X (v := 1000) d_Mo_back_6 (by decide) ?_
    refine j_icmp_le X (tgt := 16) d_Mo_back_9 (by decide) (fun h8 => ?_) (fun h8 => ?_)
    · replace hp := hp.1 h8
      replace hF := hF.trans (if_pos h8)
      refine j_iconst X (v := 0) d_Mo_back_16 (by decide) ?_
      refine j_put X fp_Mo_54_Mo 124 (by omega) y_Mo (Nat.le_of_ble_eq_true rfl) rfl rfl d_Mo_back_17 (j_w (y_put_10) ?_)
      refine y_gen (fun S9 e10 => ?_)
      replace hp := hp S9 e10
      replace hF := hF.trans (px_let_eq e10)
      refine j_aload_n X d_Mo_back_20 0 rfl ?_
      refine j_get X fd_Mo_54_Mo 124 (by omega) y_Mo rfl d_Mo_back_21 ?_
      refine j_if_le X (tgt := 29) d_Mo_back_24 (by decide) (fun h11 => ?_) (fun h11 => ?_)
      · replace hp := hp.1 h11
        replace hF := hF.trans (if_pos h11)
        refine j_aload_n X d_Mo_back_29 0 rfl ?_
        refine j_iconst X (v := 0) d_Mo_back_30 (by decide) ?_
        refine j_put X fp_Mo_128_Mo 124 (by omega) y_Mo (Nat.le_of_ble_eq_true rfl) rfl rfl d_Mo_back_31 (j_w (y_put_20) ?_)
        refine y_gen (fun S12 e13 => ?_)
        replace hp := hp S12 e13
        replace hF := hF.trans (px_let_eq e13)
        refine j_aload_n X d_Mo_back_34 0 rfl ?_
        refine j_get X fd_Mo_63_Mo 124 (by omega) y_Mo rfl d_Mo_back_35 ?_
        refine j_if_ne X (tgt := 46) d_Mo_back_38 (by decide) (fun h14 => ?_) (fun h14 => ?_)
        · replace hp := hp.2 h14
          replace hF := hF.trans (if_neg h14)
          refine j_iconst X (v := 0) d_Mo_back_46 (by decide) ?_
          refine j_istore_n X d_Mo_back_47 [(2, .int 0), (0, .ref (ad 124)), (1, .int t)] (by decide) rfl ?_
          refine j_iconst X (v := 0) d_Mo_back_48 (by decide) ?_
          refine j_istore_n X d_Mo_back_49 [(3, .int 0), (2, .int 0), (0, .ref (ad 124)), (1, .int t)] (by decide) rfl ?_
          refine j_sub (L' := [(0, .ref (ad 124)), (1, .int t), (2, .int 0), (3, .int 0)]) [2, 3, 1, 0] rfl ?_
          exact w_Mo_back l D aC ad n hn c0  X hr hk 1001 S12 t 0 0 hp F hF
        · replace hp := hp.1 h14
          replace hF := hF.trans (if_pos h14)
          refine j_bipush X (v := 12) d_Mo_back_41 (by decide) ?_
          refine j_goto X (tgt := 47) d_Mo_back_43 (by decide) ?_
          refine j_istore_n X d_Mo_back_47 [(2, .int 12), (0, .ref (ad 124)), (1, .int t)] (by decide) rfl ?_
          refine j_iconst X (v := 0) d_Mo_back_48 (by decide) ?_
          refine j_istore_n X d_Mo_back_49 [(3, .int 0), (2, .int 12), (0, .ref (ad 124)), (1, .int t)] (by decide) rfl ?_
          refine j_sub (L' := [(0, .ref (ad 124)), (1, .int t), (2, .int 12), (3, .int 0)]) [2, 3, 1, 0] rfl ?_
          exact w_Mo_back l D aC ad n hn c0  X hr hk 1001 S12 t 12 0 hp F hF
      · replace hp := hp.2 h11
        replace hF := hF.trans (if_neg h11)
        refine j_iconst X (v := 0) d_Mo_back_27 (by decide) ?_
        exact j_iret X hr hk (by rw [hF]) (by rw [hF]) d_Mo_back_28
    · replace hp := hp.2 h8
      replace hF := hF.trans (if_neg h8)
      refine j_iconst X (v := 1) d_Mo_back_12 (by decide) ?_
      refine j_goto X (tgt := 17) d_Mo_back_13 (by decide) ?_
      refine j_put X fp_Mo_54_Mo 124 (by omega) y_Mo (Nat.le_of_ble_eq_true rfl) rfl rfl d_Mo_back_17 (j_w (y_put_10) ?_)
      refine y_gen (fun S15 e16 => ?_)
      replace hp := hp S15 e16
      replace hF := hF.trans (px_let_eq e16)
      refine j_aload_n X d_Mo_back_20 0 rfl ?_
      refine j_get X fd_Mo_54_Mo 124 (by omega) y_Mo rfl d_Mo_back_21 ?_
      refine j_if_le X (tgt := 29) d_Mo_back_24 (by decide) (fun h17 => ?_) (fun h17 => ?_)
      · replace hp := hp.1 h17
        replace hF := hF.trans (if_pos h17)
        refine j_aload_n X d_Mo_back_29 0 rfl ?_
        refine j_iconst X (v := 0) d_Mo_back_30 (by decide) ?_
        refine j_put X fp_Mo_128_Mo 124 (by omega) y_Mo (Nat.le_of_ble_eq_true rfl) rfl rfl d_Mo_back_31 (j_w (y_put_20) ?_)
        refine y_gen (fun S18 e19 => ?_)
        replace hp := hp S18 e19
        replace hF := hF.trans (px_let_eq e19)
        refine j_aload_n X d_Mo_back_34 0 rfl ?_
        refine j_get X fd_Mo_63_Mo 124 (by omega) y_Mo rfl d_Mo_back_35 ?_
        refine j_if_ne X (tgt := 46) d_Mo_back_38 (by decide) (fun h20 => ?_) (fun h20 => ?_)
        · replace hp := hp.2 h20
          replace hF := hF.trans (if_neg h20)
          refine j_iconst X (v := 0) d_Mo_back_46 (by decide) ?_
          refine j_istore_n X d_Mo_back_47 [(2, .int 0), (0, .ref (ad 124)), (1, .int t)] (by decide) rfl ?_
          refine j_iconst X (v := 0) d_Mo_back_48 (by decide) ?_
          refine j_istore_n X d_Mo_back_49 [(3, .int 0), (2, .int 0), (0, .ref (ad 124)), (1, .int t)] (by decide) rfl ?_
          refine j_sub (L' := [(0, .ref (ad 124)), (1, .int t), (2, .int 0), (3, .int 0)]) [2, 3, 1, 0] rfl ?_
          exact w_Mo_back l D aC ad n hn c0  X hr hk 1001 S18 t 0 0 hp F hF
        · replace hp := hp.1 h20
          replace hF := hF.trans (if_pos h20)
          refine j_bipush X (v := 12) d_Mo_back_41 (by decide) ?_
          refine j_goto X (tgt := 47) d_Mo_back_43 (by decide) ?_
          refine j_istore_n X d_Mo_back_47 [(2, .int 12), (0, .ref (ad 124)), (1, .int t)] (by decide) rfl ?_
          refine j_iconst X (v := 0) d_Mo_back_48 (by decide) ?_
          refine j_istore_n X d_Mo_back_49 [(3, .int 0), (2, .int 12), (0, .ref (ad 124)), (1, .int t)] (by decide) rfl ?_
          refine j_sub (L' := [(0, .ref (ad 124)), (1, .int t), (2, .int 12), (3, .int 0)]) [2, 3, 1, 0] rfl ?_
          exact w_Mo_back l D aC ad n hn c0  X hr hk 1001 S18 t 12 0 hp F hF
      · replace hp := hp.2 h17
        replace hF := hF.trans (if_neg h17)
        refine j_iconst X (v := 0) d_Mo_back_27 (by decide) ?_
        exact j_iret X hr hk (by rw [hF]) (by rw [hF]) d_Mo_back_28
def f_Mo_setBreak (S : xS) (a : Int32) : Int32 × xS := px_let (f_Mo_outside a 64) (fun r1 : Int32 => if r1 = 0 then px_let (sI S 124 10 0) (fun S4 : xS => if 0 < (gI S4 124 10) then (0, S4) else if (gR S4 127 a.toNatClampNeg) = 0 then px_let (sR S4 127 (upd (gR S4 127) a.toNatClampNeg (vp_nar .boolean 1))) (fun S9 : xS => (1, S9)) else (0, S4)) else px_let (sI S 124 10 1) (fun S12 : xS => if 0 < (gI S12 124 10) then (0, S12) else if (gR S12 127 a.toNatClampNeg) = 0 then px_let (sR S12 127 (upd (gR S12 127) a.toNatClampNeg (vp_nar .boolean 1))) (fun S17 : xS => (1, S17)) else (0, S12)))
def p_Mo_setBreak (S : xS) (a : Int32) : Prop := (∀ r1 : Int32, r1 = (f_Mo_outside a 64) → (r1 = 0 → (∀ S4 : xS, S4 = sI S 124 10 0 → (0 < (gI S4 124 10) → True) ∧ (¬ 0 < (gI S4 124 10) → (vp_in a 64) ∧ (((gR S4 127 a.toNatClampNeg) = 0 → (vp_in a 64) ∧ ((∀ S9 : xS, S9 = sR S4 127 (upd (gR S4 127) a.toNatClampNeg (vp_nar .boolean 1)) → True))) ∧ (¬ (gR S4 127 a.toNatClampNeg) = 0 → True))))) ∧ (¬ r1 = 0 → (∀ S12 : xS, S12 = sI S 124 10 1 → (0 < (gI S12 124 10) → True) ∧ (¬ 0 < (gI S12 124 10) → (vp_in a 64) ∧ (((gR S12 127 a.toNatClampNeg) = 0 → (vp_in a 64) ∧ ((∀ S17 : xS, S17 = sR S12 127 (upd (gR S12 127) a.toNatClampNeg (vp_nar .boolean 1)) → True))) ∧ (¬ (gR S12 127 a.toNatClampNeg) = 0 → True))))))
abbrev rm_Mo_setBreak : Room := { frames := 1, cells := 0, slots := 0, locals := 21 }
set_option maxHeartbeats 4000000 in
set_option maxRecDepth 100000 in
theorem c_Mo_setBreak (l : Launch) (D : va_G) (aC : Nat → ClassId) (ad : Nat → Nat) (n : Nat) (hn : 135 ≤ n) (c0 : Nat → va_E) (S : xS) (a : Int32)  (hp : p_Mo_setBreak S a) : px_M l y_Mo_setBreak (Cond.code y_Mo_setBreak b_Mo_setBreak 2 (some .boolean) :: WS) rm_Mo_setBreak GG D CLS (TYS aC) [.ref (ad 124), .int a] ad (ye aC ad S c0) n (some (.int (f_Mo_setBreak S a).1)) (ye aC ad (f_Mo_setBreak S a).2 c0) := by
  obtain ⟨F, hF⟩ : ∃ F, F = f_Mo_setBreak S a := ⟨_, rfl⟩
  rw [← hF]
  unfold f_Mo_setBreak at hF
  refine px_start GG_k (by decide) (Nat.le_of_ble_eq_true rfl) ?_
  intro p e s m args below meth cd X hr hk
  refine j_L (L' := [(0, .ref (ad 124)), (1, .int a)]) rfl ?_
  unfold p_Mo_setBreak at hp
  refine j_aload_n X d_Mo_setBreak_0 0 rfl ?_
  refine j_iload_n X d_Mo_setBreak_1 1 rfl ?_
  refine j_bipush X (v := 64) d_Mo_setBreak_2 (by decide) ?_
  refine j_callP (st := [.ref (ad 124)]) X hY_Mo_outside (c_Mo_outside l a 64 ) mw_747 hT_Mo_outside rfl rfl (Nat.le_of_ble_eq_true rfl) d_Mo_setBreak_4 rfl rfl ⟨by decide, by decide⟩ ⟨Nat.zero_le _, Nat.zero_le _⟩ (j_st (st' := [.int (f_Mo_outside a 64), .ref (ad 124)]) rfl ?_)
  refine j_topi (fun r1 e2 => ?_)
  replace hp := hp r1 e2
  replace hF := hF.trans (px_let_eq e2)
  refine j_if_eq X (tgt := 14) d_Mo_setBreak_7 (by decide) (fun h3 => ?_) (fun h3 => ?_)
  · replace hp := hp.1 h3
    replace hF := hF.trans (if_pos h3)
    refine j_iconst X (v := 0) d_Mo_setBreak_14 (by decide) ?_
    refine j_put X fp_Mo_54_Mo 124 (by omega) y_Mo (Nat.le_of_ble_eq_true rfl) rfl rfl d_Mo_setBreak_15 (j_w (y_put_10) ?_)
    refine y_gen (fun S4 e5 => ?_)
    replace hp := hp S4 e5
    replace hF := hF.trans (px_let_eq e5)
    refine j_aload_n X d_Mo_setBreak_18 0 rfl ?_
    refine j_get X fd_Mo_54_Mo 124 (by omega) y_Mo rfl d_Mo_setBreak_19 ?_
    refine j_if_gt X (tgt := 34) d_Mo_setBreak_22 (by decide) (fun h6 => ?_) (fun h6 => ?_)
    · replace hp := hp.1 h6
      replace hF := hF.trans (if_pos h6)
      refine j_iconst X (v := 0) d_Mo_setBreak_34 (by decide) ?_
      exact j_zret X hr hk rfl (by rw [hF]) (by rw [hF]) d_Mo_setBreak_35
    · replace hp := hp.2 h6
      replace hF := hF.trans (if_neg h6)
      refine j_aload_n X d_Mo_setBreak_25 0 rfl ?_
      refine j_get X fd_Mo_16_Mo 124 (by omega) y_Mo rfl d_Mo_setBreak_26 ?_
      refine j_iload_n X d_Mo_setBreak_29 1 rfl ?_
      obtain ⟨o7, hp⟩ := hp
      refine j_zald X 127 1 (by omega) y_breaks rfl o7 d_Mo_setBreak_30 ?_
      refine j_if_eq X (tgt := 36) d_Mo_setBreak_31 (by decide) (fun h8 => ?_) (fun h8 => ?_)
      · replace hp := hp.1 h8
        replace hF := hF.trans (if_pos h8)
        refine j_aload_n X d_Mo_setBreak_36 0 rfl ?_
        refine j_get X fd_Mo_16_Mo 124 (by omega) y_Mo rfl d_Mo_setBreak_37 ?_
        refine j_iload_n X d_Mo_setBreak_40 1 rfl ?_
        refine j_iconst X (v := 1) d_Mo_setBreak_41 (by decide) ?_
        obtain ⟨o11, hp⟩ := hp
        refine j_zast X 127 1 (by omega) y_breaks rfl o11 d_Mo_setBreak_42 (j_w (y_ast_breaks) ?_)
        refine y_gen (fun S9 e10 => ?_)
        replace hp := hp S9 e10
        replace hF := hF.trans (px_let_eq e10)
        refine j_iconst X (v := 1) d_Mo_setBreak_43 (by decide) ?_
        exact j_zret X hr hk rfl (by rw [hF]) (by rw [hF]) d_Mo_setBreak_44
      · replace hp := hp.2 h8
        replace hF := hF.trans (if_neg h8)
        refine j_iconst X (v := 0) d_Mo_setBreak_34 (by decide) ?_
        exact j_zret X hr hk rfl (by rw [hF]) (by rw [hF]) d_Mo_setBreak_35
  · replace hp := hp.2 h3
    replace hF := hF.trans (if_neg h3)
    refine j_iconst X (v := 1) d_Mo_setBreak_10 (by decide) ?_
    refine j_goto X (tgt := 15) d_Mo_setBreak_11 (by decide) ?_
    refine j_put X fp_Mo_54_Mo 124 (by omega) y_Mo (Nat.le_of_ble_eq_true rfl) rfl rfl d_Mo_setBreak_15 (j_w (y_put_10) ?_)
    refine y_gen (fun S12 e13 => ?_)
    replace hp := hp S12 e13
    replace hF := hF.trans (px_let_eq e13)
    refine j_aload_n X d_Mo_setBreak_18 0 rfl ?_
    refine j_get X fd_Mo_54_Mo 124 (by omega) y_Mo rfl d_Mo_setBreak_19 ?_
    refine j_if_gt X (tgt := 34) d_Mo_setBreak_22 (by decide) (fun h14 => ?_) (fun h14 => ?_)
    · replace hp := hp.1 h14
      replace hF := hF.trans (if_pos h14)
      refine j_iconst X (v := 0) d_Mo_setBreak_34 (by decide) ?_
      exact j_zret X hr hk rfl (by rw [hF]) (by rw [hF]) d_Mo_setBreak_35
    · replace hp := hp.2 h14
      replace hF := hF.trans (if_neg h14)
      refine j_aload_n X d_Mo_setBreak_25 0 rfl ?_
      refine j_get X fd_Mo_16_Mo 124 (by omega) y_Mo rfl d_Mo_setBreak_26 ?_
      refine j_iload_n X d_Mo_setBreak_29 1 rfl ?_
      obtain ⟨o15, hp⟩ := hp
      refine j_zald X 127 1 (by omega) y_breaks rfl o15 d_Mo_setBreak_30 ?_
      refine j_if_eq X (tgt := 36) d_Mo_setBreak_31 (by decide) (fun h16 => ?_) (fun h16 => ?_)
      · replace hp := hp.1 h16
        replace hF := hF.trans (if_pos h16)
        refine j_aload_n X d_Mo_setBreak_36 0 rfl ?_
        refine j_get X fd_Mo_16_Mo 124 (by omega) y_Mo rfl d_Mo_setBreak_37 ?_
        refine j_iload_n X d_Mo_setBreak_40 1 rfl ?_
        refine j_iconst X (v := 1) d_Mo_setBreak_41 (by decide) ?_
        obtain ⟨o19, hp⟩ := hp
        refine j_zast X 127 1 (by omega) y_breaks rfl o19 d_Mo_setBreak_42 (j_w (y_ast_breaks) ?_)
        refine y_gen (fun S17 e18 => ?_)
        replace hp := hp S17 e18
        replace hF := hF.trans (px_let_eq e18)
        refine j_iconst X (v := 1) d_Mo_setBreak_43 (by decide) ?_
        exact j_zret X hr hk rfl (by rw [hF]) (by rw [hF]) d_Mo_setBreak_44
      · replace hp := hp.2 h16
        replace hF := hF.trans (if_neg h16)
        refine j_iconst X (v := 0) d_Mo_setBreak_34 (by decide) ?_
        exact j_zret X hr hk rfl (by rw [hF]) (by rw [hF]) d_Mo_setBreak_35
def f_Mo_clearBreak (S : xS) (a : Int32) : Int32 × xS := px_let (f_Mo_outside a 64) (fun r1 : Int32 => if r1 = 0 then px_let (sI S 124 10 0) (fun S4 : xS => if 0 < (gI S4 124 10) then (0, S4) else if (gR S4 127 a.toNatClampNeg) = 0 then (0, S4) else px_let (sR S4 127 (upd (gR S4 127) a.toNatClampNeg (vp_nar .boolean 0))) (fun S9 : xS => (1, S9))) else px_let (sI S 124 10 1) (fun S12 : xS => if 0 < (gI S12 124 10) then (0, S12) else if (gR S12 127 a.toNatClampNeg) = 0 then (0, S12) else px_let (sR S12 127 (upd (gR S12 127) a.toNatClampNeg (vp_nar .boolean 0))) (fun S17 : xS => (1, S17))))
def p_Mo_clearBreak (S : xS) (a : Int32) : Prop := (∀ r1 : Int32, r1 = (f_Mo_outside a 64) → (r1 = 0 → (∀ S4 : xS, S4 = sI S 124 10 0 → (0 < (gI S4 124 10) → True) ∧ (¬ 0 < (gI S4 124 10) → (vp_in a 64) ∧ (((gR S4 127 a.toNatClampNeg) = 0 → True) ∧ (¬ (gR S4 127 a.toNatClampNeg) = 0 → (vp_in a 64) ∧ ((∀ S9 : xS, S9 = sR S4 127 (upd (gR S4 127) a.toNatClampNeg (vp_nar .boolean 0)) → True))))))) ∧ (¬ r1 = 0 → (∀ S12 : xS, S12 = sI S 124 10 1 → (0 < (gI S12 124 10) → True) ∧ (¬ 0 < (gI S12 124 10) → (vp_in a 64) ∧ (((gR S12 127 a.toNatClampNeg) = 0 → True) ∧ (¬ (gR S12 127 a.toNatClampNeg) = 0 → (vp_in a 64) ∧ ((∀ S17 : xS, S17 = sR S12 127 (upd (gR S12 127) a.toNatClampNeg (vp_nar .boolean 0)) → True))))))))
abbrev rm_Mo_clearBreak : Room := { frames := 1, cells := 0, slots := 0, locals := 21 }
set_option maxHeartbeats 4000000 in
set_option maxRecDepth 100000 in
theorem c_Mo_clearBreak (l : Launch) (D : va_G) (aC : Nat → ClassId) (ad : Nat → Nat) (n : Nat) (hn : 135 ≤ n) (c0 : Nat → va_E) (S : xS) (a : Int32)  (hp : p_Mo_clearBreak S a) : px_M l y_Mo_clearBreak (Cond.code y_Mo_clearBreak b_Mo_clearBreak 2 (some .boolean) :: WS) rm_Mo_clearBreak GG D CLS (TYS aC) [.ref (ad 124), .int a] ad (ye aC ad S c0) n (some (.int (f_Mo_clearBreak S a).1)) (ye aC ad (f_Mo_clearBreak S a).2 c0) := by
  obtain ⟨F, hF⟩ : ∃ F, F = f_Mo_clearBreak S a := ⟨_, rfl⟩
  rw [← hF]
  unfold f_Mo_clearBreak at hF
  refine px_start GG_k (by decide) (Nat.le_of_ble_eq_true rfl) ?_
  intro p e s m args below meth cd X hr hk
  refine j_L (L' := [(0, .ref (ad 124)), (1, .int a)]) rfl ?_
  unfold p_Mo_clearBreak at hp
  refine j_aload_n X d_Mo_clearBreak_0 0 rfl ?_
  refine j_iload_n X d_Mo_clearBreak_1 1 rfl ?_
  refine j_bipush X (v := 64) d_Mo_clearBreak_2 (by decide) ?_
  refine j_callP (st := [.ref (ad 124)]) X hY_Mo_outside (c_Mo_outside l a 64 ) mw_747 hT_Mo_outside rfl rfl (Nat.le_of_ble_eq_true rfl) d_Mo_clearBreak_4 rfl rfl ⟨by decide, by decide⟩ ⟨Nat.zero_le _, Nat.zero_le _⟩ (j_st (st' := [.int (f_Mo_outside a 64), .ref (ad 124)]) rfl ?_)
  refine j_topi (fun r1 e2 => ?_)
  replace hp := hp r1 e2
  replace hF := hF.trans (px_let_eq e2)
  refine j_if_eq X (tgt := 14) d_Mo_clearBreak_7 (by decide) (fun h3 => ?_) (fun h3 => ?_)
  · replace hp := hp.1 h3
    replace hF := hF.trans (if_pos h3)
    refine j_iconst X (v := 0) d_Mo_clearBreak_14 (by decide) ?_
    refine j_put X fp_Mo_54_Mo 124 (by omega) y_Mo (Nat.le_of_ble_eq_true rfl) rfl rfl d_Mo_clearBreak_15 (j_w (y_put_10) ?_)
    refine y_gen (fun S4 e5 => ?_)
    replace hp := hp S4 e5
    replace hF := hF.trans (px_let_eq e5)
    refine j_aload_n X d_Mo_clearBreak_18 0 rfl ?_
    refine j_get X fd_Mo_54_Mo 124 (by omega) y_Mo rfl d_Mo_clearBreak_19 ?_
    refine j_if_gt X (tgt := 34) d_Mo_clearBreak_22 (by decide) (fun h6 => ?_) (fun h6 => ?_)
    · replace hp := hp.1 h6
      replace hF := hF.trans (if_pos h6)
      refine j_iconst X (v := 0) d_Mo_clearBreak_34 (by decide) ?_
      exact j_zret X hr hk rfl (by rw [hF]) (by rw [hF]) d_Mo_clearBreak_35
    · replace hp := hp.2 h6
      replace hF := hF.trans (if_neg h6)
      refine j_aload_n X d_Mo_clearBreak_25 0 rfl ?_
      refine j_get X fd_Mo_16_Mo 124 (by omega) y_Mo rfl d_Mo_clearBreak_26 ?_
      refine j_iload_n X d_Mo_clearBreak_29 1 rfl ?_
      obtain ⟨o7, hp⟩ := hp
      refine j_zald X 127 1 (by omega) y_breaks rfl o7 d_Mo_clearBreak_30 ?_
      refine j_if_ne X (tgt := 36) d_Mo_clearBreak_31 (by decide) (fun h8 => ?_) (fun h8 => ?_)
      · replace hp := hp.2 h8
        replace hF := hF.trans (if_neg h8)
        refine j_aload_n X d_Mo_clearBreak_36 0 rfl ?_
        refine j_get X fd_Mo_16_Mo 124 (by omega) y_Mo rfl d_Mo_clearBreak_37 ?_
        refine j_iload_n X d_Mo_clearBreak_40 1 rfl ?_
        refine j_iconst X (v := 0) d_Mo_clearBreak_41 (by decide) ?_
        obtain ⟨o11, hp⟩ := hp
        refine j_zast X 127 1 (by omega) y_breaks rfl o11 d_Mo_clearBreak_42 (j_w (y_ast_breaks) ?_)
        refine y_gen (fun S9 e10 => ?_)
        replace hp := hp S9 e10
        replace hF := hF.trans (px_let_eq e10)
        refine j_iconst X (v := 1) d_Mo_clearBreak_43 (by decide) ?_
        exact j_zret X hr hk rfl (by rw [hF]) (by rw [hF]) d_Mo_clearBreak_44
      · replace hp := hp.1 h8
        replace hF := hF.trans (if_pos h8)
        refine j_iconst X (v := 0) d_Mo_clearBreak_34 (by decide) ?_
        exact j_zret X hr hk rfl (by rw [hF]) (by rw [hF]) d_Mo_clearBreak_35
  · replace hp := hp.2 h3
    replace hF := hF.trans (if_neg h3)
    refine j_iconst X (v := 1) d_Mo_clearBreak_10 (by decide) ?_
    refine j_goto X (tgt := 15) d_Mo_clearBreak_11 (by decide) ?_
    refine j_put X fp_Mo_54_Mo 124 (by omega) y_Mo (Nat.le_of_ble_eq_true rfl) rfl rfl d_Mo_clearBreak_15 (j_w (y_put_10) ?_)
    refine y_gen (fun S12 e13 => ?_)
    replace hp := hp S12 e13
    replace hF := hF.trans (px_let_eq e13)
    refine j_aload_n X d_Mo_clearBreak_18 0 rfl ?_
    refine j_get X fd_Mo_54_Mo 124 (by omega) y_Mo rfl d_Mo_clearBreak_19 ?_
    refine j_if_gt X (tgt := 34) d_Mo_clearBreak_22 (by decide) (fun h14 => ?_) (fun h14 => ?_)
    · replace hp := hp.1 h14
      replace hF := hF.trans (if_pos h14)
      refine j_iconst X (v := 0) d_Mo_clearBreak_34 (by decide) ?_
      exact j_zret X hr hk rfl (by rw [hF]) (by rw [hF]) d_Mo_clearBreak_35
    · replace hp := hp.2 h14
      replace hF := hF.trans (if_neg h14)
      refine j_aload_n X d_Mo_clearBreak_25 0 rfl ?_
      refine j_get X fd_Mo_16_Mo 124 (by omega) y_Mo rfl d_Mo_clearBreak_26 ?_
      refine j_iload_n X d_Mo_clearBreak_29 1 rfl ?_
      obtain ⟨o15, hp⟩ := hp
      refine j_zald X 127 1 (by omega) y_breaks rfl o15 d_Mo_clearBreak_30 ?_
      refine j_if_ne X (tgt := 36) d_Mo_clearBreak_31 (by decide) (fun h16 => ?_) (fun h16 => ?_)
      · replace hp := hp.2 h16
        replace hF := hF.trans (if_neg h16)
        refine j_aload_n X d_Mo_clearBreak_36 0 rfl ?_
        refine j_get X fd_Mo_16_Mo 124 (by omega) y_Mo rfl d_Mo_clearBreak_37 ?_
        refine j_iload_n X d_Mo_clearBreak_40 1 rfl ?_
        refine j_iconst X (v := 0) d_Mo_clearBreak_41 (by decide) ?_
        obtain ⟨o19, hp⟩ := hp
        refine j_zast X 127 1 (by omega) y_breaks rfl o19 d_Mo_clearBreak_42 (j_w (y_ast_breaks) ?_)
        refine y_gen (fun S17 e18 => ?_)
        replace hp := hp S17 e18
        replace hF := hF.trans (px_let_eq e18)
        refine j_iconst X (v := 1) d_Mo_clearBreak_43 (by decide) ?_
        exact j_zret X hr hk rfl (by rw [hF]) (by rw [hF]) d_Mo_clearBreak_44
      · replace hp := hp.1 h16
        replace hF := hF.trans (if_pos h16)
        refine j_iconst X (v := 0) d_Mo_clearBreak_34 (by decide) ?_
        exact j_zret X hr hk rfl (by rw [hF]) (by rw [hF]) d_Mo_clearBreak_35
def f_Mo_setWatch (S : xS) (a : Int32) : Int32 × xS := px_let (f_Mo_outside a 32) (fun r1 : Int32 => if r1 = 0 then px_let (sI S 124 10 0) (fun S4 : xS => if 0 < (gI S4 124 10) then (0, S4) else if (gR S4 128 a.toNatClampNeg) = 0 then px_let (sR S4 128 (upd (gR S4 128) a.toNatClampNeg (vp_nar .boolean 1))) (fun S9 : xS => (1, S9)) else (0, S4)) else px_let (sI S 124 10 1) (fun S12 : xS => if 0 < (gI S12 124 10) then (0, S12) else if (gR S12 128 a.toNatClampNeg) = 0 then px_let (sR S12 128 (upd (gR S12 128) a.toNatClampNeg (vp_nar .boolean 1))) (fun S17 : xS => (1, S17)) else (0, S12)))
def p_Mo_setWatch (S : xS) (a : Int32) : Prop := (∀ r1 : Int32, r1 = (f_Mo_outside a 32) → (r1 = 0 → (∀ S4 : xS, S4 = sI S 124 10 0 → (0 < (gI S4 124 10) → True) ∧ (¬ 0 < (gI S4 124 10) → (vp_in a 32) ∧ (((gR S4 128 a.toNatClampNeg) = 0 → (vp_in a 32) ∧ ((∀ S9 : xS, S9 = sR S4 128 (upd (gR S4 128) a.toNatClampNeg (vp_nar .boolean 1)) → True))) ∧ (¬ (gR S4 128 a.toNatClampNeg) = 0 → True))))) ∧ (¬ r1 = 0 → (∀ S12 : xS, S12 = sI S 124 10 1 → (0 < (gI S12 124 10) → True) ∧ (¬ 0 < (gI S12 124 10) → (vp_in a 32) ∧ (((gR S12 128 a.toNatClampNeg) = 0 → (vp_in a 32) ∧ ((∀ S17 : xS, S17 = sR S12 128 (upd (gR S12 128) a.toNatClampNeg (vp_nar .boolean 1)) → True))) ∧ (¬ (gR S12 128 a.toNatClampNeg) = 0 → True))))))
abbrev rm_Mo_setWatch : Room := { frames := 1, cells := 0, slots := 0, locals := 21 }
set_option maxHeartbeats 4000000 in
set_option maxRecDepth 100000 in
theorem c_Mo_setWatch (l : Launch) (D : va_G) (aC : Nat → ClassId) (ad : Nat → Nat) (n : Nat) (hn : 135 ≤ n) (c0 : Nat → va_E) (S : xS) (a : Int32)  (hp : p_Mo_setWatch S a) : px_M l y_Mo_setWatch (Cond.code y_Mo_setWatch b_Mo_setWatch 2 (some .boolean) :: WS) rm_Mo_setWatch GG D CLS (TYS aC) [.ref (ad 124), .int a] ad (ye aC ad S c0) n (some (.int (f_Mo_setWatch S a).1)) (ye aC ad (f_Mo_setWatch S a).2 c0) := by
  obtain ⟨F, hF⟩ : ∃ F, F = f_Mo_setWatch S a := ⟨_, rfl⟩
  rw [← hF]
  unfold f_Mo_setWatch at hF
  refine px_start GG_k (by decide) (Nat.le_of_ble_eq_true rfl) ?_
  intro p e s m args below meth cd X hr hk
  refine j_L (L' := [(0, .ref (ad 124)), (1, .int a)]) rfl ?_
  unfold p_Mo_setWatch at hp
  refine j_aload_n X d_Mo_setWatch_0 0 rfl ?_
  refine j_iload_n X d_Mo_setWatch_1 1 rfl ?_
  refine j_bipush X (v := 32) d_Mo_setWatch_2 (by decide) ?_
  refine j_callP (st := [.ref (ad 124)]) X hY_Mo_outside (c_Mo_outside l a 32 ) mw_747 hT_Mo_outside rfl rfl (Nat.le_of_ble_eq_true rfl) d_Mo_setWatch_4 rfl rfl ⟨by decide, by decide⟩ ⟨Nat.zero_le _, Nat.zero_le _⟩ (j_st (st' := [.int (f_Mo_outside a 32), .ref (ad 124)]) rfl ?_)
  refine j_topi (fun r1 e2 => ?_)
  replace hp := hp r1 e2
  replace hF := hF.trans (px_let_eq e2)
  refine j_if_eq X (tgt := 14) d_Mo_setWatch_7 (by decide) (fun h3 => ?_) (fun h3 => ?_)
  · replace hp := hp.1 h3
    replace hF := hF.trans (if_pos h3)
    refine j_iconst X (v := 0) d_Mo_setWatch_14 (by decide) ?_
    refine j_put X fp_Mo_54_Mo 124 (by omega) y_Mo (Nat.le_of_ble_eq_true rfl) rfl rfl d_Mo_setWatch_15 (j_w (y_put_10) ?_)
    refine y_gen (fun S4 e5 => ?_)
    replace hp := hp S4 e5
    replace hF := hF.trans (px_let_eq e5)
    refine j_aload_n X d_Mo_setWatch_18 0 rfl ?_
    refine j_get X fd_Mo_54_Mo 124 (by omega) y_Mo rfl d_Mo_setWatch_19 ?_
    refine j_if_gt X (tgt := 34) d_Mo_setWatch_22 (by decide) (fun h6 => ?_) (fun h6 => ?_)
    · replace hp := hp.1 h6
      replace hF := hF.trans (if_pos h6)
      refine j_iconst X (v := 0) d_Mo_setWatch_34 (by decide) ?_
      exact j_zret X hr hk rfl (by rw [hF]) (by rw [hF]) d_Mo_setWatch_35
    · replace hp := hp.2 h6
      replace hF := hF.trans (if_neg h6)
      refine j_aload_n X d_Mo_setWatch_25 0 rfl ?_
      refine j_get X fd_Mo_20_Mo 124 (by omega) y_Mo rfl d_Mo_setWatch_26 ?_
      refine j_iload_n X d_Mo_setWatch_29 1 rfl ?_
      obtain ⟨o7, hp⟩ := hp
      refine j_zald X 128 1 (by omega) y_watches rfl o7 d_Mo_setWatch_30 ?_
      refine j_if_eq X (tgt := 36) d_Mo_setWatch_31 (by decide) (fun h8 => ?_) (fun h8 => ?_)
      · replace hp := hp.1 h8
        replace hF := hF.trans (if_pos h8)
        refine j_aload_n X d_Mo_setWatch_36 0 rfl ?_
        refine j_get X fd_Mo_20_Mo 124 (by omega) y_Mo rfl d_Mo_setWatch_37 ?_
        refine j_iload_n X d_Mo_setWatch_40 1 rfl ?_
        refine j_iconst X (v := 1) d_Mo_setWatch_41 (by decide) ?_
        obtain ⟨o11, hp⟩ := hp
        refine j_zast X 128 1 (by omega) y_watches rfl o11 d_Mo_setWatch_42 (j_w (y_ast_watches) ?_)
        refine y_gen (fun S9 e10 => ?_)
        replace hp := hp S9 e10
        replace hF := hF.trans (px_let_eq e10)
        refine j_iconst X (v := 1) d_Mo_setWatch_43 (by decide) ?_
        exact j_zret X hr hk rfl (by rw [hF]) (by rw [hF]) d_Mo_setWatch_44
      · replace hp := hp.2 h8
        replace hF := hF.trans (if_neg h8)
        refine j_iconst X (v := 0) d_Mo_setWatch_34 (by decide) ?_
        exact j_zret X hr hk rfl (by rw [hF]) (by rw [hF]) d_Mo_setWatch_35
  · replace hp := hp.2 h3
    replace hF := hF.trans (if_neg h3)
    refine j_iconst X (v := 1) d_Mo_setWatch_10 (by decide) ?_
    refine j_goto X (tgt := 15) d_Mo_setWatch_11 (by decide) ?_
    refine j_put X fp_Mo_54_Mo 124 (by omega) y_Mo (Nat.le_of_ble_eq_true rfl) rfl rfl d_Mo_setWatch_15 (j_w (y_put_10) ?_)
    refine y_gen (fun S12 e13 => ?_)
    replace hp := hp S12 e13
    replace hF := hF.trans (px_let_eq e13)
    refine j_aload_n X d_Mo_setWatch_18 0 rfl ?_
    refine j_get X fd_Mo_54_Mo 124 (by omega) y_Mo rfl d_Mo_setWatch_19 ?_
    refine j_if_gt X (tgt := 34) d_Mo_setWatch_22 (by decide) (fun h14 => ?_) (fun h14 => ?_)
    · replace hp := hp.1 h14
      replace hF := hF.trans (if_pos h14)
      refine j_iconst X (v := 0) d_Mo_setWatch_34 (by decide) ?_
      exact j_zret X hr hk rfl (by rw [hF]) (by rw [hF]) d_Mo_setWatch_35
    · replace hp := hp.2 h14
      replace hF := hF.trans (if_neg h14)
      refine j_aload_n X d_Mo_setWatch_25 0 rfl ?_
      refine j_get X fd_Mo_20_Mo 124 (by omega) y_Mo rfl d_Mo_setWatch_26 ?_
      refine j_iload_n X d_Mo_setWatch_29 1 rfl ?_
      obtain ⟨o15, hp⟩ := hp
      refine j_zald X 128 1 (by omega) y_watches rfl o15 d_Mo_setWatch_30 ?_
      refine j_if_eq X (tgt := 36) d_Mo_setWatch_31 (by decide) (fun h16 => ?_) (fun h16 => ?_)
      · replace hp := hp.1 h16
        replace hF := hF.trans (if_pos h16)
        refine j_aload_n X d_Mo_setWatch_36 0 rfl ?_
        refine j_get X fd_Mo_20_Mo 124 (by omega) y_Mo rfl d_Mo_setWatch_37 ?_
        refine j_iload_n X d_Mo_setWatch_40 1 rfl ?_
        refine j_iconst X (v := 1) d_Mo_setWatch_41 (by decide) ?_
        obtain ⟨o19, hp⟩ := hp
        refine j_zast X 128 1 (by omega) y_watches rfl o19 d_Mo_setWatch_42 (j_w (y_ast_watches) ?_)
        refine y_gen (fun S17 e18 => ?_)
        replace hp := hp S17 e18
        replace hF := hF.trans (px_let_eq e18)
        refine j_iconst X (v := 1) d_Mo_setWatch_43 (by decide) ?_
        exact j_zret X hr hk rfl (by rw [hF]) (by rw [hF]) d_Mo_setWatch_44
      · replace hp := hp.2 h16
        replace hF := hF.trans (if_neg h16)
        refine j_iconst X (v := 0) d_Mo_setWatch_34 (by decide) ?_
        exact j_zret X hr hk rfl (by rw [hF]) (by rw [hF]) d_Mo_setWatch_35
def f_Mo_clearWatch (S : xS) (a : Int32) : Int32 × xS := px_let (f_Mo_outside a 32) (fun r1 : Int32 => if r1 = 0 then px_let (sI S 124 10 0) (fun S4 : xS => if 0 < (gI S4 124 10) then (0, S4) else if (gR S4 128 a.toNatClampNeg) = 0 then (0, S4) else px_let (sR S4 128 (upd (gR S4 128) a.toNatClampNeg (vp_nar .boolean 0))) (fun S9 : xS => (1, S9))) else px_let (sI S 124 10 1) (fun S12 : xS => if 0 < (gI S12 124 10) then (0, S12) else if (gR S12 128 a.toNatClampNeg) = 0 then (0, S12) else px_let (sR S12 128 (upd (gR S12 128) a.toNatClampNeg (vp_nar .boolean 0))) (fun S17 : xS => (1, S17))))
def p_Mo_clearWatch (S : xS) (a : Int32) : Prop := (∀ r1 : Int32, r1 = (f_Mo_outside a 32) → (r1 = 0 → (∀ S4 : xS, S4 = sI S 124 10 0 → (0 < (gI S4 124 10) → True) ∧ (¬ 0 < (gI S4 124 10) → (vp_in a 32) ∧ (((gR S4 128 a.toNatClampNeg) = 0 → True) ∧ (¬ (gR S4 128 a.toNatClampNeg) = 0 → (vp_in a 32) ∧ ((∀ S9 : xS, S9 = sR S4 128 (upd (gR S4 128) a.toNatClampNeg (vp_nar .boolean 0)) → True))))))) ∧ (¬ r1 = 0 → (∀ S12 : xS, S12 = sI S 124 10 1 → (0 < (gI S12 124 10) → True) ∧ (¬ 0 < (gI S12 124 10) → (vp_in a 32) ∧ (((gR S12 128 a.toNatClampNeg) = 0 → True) ∧ (¬ (gR S12 128 a.toNatClampNeg) = 0 → (vp_in a 32) ∧ ((∀ S17 : xS, S17 = sR S12 128 (upd (gR S12 128) a.toNatClampNeg (vp_nar .boolean 0)) → True))))))))
abbrev rm_Mo_clearWatch : Room := { frames := 1, cells := 0, slots := 0, locals := 21 }
set_option maxHeartbeats 4000000 in
set_option maxRecDepth 100000 in
theorem c_Mo_clearWatch (l : Launch) (D : va_G) (aC : Nat → ClassId) (ad : Nat → Nat) (n : Nat) (hn : 135 ≤ n) (c0 : Nat → va_E) (S : xS) (a : Int32)  (hp : p_Mo_clearWatch S a) : px_M l y_Mo_clearWatch (Cond.code y_Mo_clearWatch b_Mo_clearWatch 2 (some .boolean) :: WS) rm_Mo_clearWatch GG D CLS (TYS aC) [.ref (ad 124), .int a] ad (ye aC ad S c0) n (some (.int (f_Mo_clearWatch S a).1)) (ye aC ad (f_Mo_clearWatch S a).2 c0) := by
  obtain ⟨F, hF⟩ : ∃ F, F = f_Mo_clearWatch S a := ⟨_, rfl⟩
  rw [← hF]
  unfold f_Mo_clearWatch at hF
  refine px_start GG_k (by decide) (Nat.le_of_ble_eq_true rfl) ?_
  intro p e s m args below meth cd X hr hk
  refine j_L (L' := [(0, .ref (ad 124)), (1, .int a)]) rfl ?_
  unfold p_Mo_clearWatch at hp
  refine j_aload_n X d_Mo_clearWatch_0 0 rfl ?_
  refine j_iload_n X d_Mo_clearWatch_1 1 rfl ?_
  refine j_bipush X (v := 32) d_Mo_clearWatch_2 (by decide) ?_
  refine j_callP (st := [.ref (ad 124)]) X hY_Mo_outside (c_Mo_outside l a 32 ) mw_747 hT_Mo_outside rfl rfl (Nat.le_of_ble_eq_true rfl) d_Mo_clearWatch_4 rfl rfl ⟨by decide, by decide⟩ ⟨Nat.zero_le _, Nat.zero_le _⟩ (j_st (st' := [.int (f_Mo_outside a 32), .ref (ad 124)]) rfl ?_)
  refine j_topi (fun r1 e2 => ?_)
  replace hp := hp r1 e2
  replace hF := hF.trans (px_let_eq e2)
  refine j_if_eq X (tgt := 14) d_Mo_clearWatch_7 (by decide) (fun h3 => ?_) (fun h3 => ?_)
  · replace hp := hp.1 h3
    replace hF := hF.trans (if_pos h3)
    refine j_iconst X (v := 0) d_Mo_clearWatch_14 (by decide) ?_
    refine j_put X fp_Mo_54_Mo 124 (by omega) y_Mo (Nat.le_of_ble_eq_true rfl) rfl rfl d_Mo_clearWatch_15 (j_w (y_put_10) ?_)
    refine y_gen (fun S4 e5 => ?_)
    replace hp := hp S4 e5
    replace hF := hF.trans (px_let_eq e5)
    refine j_aload_n X d_Mo_clearWatch_18 0 rfl ?_
    refine j_get X fd_Mo_54_Mo 124 (by omega) y_Mo rfl d_Mo_clearWatch_19 ?_
    refine j_if_gt X (tgt := 34) d_Mo_clearWatch_22 (by decide) (fun h6 => ?_) (fun h6 => ?_)
    · replace hp := hp.1 h6
      replace hF := hF.trans (if_pos h6)
      refine j_iconst X (v := 0) d_Mo_clearWatch_34 (by decide) ?_
      exact j_zret X hr hk rfl (by rw [hF]) (by rw [hF]) d_Mo_clearWatch_35
    · replace hp := hp.2 h6
      replace hF := hF.trans (if_neg h6)
      refine j_aload_n X d_Mo_clearWatch_25 0 rfl ?_
      refine j_get X fd_Mo_20_Mo 124 (by omega) y_Mo rfl d_Mo_clearWatch_26 ?_
      refine j_iload_n X d_Mo_clearWatch_29 1 rfl ?_
      obtain ⟨o7, hp⟩ := hp
      refine j_zald X 128 1 (by omega) y_watches rfl o7 d_Mo_clearWatch_30 ?_
      refine j_if_ne X (tgt := 36) d_Mo_clearWatch_31 (by decide) (fun h8 => ?_) (fun h8 => ?_)
      · replace hp := hp.2 h8
        replace hF := hF.trans (if_neg h8)
        refine j_aload_n X d_Mo_clearWatch_36 0 rfl ?_
        refine j_get X fd_Mo_20_Mo 124 (by omega) y_Mo rfl d_Mo_clearWatch_37 ?_
        refine j_iload_n X d_Mo_clearWatch_40 1 rfl ?_
        refine j_iconst X (v := 0) d_Mo_clearWatch_41 (by decide) ?_
        obtain ⟨o11, hp⟩ := hp
        refine j_zast X 128 1 (by omega) y_watches rfl o11 d_Mo_clearWatch_42 (j_w (y_ast_watches) ?_)
        refine y_gen (fun S9 e10 => ?_)
        replace hp := hp S9 e10
        replace hF := hF.trans (px_let_eq e10)
        refine j_iconst X (v := 1) d_Mo_clearWatch_43 (by decide) ?_
        exact j_zret X hr hk rfl (by rw [hF]) (by rw [hF]) d_Mo_clearWatch_44
      · replace hp := hp.1 h8
        replace hF := hF.trans (if_pos h8)
        refine j_iconst X (v := 0) d_Mo_clearWatch_34 (by decide) ?_
        exact j_zret X hr hk rfl (by rw [hF]) (by rw [hF]) d_Mo_clearWatch_35
  · replace hp := hp.2 h3
    replace hF := hF.trans (if_neg h3)
    refine j_iconst X (v := 1) d_Mo_clearWatch_10 (by decide) ?_
    refine j_goto X (tgt := 15) d_Mo_clearWatch_11 (by decide) ?_
    refine j_put X fp_Mo_54_Mo 124 (by omega) y_Mo (Nat.le_of_ble_eq_true rfl) rfl rfl d_Mo_clearWatch_15 (j_w (y_put_10) ?_)
    refine y_gen (fun S12 e13 => ?_)
    replace hp := hp S12 e13
    replace hF := hF.trans (px_let_eq e13)
    refine j_aload_n X d_Mo_clearWatch_18 0 rfl ?_
    refine j_get X fd_Mo_54_Mo 124 (by omega) y_Mo rfl d_Mo_clearWatch_19 ?_
    refine j_if_gt X (tgt := 34) d_Mo_clearWatch_22 (by decide) (fun h14 => ?_) (fun h14 => ?_)
    · replace hp := hp.1 h14
      replace hF := hF.trans (if_pos h14)
      refine j_iconst X (v := 0) d_Mo_clearWatch_34 (by decide) ?_
      exact j_zret X hr hk rfl (by rw [hF]) (by rw [hF]) d_Mo_clearWatch_35
    · replace hp := hp.2 h14
      replace hF := hF.trans (if_neg h14)
      refine j_aload_n X d_Mo_clearWatch_25 0 rfl ?_
      refine j_get X fd_Mo_20_Mo 124 (by omega) y_Mo rfl d_Mo_clearWatch_26 ?_
      refine j_iload_n X d_Mo_clearWatch_29 1 rfl ?_
      obtain ⟨o15, hp⟩ := hp
      refine j_zald X 128 1 (by omega) y_watches rfl o15 d_Mo_clearWatch_30 ?_
      refine j_if_ne X (tgt := 36) d_Mo_clearWatch_31 (by decide) (fun h16 => ?_) (fun h16 => ?_)
      · replace hp := hp.2 h16
        replace hF := hF.trans (if_neg h16)
        refine j_aload_n X d_Mo_clearWatch_36 0 rfl ?_
        refine j_get X fd_Mo_20_Mo 124 (by omega) y_Mo rfl d_Mo_clearWatch_37 ?_
        refine j_iload_n X d_Mo_clearWatch_40 1 rfl ?_
        refine j_iconst X (v := 0) d_Mo_clearWatch_41 (by decide) ?_
        obtain ⟨o19, hp⟩ := hp
        refine j_zast X 128 1 (by omega) y_watches rfl o19 d_Mo_clearWatch_42 (j_w (y_ast_watches) ?_)
        refine y_gen (fun S17 e18 => ?_)
        replace hp := hp S17 e18
        replace hF := hF.trans (px_let_eq e18)
        refine j_iconst X (v := 1) d_Mo_clearWatch_43 (by decide) ?_
        exact j_zret X hr hk rfl (by rw [hF]) (by rw [hF]) d_Mo_clearWatch_44
      · replace hp := hp.1 h16
        replace hF := hF.trans (if_pos h16)
        refine j_iconst X (v := 0) d_Mo_clearWatch_34 (by decide) ?_
        exact j_zret X hr hk rfl (by rw [hF]) (by rw [hF]) d_Mo_clearWatch_35
def f_Mo_state (S : xS) (a : Int32) : Int32 × xS := px_let (sI S 124 10 0) (fun S1 : xS => if a = 0 then (gI S1 124 12, S1) else if a = 1 then (gI S1 124 18, S1) else if a = 2 then (gI S1 124 13, S1) else if a = 3 then (gI S1 124 14, S1) else if a = 4 then (gI S1 124 15, S1) else if a = 5 then (gI S1 124 16, S1) else if a = 6 then (gI S1 124 17, S1) else if a = 7 then (gI S1 124 20, S1) else if a = 8 then (gI S1 124 19, S1) else if a = 9 then (gI S1 124 21, S1) else if a = 10 then (gI S1 124 22, S1) else px_let ((f_Mo_fail S1 1).2) (fun S14 : xS => px_let ((f_Mo_fail S1 1).1) (fun r16 : Int32 => (r16, S14))))
abbrev rm_Mo_state : Room := { frames := 1, cells := 0, slots := 0, locals := 21 }
set_option maxHeartbeats 4000000 in
set_option maxRecDepth 100000 in
theorem c_Mo_state (l : Launch) (D : va_G) (aC : Nat → ClassId) (ad : Nat → Nat) (n : Nat) (hn : 135 ≤ n) (c0 : Nat → va_E) (S : xS) (a : Int32)   : px_M l y_Mo_state (Cond.code y_Mo_state b_Mo_state 2 (some .int) :: WS) rm_Mo_state GG D CLS (TYS aC) [.ref (ad 124), .int a] ad (ye aC ad S c0) n (some (.int (f_Mo_state S a).1)) (ye aC ad (f_Mo_state S a).2 c0) := by
  obtain ⟨F, hF⟩ : ∃ F, F = f_Mo_state S a := ⟨_, rfl⟩
  rw [← hF]
  unfold f_Mo_state at hF
  refine px_start GG_k (by decide) (Nat.le_of_ble_eq_true rfl) ?_
  intro p e s m args below meth cd X hr hk
  refine j_L (L' := [(0, .ref (ad 124)), (1, .int a)]) rfl ?_
  refine j_aload_n X d_Mo_state_0 0 rfl ?_
  refine j_iconst X (v := 0) d_Mo_state_1 (by decide) ?_
  refine j_put X fp_Mo_54_Mo 124 (by omega) y_Mo (Nat.le_of_ble_eq_true rfl) rfl rfl d_Mo_state_2 (j_w (y_put_10) ?_)
  refine y_gen (fun S1 e2 => ?_)
  skip
  replace hF := hF.trans (px_let_eq e2)
  refine j_iload_n X d_Mo_state_5 1 rfl ?_
  by_cases h3 : a = 0
  · skip
    replace hF := hF.trans (if_pos h3)
    refine j_tableIn X (tgt := 64) d_Mo_state_6 (by rw [h3]; decide) (by rw [h3]; decide) (by rw [h3]; rfl) (by decide) ?_
    refine j_aload_n X d_Mo_state_64 0 rfl ?_
    refine j_get X fd_Mo_63_Mo 124 (by omega) y_Mo rfl d_Mo_state_65 ?_
    exact j_iret X hr hk (by rw [hF]) (by rw [hF]) d_Mo_state_68
  skip
  replace hF := hF.trans (if_neg h3)
  by_cases h4 : a = 1
  · skip
    replace hF := hF.trans (if_pos h4)
    refine j_tableIn X (tgt := 69) d_Mo_state_6 (by rw [h4]; decide) (by rw [h4]; decide) (by rw [h4]; rfl) (by decide) ?_
    refine j_aload_n X d_Mo_state_69 0 rfl ?_
    refine j_get X fd_Mo_57_Mo 124 (by omega) y_Mo rfl d_Mo_state_70 ?_
    exact j_iret X hr hk (by rw [hF]) (by rw [hF]) d_Mo_state_73
  skip
  replace hF := hF.trans (if_neg h4)
  by_cases h5 : a = 2
  · skip
    replace hF := hF.trans (if_pos h5)
    refine j_tableIn X (tgt := 74) d_Mo_state_6 (by rw [h5]; decide) (by rw [h5]; decide) (by rw [h5]; rfl) (by decide) ?_
    refine j_aload_n X d_Mo_state_74 0 rfl ?_
    refine j_get X fd_Mo_66_Mo 124 (by omega) y_Mo rfl d_Mo_state_75 ?_
    exact j_iret X hr hk (by rw [hF]) (by rw [hF]) d_Mo_state_78
  skip
  replace hF := hF.trans (if_neg h5)
  by_cases h6 : a = 3
  · skip
    replace hF := hF.trans (if_pos h6)
    refine j_tableIn X (tgt := 79) d_Mo_state_6 (by rw [h6]; decide) (by rw [h6]; decide) (by rw [h6]; rfl) (by decide) ?_
    refine j_aload_n X d_Mo_state_79 0 rfl ?_
    refine j_get X fd_Mo_69_Mo 124 (by omega) y_Mo rfl d_Mo_state_80 ?_
    exact j_iret X hr hk (by rw [hF]) (by rw [hF]) d_Mo_state_83
  skip
  replace hF := hF.trans (if_neg h6)
  by_cases h7 : a = 4
  · skip
    replace hF := hF.trans (if_pos h7)
    refine j_tableIn X (tgt := 84) d_Mo_state_6 (by rw [h7]; decide) (by rw [h7]; decide) (by rw [h7]; rfl) (by decide) ?_
    refine j_aload_n X d_Mo_state_84 0 rfl ?_
    refine j_get X fd_Mo_45_Mo 124 (by omega) y_Mo rfl d_Mo_state_85 ?_
    exact j_iret X hr hk (by rw [hF]) (by rw [hF]) d_Mo_state_88
  skip
  replace hF := hF.trans (if_neg h7)
  by_cases h8 : a = 5
  · skip
    replace hF := hF.trans (if_pos h8)
    refine j_tableIn X (tgt := 89) d_Mo_state_6 (by rw [h8]; decide) (by rw [h8]; decide) (by rw [h8]; rfl) (by decide) ?_
    refine j_aload_n X d_Mo_state_89 0 rfl ?_
    refine j_get X fd_Mo_72_Mo 124 (by omega) y_Mo rfl d_Mo_state_90 ?_
    exact j_iret X hr hk (by rw [hF]) (by rw [hF]) d_Mo_state_93
  skip
  replace hF := hF.trans (if_neg h8)
  by_cases h9 : a = 6
  · skip
    replace hF := hF.trans (if_pos h9)
    refine j_tableIn X (tgt := 94) d_Mo_state_6 (by rw [h9]; decide) (by rw [h9]; decide) (by rw [h9]; rfl) (by decide) ?_
    refine j_aload_n X d_Mo_state_94 0 rfl ?_
    refine j_get X fd_Mo_75_Mo 124 (by omega) y_Mo rfl d_Mo_state_95 ?_
    exact j_iret X hr hk (by rw [hF]) (by rw [hF]) d_Mo_state_98
  skip
  replace hF := hF.trans (if_neg h9)
  by_cases h10 : a = 7
  · skip
    replace hF := hF.trans (if_pos h10)
    refine j_tableIn X (tgt := 99) d_Mo_state_6 (by rw [h10]; decide) (by rw [h10]; decide) (by rw [h10]; rfl) (by decide) ?_
    refine j_aload_n X d_Mo_state_99 0 rfl ?_
    refine j_get X fd_Mo_128_Mo 124 (by omega) y_Mo rfl d_Mo_state_100 ?_
    exact j_iret X hr hk (by rw [hF]) (by rw [hF]) d_Mo_state_103
  skip
  replace hF := hF.trans (if_neg h10)
  by_cases h11 : a = 8
  · skip
    replace hF := hF.trans (if_pos h11)
    refine j_tableIn X (tgt := 104) d_Mo_state_6 (by rw [h11]; decide) (by rw [h11]; decide) (by rw [h11]; rfl) (by decide) ?_
    refine j_aload_n X d_Mo_state_104 0 rfl ?_
    refine j_get X fd_Mo_122_Mo 124 (by omega) y_Mo rfl d_Mo_state_105 ?_
    exact j_iret X hr hk (by rw [hF]) (by rw [hF]) d_Mo_state_108
  skip
  replace hF := hF.trans (if_neg h11)
  by_cases h12 : a = 9
  · skip
    replace hF := hF.trans (if_pos h12)
    refine j_tableIn X (tgt := 109) d_Mo_state_6 (by rw [h12]; decide) (by rw [h12]; decide) (by rw [h12]; rfl) (by decide) ?_
    refine j_aload_n X d_Mo_state_109 0 rfl ?_
    refine j_get X fd_Mo_38_Mo 124 (by omega) y_Mo rfl d_Mo_state_110 ?_
    exact j_iret X hr hk (by rw [hF]) (by rw [hF]) d_Mo_state_113
  skip
  replace hF := hF.trans (if_neg h12)
  by_cases h13 : a = 10
  · skip
    replace hF := hF.trans (if_pos h13)
    refine j_tableIn X (tgt := 114) d_Mo_state_6 (by rw [h13]; decide) (by rw [h13]; decide) (by rw [h13]; rfl) (by decide) ?_
    refine j_aload_n X d_Mo_state_114 0 rfl ?_
    refine j_get X fd_Mo_51_Mo 124 (by omega) y_Mo rfl d_Mo_state_115 ?_
    exact j_iret X hr hk (by rw [hF]) (by rw [hF]) d_Mo_state_118
  skip
  replace hF := hF.trans (if_neg h13)
  refine j_tableOut X (tgt := 119) d_Mo_state_6 (by have := True.intro; have q0 := lv_neT h3 (a := 0) (by decide); have q1 := lv_neT h4 (a := 1) (by decide); have q2 := lv_neT h5 (a := 2) (by decide); have q3 := lv_neT h6 (a := 3) (by decide); have q4 := lv_neT h7 (a := 4) (by decide); have q5 := lv_neT h8 (a := 5) (by decide); have q6 := lv_neT h9 (a := 6) (by decide); have q7 := lv_neT h10 (a := 7) (by decide); have q8 := lv_neT h11 (a := 8) (by decide); have q9 := lv_neT h12 (a := 9) (by decide); have q10 := lv_neT h13 (a := 10) (by decide); omega) (by decide) ?_
  refine j_aload_n X d_Mo_state_119 0 rfl ?_
  refine j_iconst X (v := 1) d_Mo_state_120 (by decide) ?_
  refine j_callV (st := []) X 124 (by omega) hY_Mo_fail (c_Mo_fail l D aC ad n hn c0 S1 1  ) mw_766 hI_Mo_fail hS_Mo_fail y_Mo rfl rfl rfl (Nat.le_of_ble_eq_true rfl) d_Mo_state_121 rfl rfl ⟨by decide, by decide⟩ ⟨Nat.zero_le _, Nat.zero_le _⟩ (j_st (st' := [.int ((f_Mo_fail S1 1).1)]) rfl ?_)
  refine y_gen (fun S14 e15 => ?_)
  skip
  replace hF := hF.trans (px_let_eq e15)
  refine j_topi (fun r16 e17 => ?_)
  skip
  replace hF := hF.trans (px_let_eq e17)
  exact j_iret X hr hk (by rw [hF]) (by rw [hF]) d_Mo_state_124
def f_Mo_cell (S : xS) (a : Int32) : Int32 × xS := px_let (sI S 124 10 0) (fun S1 : xS => px_let (f_Mo_outside a 32) (fun r3 : Int32 => if r3 = 0 then (gR S1 129 a.toNatClampNeg, S1) else (0, S1)))
def p_Mo_cell (S : xS) (a : Int32) : Prop := (∀ S1 : xS, S1 = sI S 124 10 0 → (∀ r3 : Int32, r3 = (f_Mo_outside a 32) → (r3 = 0 → (vp_in a 32) ∧ (True)) ∧ (¬ r3 = 0 → True)))
abbrev rm_Mo_cell : Room := { frames := 1, cells := 0, slots := 0, locals := 21 }
set_option maxHeartbeats 4000000 in
set_option maxRecDepth 100000 in
theorem c_Mo_cell (l : Launch) (D : va_G) (aC : Nat → ClassId) (ad : Nat → Nat) (n : Nat) (hn : 135 ≤ n) (c0 : Nat → va_E) (S : xS) (a : Int32)  (hp : p_Mo_cell S a) : px_M l y_Mo_cell (Cond.code y_Mo_cell b_Mo_cell 2 (some .int) :: WS) rm_Mo_cell GG D CLS (TYS aC) [.ref (ad 124), .int a] ad (ye aC ad S c0) n (some (.int (f_Mo_cell S a).1)) (ye aC ad (f_Mo_cell S a).2 c0) := by
  obtain ⟨F, hF⟩ : ∃ F, F = f_Mo_cell S a := ⟨_, rfl⟩
  rw [← hF]
  unfold f_Mo_cell at hF
  refine px_start GG_k (by decide) (Nat.le_of_ble_eq_true rfl) ?_
  intro p e s m args below meth cd X hr hk
  refine j_L (L' := [(0, .ref (ad 124)), (1, .int a)]) rfl ?_
  unfold p_Mo_cell at hp
  refine j_aload_n X d_Mo_cell_0 0 rfl ?_
  refine j_iconst X (v := 0) d_Mo_cell_1 (by decide) ?_
  refine j_put X fp_Mo_54_Mo 124 (by omega) y_Mo (Nat.le_of_ble_eq_true rfl) rfl rfl d_Mo_cell_2 (j_w (y_put_10) ?_)
  refine y_gen (fun S1 e2 => ?_)
  replace hp := hp S1 e2
  replace hF := hF.trans (px_let_eq e2)
  refine j_iload_n X d_Mo_cell_5 1 rfl ?_
  refine j_bipush X (v := 32) d_Mo_cell_6 (by decide) ?_
  refine j_callP (st := []) X hY_Mo_outside (c_Mo_outside l a 32 ) mw_747 hT_Mo_outside rfl rfl (Nat.le_of_ble_eq_true rfl) d_Mo_cell_8 rfl rfl ⟨by decide, by decide⟩ ⟨Nat.zero_le _, Nat.zero_le _⟩ (j_st (st' := [.int (f_Mo_outside a 32)]) rfl ?_)
  refine j_topi (fun r3 e4 => ?_)
  replace hp := hp r3 e4
  replace hF := hF.trans (px_let_eq e4)
  refine j_if_eq X (tgt := 18) d_Mo_cell_11 (by decide) (fun h5 => ?_) (fun h5 => ?_)
  · replace hp := hp.1 h5
    replace hF := hF.trans (if_pos h5)
    refine j_aload_n X d_Mo_cell_18 0 rfl ?_
    refine j_get X fd_Mo_23_Mo 124 (by omega) y_Mo rfl d_Mo_cell_19 ?_
    refine j_iload_n X d_Mo_cell_22 1 rfl ?_
    obtain ⟨o6, hp⟩ := hp
    refine j_iald X 129 0 (by omega) y_cells rfl o6 d_Mo_cell_23 ?_
    exact j_iret X hr hk (by rw [hF]) (by rw [hF]) d_Mo_cell_24
  · replace hp := hp.2 h5
    replace hF := hF.trans (if_neg h5)
    refine j_iconst X (v := 0) d_Mo_cell_14 (by decide) ?_
    refine j_goto X (tgt := 24) d_Mo_cell_15 (by decide) ?_
    exact j_iret X hr hk (by rw [hF]) (by rw [hF]) d_Mo_cell_24
def f_Mo_stack (S : xS) (a : Int32) : Int32 × xS := px_let (sI S 124 10 0) (fun S1 : xS => px_let (f_Mo_outside a (gI S1 124 17)) (fun r3 : Int32 => if r3 = 0 then (gR S1 130 a.toNatClampNeg, S1) else px_let ((f_Mo_fail S1 1).2) (fun S7 : xS => px_let ((f_Mo_fail S1 1).1) (fun r9 : Int32 => (r9, S7)))))
def p_Mo_stack (S : xS) (a : Int32) : Prop := (∀ S1 : xS, S1 = sI S 124 10 0 → (∀ r3 : Int32, r3 = (f_Mo_outside a (gI S1 124 17)) → (r3 = 0 → (vp_in a 24) ∧ (True)) ∧ (¬ r3 = 0 → (∀ S7 : xS, S7 = (f_Mo_fail S1 1).2 → (∀ r9 : Int32, r9 = ((f_Mo_fail S1 1).1) → True)))))
abbrev rm_Mo_stack : Room := { frames := 1, cells := 0, slots := 0, locals := 21 }
set_option maxHeartbeats 4000000 in
set_option maxRecDepth 100000 in
theorem c_Mo_stack (l : Launch) (D : va_G) (aC : Nat → ClassId) (ad : Nat → Nat) (n : Nat) (hn : 135 ≤ n) (c0 : Nat → va_E) (S : xS) (a : Int32)  (hp : p_Mo_stack S a) : px_M l y_Mo_stack (Cond.code y_Mo_stack b_Mo_stack 2 (some .int) :: WS) rm_Mo_stack GG D CLS (TYS aC) [.ref (ad 124), .int a] ad (ye aC ad S c0) n (some (.int (f_Mo_stack S a).1)) (ye aC ad (f_Mo_stack S a).2 c0) := by
  obtain ⟨F, hF⟩ : ∃ F, F = f_Mo_stack S a := ⟨_, rfl⟩
  rw [← hF]
  unfold f_Mo_stack at hF
  refine px_start GG_k (by decide) (Nat.le_of_ble_eq_true rfl) ?_
  intro p e s m args below meth cd X hr hk
  refine j_L (L' := [(0, .ref (ad 124)), (1, .int a)]) rfl ?_
  unfold p_Mo_stack at hp
  refine j_aload_n X d_Mo_stack_0 0 rfl ?_
  refine j_iconst X (v := 0) d_Mo_stack_1 (by decide) ?_
  refine j_put X fp_Mo_54_Mo 124 (by omega) y_Mo (Nat.le_of_ble_eq_true rfl) rfl rfl d_Mo_stack_2 (j_w (y_put_10) ?_)
  refine y_gen (fun S1 e2 => ?_)
  replace hp := hp S1 e2
  replace hF := hF.trans (px_let_eq e2)
  refine j_iload_n X d_Mo_stack_5 1 rfl ?_
  refine j_aload_n X d_Mo_stack_6 0 rfl ?_
  refine j_get X fd_Mo_75_Mo 124 (by omega) y_Mo rfl d_Mo_stack_7 ?_
  refine j_callP (st := []) X hY_Mo_outside (c_Mo_outside l a (gI S1 124 17) ) mw_747 hT_Mo_outside rfl rfl (Nat.le_of_ble_eq_true rfl) d_Mo_stack_10 rfl rfl ⟨by decide, by decide⟩ ⟨Nat.zero_le _, Nat.zero_le _⟩ (j_st (st' := [.int (f_Mo_outside a (gI S1 124 17))]) rfl ?_)
  refine j_topi (fun r3 e4 => ?_)
  replace hp := hp r3 e4
  replace hF := hF.trans (px_let_eq e4)
  refine j_if_eq X (tgt := 24) d_Mo_stack_13 (by decide) (fun h5 => ?_) (fun h5 => ?_)
  · replace hp := hp.1 h5
    replace hF := hF.trans (if_pos h5)
    refine j_aload_n X d_Mo_stack_24 0 rfl ?_
    refine j_get X fd_Mo_26_Mo 124 (by omega) y_Mo rfl d_Mo_stack_25 ?_
    refine j_iload_n X d_Mo_stack_28 1 rfl ?_
    obtain ⟨o6, hp⟩ := hp
    refine j_iald X 130 0 (by omega) y_stack rfl o6 d_Mo_stack_29 ?_
    exact j_iret X hr hk (by rw [hF]) (by rw [hF]) d_Mo_stack_30
  · replace hp := hp.2 h5
    replace hF := hF.trans (if_neg h5)
    refine j_aload_n X d_Mo_stack_16 0 rfl ?_
    refine j_iconst X (v := 1) d_Mo_stack_17 (by decide) ?_
    refine j_callV (st := []) X 124 (by omega) hY_Mo_fail (c_Mo_fail l D aC ad n hn c0 S1 1  ) mw_766 hI_Mo_fail hS_Mo_fail y_Mo rfl rfl rfl (Nat.le_of_ble_eq_true rfl) d_Mo_stack_18 rfl rfl ⟨by decide, by decide⟩ ⟨Nat.zero_le _, Nat.zero_le _⟩ (j_st (st' := [.int ((f_Mo_fail S1 1).1)]) rfl ?_)
    refine y_gen (fun S7 e8 => ?_)
    replace hp := hp S7 e8
    replace hF := hF.trans (px_let_eq e8)
    refine j_topi (fun r9 e10 => ?_)
    replace hp := hp r9 e10
    replace hF := hF.trans (px_let_eq e10)
    refine j_goto X (tgt := 30) d_Mo_stack_21 (by decide) ?_
    exact j_iret X hr hk (by rw [hF]) (by rw [hF]) d_Mo_stack_30
def f_Mo_checkpoint (S : xS) (a : Int32) : Int32 × xS := px_let (sI S 124 10 0) (fun S1 : xS => px_let (f_Mo_outside a (gI S1 124 22)) (fun r3 : Int32 => if r3 = 0 then (gR S1 134 a.toNatClampNeg, S1) else px_let ((f_Mo_fail S1 1).2) (fun S7 : xS => px_let ((f_Mo_fail S1 1).1) (fun r9 : Int32 => (r9, S7)))))
def p_Mo_checkpoint (S : xS) (a : Int32) : Prop := (∀ S1 : xS, S1 = sI S 124 10 0 → (∀ r3 : Int32, r3 = (f_Mo_outside a (gI S1 124 22)) → (r3 = 0 → (vp_in a 9) ∧ (True)) ∧ (¬ r3 = 0 → (∀ S7 : xS, S7 = (f_Mo_fail S1 1).2 → (∀ r9 : Int32, r9 = ((f_Mo_fail S1 1).1) → True)))))
abbrev rm_Mo_checkpoint : Room := { frames := 1, cells := 0, slots := 0, locals := 21 }
set_option maxHeartbeats 4000000 in
set_option maxRecDepth 100000 in
theorem c_Mo_checkpoint (l : Launch) (D : va_G) (aC : Nat → ClassId) (ad : Nat → Nat) (n : Nat) (hn : 135 ≤ n) (c0 : Nat → va_E) (S : xS) (a : Int32)  (hp : p_Mo_checkpoint S a) : px_M l y_Mo_checkpoint (Cond.code y_Mo_checkpoint b_Mo_checkpoint 2 (some .int) :: WS) rm_Mo_checkpoint GG D CLS (TYS aC) [.ref (ad 124), .int a] ad (ye aC ad S c0) n (some (.int (f_Mo_checkpoint S a).1)) (ye aC ad (f_Mo_checkpoint S a).2 c0) := by
  obtain ⟨F, hF⟩ : ∃ F, F = f_Mo_checkpoint S a := ⟨_, rfl⟩
  rw [← hF]
  unfold f_Mo_checkpoint at hF
  refine px_start GG_k (by decide) (Nat.le_of_ble_eq_true rfl) ?_
  intro p e s m args below meth cd X hr hk
  refine j_L (L' := [(0, .ref (ad 124)), (1, .int a)]) rfl ?_
  unfold p_Mo_checkpoint at hp
  refine j_aload_n X d_Mo_checkpoint_0 0 rfl ?_
  refine j_iconst X (v := 0) d_Mo_checkpoint_1 (by decide) ?_
  refine j_put X fp_Mo_54_Mo 124 (by omega) y_Mo (Nat.le_of_ble_eq_true rfl) rfl rfl d_Mo_checkpoint_2 (j_w (y_put_10) ?_)
  refine y_gen (fun S1 e2 => ?_)
  replace hp := hp S1 e2
  replace hF := hF.trans (px_let_eq e2)
  refine j_iload_n X d_Mo_checkpoint_5 1 rfl ?_
  refine j_aload_n X d_Mo_checkpoint_6 0 rfl ?_
  refine j_get X fd_Mo_51_Mo 124 (by omega) y_Mo rfl d_Mo_checkpoint_7 ?_
  refine j_callP (st := []) X hY_Mo_outside (c_Mo_outside l a (gI S1 124 22) ) mw_747 hT_Mo_outside rfl rfl (Nat.le_of_ble_eq_true rfl) d_Mo_checkpoint_10 rfl rfl ⟨by decide, by decide⟩ ⟨Nat.zero_le _, Nat.zero_le _⟩ (j_st (st' := [.int (f_Mo_outside a (gI S1 124 22))]) rfl ?_)
  refine j_topi (fun r3 e4 => ?_)
  replace hp := hp r3 e4
  replace hF := hF.trans (px_let_eq e4)
  refine j_if_eq X (tgt := 24) d_Mo_checkpoint_13 (by decide) (fun h5 => ?_) (fun h5 => ?_)
  · replace hp := hp.1 h5
    replace hF := hF.trans (if_pos h5)
    refine j_aload_n X d_Mo_checkpoint_24 0 rfl ?_
    refine j_get X fd_Mo_42_Mo 124 (by omega) y_Mo rfl d_Mo_checkpoint_25 ?_
    refine j_iload_n X d_Mo_checkpoint_28 1 rfl ?_
    obtain ⟨o6, hp⟩ := hp
    refine j_iald X 134 0 (by omega) y_keptAt rfl o6 d_Mo_checkpoint_29 ?_
    exact j_iret X hr hk (by rw [hF]) (by rw [hF]) d_Mo_checkpoint_30
  · replace hp := hp.2 h5
    replace hF := hF.trans (if_neg h5)
    refine j_aload_n X d_Mo_checkpoint_16 0 rfl ?_
    refine j_iconst X (v := 1) d_Mo_checkpoint_17 (by decide) ?_
    refine j_callV (st := []) X 124 (by omega) hY_Mo_fail (c_Mo_fail l D aC ad n hn c0 S1 1  ) mw_766 hI_Mo_fail hS_Mo_fail y_Mo rfl rfl rfl (Nat.le_of_ble_eq_true rfl) d_Mo_checkpoint_18 rfl rfl ⟨by decide, by decide⟩ ⟨Nat.zero_le _, Nat.zero_le _⟩ (j_st (st' := [.int ((f_Mo_fail S1 1).1)]) rfl ?_)
    refine y_gen (fun S7 e8 => ?_)
    replace hp := hp S7 e8
    replace hF := hF.trans (px_let_eq e8)
    refine j_topi (fun r9 e10 => ?_)
    replace hp := hp r9 e10
    replace hF := hF.trans (px_let_eq e10)
    refine j_goto X (tgt := 30) d_Mo_checkpoint_21 (by decide) ?_
    exact j_iret X hr hk (by rw [hF]) (by rw [hF]) d_Mo_checkpoint_30
