def g_RM_forth  : Nat → xS → Int32 → Int32 → Int32 × xS
  | 0, S, _, _ => ((0 : Int32), S)
  | k + 1, S, u, v => if u ≤ v then (11, S) else px_let ((f_RM_advance S ).2) (fun S3 : xS => px_let ((f_RM_advance S).1) (fun r5 : Int32 => if r5 = 0 then px_let (f_RM_stopHere S3) (fun r9 : Int32 => if r9 = 0 then g_RM_forth k S3 u (v + 1) else (r9, S3)) else if r5 = 0 then g_RM_forth k S3 u (v + 1) else (r5, S3)))
def q_RM_forth  : Nat → xS → Int32 → Int32 → Prop
  | 0, _, _, _ => False
  | k + 1, S, u, v => (u ≤ v → True) ∧ (¬ u ≤ v → (p_RM_advance S) ∧ ((∀ S3 : xS, S3 = (f_RM_advance S ).2 → (∀ r5 : Int32, r5 = ((f_RM_advance S).1) → (r5 = 0 → (p_RM_stopHere S3) ∧ ((∀ r9 : Int32, r9 = (f_RM_stopHere S3) → (r9 = 0 → q_RM_forth k S3 u (v + 1)) ∧ (¬ r9 = 0 → True)))) ∧ (¬ r5 = 0 → (r5 = 0 → q_RM_forth k S3 u (v + 1)) ∧ (¬ r5 = 0 → True))))))
def f_RM_forth (S : xS) (u : Int32) : Int32 × xS := px_let (f_RM_isFuel u) (fun r1 : Int32 => if r1 = 0 then ((0 : Int32), S) else px_let (sI S 0 5 0) (fun S4 : xS => g_RM_forth 1001 S4 u 0))
def p_RM_forth (S : xS) (u : Int32) : Prop := (∀ r1 : Int32, r1 = (f_RM_isFuel u) → (r1 = 0 → False) ∧ (¬ r1 = 0 → (∀ S4 : xS, S4 = sI S 0 5 0 → q_RM_forth 1001 S4 u 0)))
abbrev rm_RM_forth : Room := { frames := 6, cells := 0, slots := 0, locals := 133 }
set_option maxHeartbeats 4000000 in
set_option maxRecDepth 100000 in
theorem w_RM_forth (l : Launch) (D : va_G) (aC : Nat → ClassId) (ad : Nat → Nat) (n : Nat) (hn : 124 ≤ n) (c0 : Nat → va_E)   {p : Program} {e : Env} {s : State} {m : MethodId} {args : Array Value} {below : List Frame} {meth : Method} {cd : Code} (X : px_X p s m args cd b_RM_forth 4 WS y_RM_forth.cls GG D CLS (TYS aC) (px_A ad n s.heap.size) ad n) (hr : meth.sig.returnType = (some .int)) (hk : meth.locks = false) : ∀ (k : Nat) (S : xS) (u : Int32) (v : Int32), q_RM_forth  k S u v → ∀ F, F = g_RM_forth  k S u v → px_J p l e rm_RM_forth s m args below meth cd D CLS (px_A ad n s.heap.size) ad n 4 0 0 (MQ below (px_Qc D CLS ad n s.heap.size (some (.int F.1)) (xe aC ad F.2 c0)) args s 0 0 (px_A ad n s.heap.size)) (xe aC ad S c0) 24 [(0, .ref (ad 0)), (1, .int u), (2, .int v)] [] := by
  intro k
  induction k with
  | zero => intro S u v hp; exact hp.elim
  | succ k ih =>
    intro S u v hp F hF
    rw [q_RM_forth] at hp
    rw [g_RM_forth] at hF
    refine j_iload_n X d_RM_forth_24 2 rfl ?_
    refine j_iload_n X d_RM_forth_25 1 rfl ?_
    refine j_icmp_ge X (tgt := 55) d_RM_forth_26 (by decide) (fun h1 => ?_) (fun h1 => ?_)
    · replace hp := hp.1 h1
      replace hF := hF.trans (if_pos h1)
      refine j_bipush X (v := 11) d_RM_forth_55 (by decide) ?_
      exact j_iret X hr hk (by rw [hF]) (by rw [hF]) d_RM_forth_57
    · replace hp := hp.2 h1
      replace hF := hF.trans (if_neg h1)
      refine j_aload_n X d_RM_forth_29 0 rfl ?_
      obtain ⟨o2, hp⟩ := hp
      refine j_callV (st := []) X 0 (by omega) hY_RM_advance (c_RM_advance l D aC ad n hn c0 S   o2) mw_211 hI_RM_advance hS_RM_advance x_RM rfl rfl rfl (Nat.le_of_ble_eq_true rfl) d_RM_forth_30 rfl rfl ⟨by decide, by decide⟩ ⟨Nat.zero_le _, Nat.zero_le _⟩ (j_st (st' := [.int ((f_RM_advance S).1)]) rfl ?_)
      refine x_gen (fun S3 e4 => ?_)
      replace hp := hp S3 e4
      replace hF := hF.trans (px_let_eq e4)
      refine j_topi (fun r5 e6 => ?_)
      replace hp := hp r5 e6
      replace hF := hF.trans (px_let_eq e6)
      refine j_istore_n X d_RM_forth_33 [(3, .int r5), (0, .ref (ad 0)), (1, .int u), (2, .int v)] (by decide) rfl ?_
      refine j_iload_n X d_RM_forth_34 0 rfl ?_
      refine j_if_ne X (tgt := 43) d_RM_forth_35 (by decide) (fun h7 => ?_) (fun h7 => ?_)
      · replace hp := hp.2 h7
        replace hF := hF.trans (if_neg h7)
        refine j_iload_n X d_RM_forth_43 0 rfl ?_
        refine j_if_eq X (tgt := 49) d_RM_forth_44 (by decide) (fun h12 => ?_) (fun h12 => ?_)
        · replace hp := hp.1 h12
          replace hF := hF.trans (if_pos h12)
          refine j_iinc X d_RM_forth_49 3 [(2, .int (v + 1)), (3, .int r5), (0, .ref (ad 0)), (1, .int u)] rfl rfl (by decide) rfl ?_
          refine j_goto X (tgt := 24) d_RM_forth_52 (by decide) ?_
          refine j_sub (L' := [(0, .ref (ad 0)), (1, .int u), (2, .int (v + 1))]) [2, 3, 0] rfl ?_
          exact ih S3 u (v + 1) hp F hF
        · replace hp := hp.2 h12
          replace hF := hF.trans (if_neg h12)
          refine j_iload_n X d_RM_forth_47 0 rfl ?_
          exact j_iret X hr hk (by rw [hF]) (by rw [hF]) d_RM_forth_48
      · replace hp := hp.1 h7
        replace hF := hF.trans (if_pos h7)
        refine j_aload_n X d_RM_forth_38 1 rfl ?_
        obtain ⟨o8, hp⟩ := hp
        refine j_callV (st := []) X 0 (by omega) hY_RM_stopHere (c_RM_stopHere l D aC ad n hn c0 S3   o8) mw_466 hI_RM_stopHere hS_RM_stopHere x_RM rfl rfl rfl (Nat.le_of_ble_eq_true rfl) d_RM_forth_39 rfl rfl ⟨by decide, by decide⟩ ⟨Nat.zero_le _, Nat.zero_le _⟩ (j_st (st' := [.int (f_RM_stopHere S3)]) rfl ?_)
        refine j_topi (fun r9 e10 => ?_)
        replace hp := hp r9 e10
        replace hF := hF.trans (px_let_eq e10)
        refine j_istore_n X d_RM_forth_42 [(3, .int r9), (0, .ref (ad 0)), (1, .int u), (2, .int v)] (by decide) rfl ?_
        refine j_iload_n X d_RM_forth_43 0 rfl ?_
        refine j_if_eq X (tgt := 49) d_RM_forth_44 (by decide) (fun h11 => ?_) (fun h11 => ?_)
        · replace hp := hp.1 h11
          replace hF := hF.trans (if_pos h11)
          refine j_iinc X d_RM_forth_49 3 [(2, .int (v + 1)), (3, .int r9), (0, .ref (ad 0)), (1, .int u)] rfl rfl (by decide) rfl ?_
          refine j_goto X (tgt := 24) d_RM_forth_52 (by decide) ?_
          refine j_sub (L' := [(0, .ref (ad 0)), (1, .int u), (2, .int (v + 1))]) [2, 3, 0] rfl ?_
          exact ih S3 u (v + 1) hp F hF
        · replace hp := hp.2 h11
          replace hF := hF.trans (if_neg h11)
          refine j_iload_n X d_RM_forth_47 0 rfl ?_
          exact j_iret X hr hk (by rw [hF]) (by rw [hF]) d_RM_forth_48
set_option maxHeartbeats 4000000 in
set_option maxRecDepth 100000 in
theorem c_RM_forth (l : Launch) (D : va_G) (aC : Nat → ClassId) (ad : Nat → Nat) (n : Nat) (hn : 124 ≤ n) (c0 : Nat → va_E) (S : xS) (u : Int32)  (hp : p_RM_forth S u) : px_M l y_RM_forth (Cond.code y_RM_forth b_RM_forth 4 (some .int) :: WS) rm_RM_forth GG D CLS (TYS aC) [.ref (ad 0), .int u] ad (xe aC ad S c0) n (some (.int (f_RM_forth S u).1)) (xe aC ad (f_RM_forth S u).2 c0) := by
  obtain ⟨F, hF⟩ : ∃ F, F = f_RM_forth S u := ⟨_, rfl⟩
  rw [← hF]
  unfold f_RM_forth at hF
  refine px_start GG_k (by decide) (Nat.le_of_ble_eq_true rfl) ?_
  intro p e s m args below meth cd X hr hk
  refine j_L (L' := [(0, .ref (ad 0)), (1, .int u)]) rfl ?_
  unfold p_RM_forth at hp
  refine j_iload_n X d_RM_forth_0 1 rfl ?_
  refine j_callP (st := []) X hY_RM_isFuel (c_RM_isFuel l u ) mw_447 hT_RM_isFuel rfl rfl (Nat.le_of_ble_eq_true rfl) d_RM_forth_1 rfl rfl ⟨by decide, by decide⟩ ⟨Nat.zero_le _, Nat.zero_le _⟩ (j_st (st' := [.int (f_RM_isFuel u)]) rfl ?_)
  refine j_topi (fun r1 e2 => ?_)
  replace hp := hp r1 e2
  replace hF := hF.trans (px_let_eq e2)
  refine j_if_ne X (tgt := 17) d_RM_forth_4 (by decide) (fun h3 => ?_) (fun h3 => ?_)
  · replace hp := hp.2 h3
    replace hF := hF.trans (if_neg h3)
    refine j_aload_n X d_RM_forth_17 0 rfl ?_
    refine j_iconst X (v := 0) d_RM_forth_18 (by decide) ?_
    refine j_put X fp_RM_60_RM 0 (by omega) x_RM (Nat.le_of_ble_eq_true rfl) rfl rfl d_RM_forth_19 (j_w (x_putRM_5) ?_)
    refine x_gen (fun S4 e5 => ?_)
    replace hp := hp S4 e5
    replace hF := hF.trans (px_let_eq e5)
    refine j_iconst X (v := 0) d_RM_forth_22 (by decide) ?_
    refine j_istore_n X d_RM_forth_23 [(2, .int 0), (0, .ref (ad 0)), (1, .int u)] (by decide) rfl ?_
    refine j_sub (L' := [(0, .ref (ad 0)), (1, .int u), (2, .int 0)]) [1, 2, 0] rfl ?_
    exact w_RM_forth l D aC ad n hn c0  X hr hk 1001 S4 u 0 hp F hF
  · replace hp := hp.1 h3
    replace hF := hF.trans (if_pos h3)
    exact hp.elim
def g_RM_back  : Nat → xS → Int32 → Int32 → Int32 × xS
  | 0, S, _, _ => ((0 : Int32), S)
  | k + 1, S, u, v => if u ≤ v then if (gI S 4 0) = 0 then (12, S) else (11, S) else if (gI S 4 0) ≤ 0 then if (gI S 4 0) = 0 then (12, S) else (11, S) else px_let ((f_RM_travel S ((gI S 4 0) - 1)).2) (fun S6 : xS => px_let (f_RM_stopHere S6) (fun r9 : Int32 => if r9 = 0 then g_RM_back k S6 u (v + 1) else (r9, S6)))
def q_RM_back  : Nat → xS → Int32 → Int32 → Prop
  | 0, _, _, _ => False
  | k + 1, S, u, v => (u ≤ v → ((gI S 4 0) = 0 → True) ∧ (¬ (gI S 4 0) = 0 → True)) ∧ (¬ u ≤ v → ((gI S 4 0) ≤ 0 → ((gI S 4 0) = 0 → True) ∧ (¬ (gI S 4 0) = 0 → True)) ∧ (¬ (gI S 4 0) ≤ 0 → (p_RM_travel S ((gI S 4 0) - 1)) ∧ ((∀ S6 : xS, S6 = (f_RM_travel S ((gI S 4 0) - 1)).2 → (p_RM_stopHere S6) ∧ ((∀ r9 : Int32, r9 = (f_RM_stopHere S6) → (r9 = 0 → q_RM_back k S6 u (v + 1)) ∧ (¬ r9 = 0 → True)))))))
def f_RM_back (S : xS) (u : Int32) : Int32 × xS := px_let (f_RM_isFuel u) (fun r1 : Int32 => if r1 = 0 then ((0 : Int32), S) else px_let (sI S 0 5 0) (fun S4 : xS => g_RM_back 1001 S4 u 0))
def p_RM_back (S : xS) (u : Int32) : Prop := (∀ r1 : Int32, r1 = (f_RM_isFuel u) → (r1 = 0 → False) ∧ (¬ r1 = 0 → (∀ S4 : xS, S4 = sI S 0 5 0 → q_RM_back 1001 S4 u 0)))
abbrev rm_RM_back : Room := { frames := 6, cells := 0, slots := 0, locals := 133 }
set_option maxHeartbeats 4000000 in
set_option maxRecDepth 100000 in
theorem w_RM_back (l : Launch) (D : va_G) (aC : Nat → ClassId) (ad : Nat → Nat) (n : Nat) (hn : 124 ≤ n) (c0 : Nat → va_E)   {p : Program} {e : Env} {s : State} {m : MethodId} {args : Array Value} {below : List Frame} {meth : Method} {cd : Code} (X : px_X p s m args cd b_RM_back 4 WS y_RM_back.cls GG D CLS (TYS aC) (px_A ad n s.heap.size) ad n) (hr : meth.sig.returnType = (some .int)) (hk : meth.locks = false) : ∀ (k : Nat) (S : xS) (u : Int32) (v : Int32), q_RM_back  k S u v → ∀ F, F = g_RM_back  k S u v → px_J p l e rm_RM_back s m args below meth cd D CLS (px_A ad n s.heap.size) ad n 4 0 0 (MQ below (px_Qc D CLS ad n s.heap.size (some (.int F.1)) (xe aC ad F.2 c0)) args s 0 0 (px_A ad n s.heap.size)) (xe aC ad S c0) 24 [(0, .ref (ad 0)), (1, .int u), (2, .int v)] [] := by
  intro k
  induction k with
  | zero => intro S u v hp; exact hp.elim
  | succ k ih =>
    intro S u v hp F hF
    rw [q_RM_back] at hp
    rw [g_RM_back] at hF
    refine j_iload_n X d_RM_back_24 2 rfl ?_
    refine j_iload_n X d_RM_back_25 1 rfl ?_
    refine j_icmp_ge X (tgt := 75) d_RM_back_26 (by decide) (fun h1 => ?_) (fun h1 => ?_)
    · replace hp := hp.1 h1
      replace hF := hF.trans (if_pos h1)
      refine j_aload_n X d_RM_back_75 0 rfl ?_
      refine j_get X fd_RM_14_RM 0 (by omega) x_RM rfl d_RM_back_76 ?_
      refine j_get X fd_RM_79_Ma 1 (by omega) x_Ma rfl d_RM_back_79 ?_
      refine j_get X fd_RM_83_St 4 (k_lt k_4 hn) (x_St k_4) rfl d_RM_back_82 ?_
      refine j_if_ne X (tgt := 93) d_RM_back_85 (by decide) (fun h2 => ?_) (fun h2 => ?_)
      · replace hp := hp.2 h2
        replace hF := hF.trans (if_neg h2)
        refine j_bipush X (v := 11) d_RM_back_93 (by decide) ?_
        exact j_iret X hr hk (by rw [hF]) (by rw [hF]) d_RM_back_95
      · replace hp := hp.1 h2
        replace hF := hF.trans (if_pos h2)
        refine j_bipush X (v := 12) d_RM_back_88 (by decide) ?_
        refine j_goto X (tgt := 95) d_RM_back_90 (by decide) ?_
        exact j_iret X hr hk (by rw [hF]) (by rw [hF]) d_RM_back_95
    · replace hp := hp.2 h1
      replace hF := hF.trans (if_neg h1)
      refine j_aload_n X d_RM_back_29 0 rfl ?_
      refine j_get X fd_RM_14_RM 0 (by omega) x_RM rfl d_RM_back_30 ?_
      refine j_get X fd_RM_79_Ma 1 (by omega) x_Ma rfl d_RM_back_33 ?_
      refine j_get X fd_RM_83_St 4 (k_lt k_4 hn) (x_St k_4) rfl d_RM_back_36 ?_
      refine j_if_le X (tgt := 75) d_RM_back_39 (by decide) (fun h3 => ?_) (fun h3 => ?_)
      · replace hp := hp.1 h3
        replace hF := hF.trans (if_pos h3)
        refine j_aload_n X d_RM_back_75 0 rfl ?_
        refine j_get X fd_RM_14_RM 0 (by omega) x_RM rfl d_RM_back_76 ?_
        refine j_get X fd_RM_79_Ma 1 (by omega) x_Ma rfl d_RM_back_79 ?_
        refine j_get X fd_RM_83_St 4 (k_lt k_4 hn) (x_St k_4) rfl d_RM_back_82 ?_
        refine j_if_ne X (tgt := 93) d_RM_back_85 (by decide) (fun h4 => ?_) (fun h4 => ?_)
        · replace hp := hp.2 h4
          replace hF := hF.trans (if_neg h4)
          refine j_bipush X (v := 11) d_RM_back_93 (by decide) ?_
          exact j_iret X hr hk (by rw [hF]) (by rw [hF]) d_RM_back_95
        · replace hp := hp.1 h4
          replace hF := hF.trans (if_pos h4)
          refine j_bipush X (v := 12) d_RM_back_88 (by decide) ?_
          refine j_goto X (tgt := 95) d_RM_back_90 (by decide) ?_
          exact j_iret X hr hk (by rw [hF]) (by rw [hF]) d_RM_back_95
      · replace hp := hp.2 h3
        replace hF := hF.trans (if_neg h3)
        refine j_aload_n X d_RM_back_42 0 rfl ?_
        refine j_aload_n X d_RM_back_43 0 rfl ?_
        refine j_get X fd_RM_14_RM 0 (by omega) x_RM rfl d_RM_back_44 ?_
        refine j_get X fd_RM_79_Ma 1 (by omega) x_Ma rfl d_RM_back_47 ?_
        refine j_get X fd_RM_83_St 4 (k_lt k_4 hn) (x_St k_4) rfl d_RM_back_50 ?_
        refine j_iconst X (v := 1) d_RM_back_53 (by decide) ?_
        refine j_isub X d_RM_back_54 ?_
        obtain ⟨o5, hp⟩ := hp
        refine j_callV (st := []) X 0 (by omega) hY_RM_travel (c_RM_travel l D aC ad n hn c0 S ((gI S 4 0) - 1)  o5) mw_477 hI_RM_travel hS_RM_travel x_RM rfl rfl rfl (Nat.le_of_ble_eq_true rfl) d_RM_back_55 rfl rfl ⟨by decide, by decide⟩ ⟨Nat.zero_le _, Nat.zero_le _⟩ (j_st (st' := []) rfl ?_)
        refine x_gen (fun S6 e7 => ?_)
        replace hp := hp S6 e7
        replace hF := hF.trans (px_let_eq e7)
        refine j_aload_n X d_RM_back_58 0 rfl ?_
        obtain ⟨o8, hp⟩ := hp
        refine j_callV (st := []) X 0 (by omega) hY_RM_stopHere (c_RM_stopHere l D aC ad n hn c0 S6   o8) mw_466 hI_RM_stopHere hS_RM_stopHere x_RM rfl rfl rfl (Nat.le_of_ble_eq_true rfl) d_RM_back_59 rfl rfl ⟨by decide, by decide⟩ ⟨Nat.zero_le _, Nat.zero_le _⟩ (j_st (st' := [.int (f_RM_stopHere S6)]) rfl ?_)
        refine j_topi (fun r9 e10 => ?_)
        replace hp := hp r9 e10
        replace hF := hF.trans (px_let_eq e10)
        refine j_istore_n X d_RM_back_62 [(3, .int r9), (0, .ref (ad 0)), (1, .int u), (2, .int v)] (by decide) rfl ?_
        refine j_iload_n X d_RM_back_63 0 rfl ?_
        refine j_if_eq X (tgt := 69) d_RM_back_64 (by decide) (fun h11 => ?_) (fun h11 => ?_)
        · replace hp := hp.1 h11
          replace hF := hF.trans (if_pos h11)
          refine j_iinc X d_RM_back_69 3 [(2, .int (v + 1)), (3, .int r9), (0, .ref (ad 0)), (1, .int u)] rfl rfl (by decide) rfl ?_
          refine j_goto X (tgt := 24) d_RM_back_72 (by decide) ?_
          refine j_sub (L' := [(0, .ref (ad 0)), (1, .int u), (2, .int (v + 1))]) [2, 3, 0] rfl ?_
          exact ih S6 u (v + 1) hp F hF
        · replace hp := hp.2 h11
          replace hF := hF.trans (if_neg h11)
          refine j_iload_n X d_RM_back_67 0 rfl ?_
          exact j_iret X hr hk (by rw [hF]) (by rw [hF]) d_RM_back_68
set_option maxHeartbeats 4000000 in
set_option maxRecDepth 100000 in
theorem c_RM_back (l : Launch) (D : va_G) (aC : Nat → ClassId) (ad : Nat → Nat) (n : Nat) (hn : 124 ≤ n) (c0 : Nat → va_E) (S : xS) (u : Int32)  (hp : p_RM_back S u) : px_M l y_RM_back (Cond.code y_RM_back b_RM_back 4 (some .int) :: WS) rm_RM_back GG D CLS (TYS aC) [.ref (ad 0), .int u] ad (xe aC ad S c0) n (some (.int (f_RM_back S u).1)) (xe aC ad (f_RM_back S u).2 c0) := by
  obtain ⟨F, hF⟩ : ∃ F, F = f_RM_back S u := ⟨_, rfl⟩
  rw [← hF]
  unfold f_RM_back at hF
  refine px_start GG_k (by decide) (Nat.le_of_ble_eq_true rfl) ?_
  intro p e s m args below meth cd X hr hk
  refine j_L (L' := [(0, .ref (ad 0)), (1, .int u)]) rfl ?_
  unfold p_RM_back at hp
  refine j_iload_n X d_RM_back_0 1 rfl ?_
  refine j_callP (st := []) X hY_RM_isFuel (c_RM_isFuel l u ) mw_447 hT_RM_isFuel rfl rfl (Nat.le_of_ble_eq_true rfl) d_RM_back_1 rfl rfl ⟨by decide, by decide⟩ ⟨Nat.zero_le _, Nat.zero_le _⟩ (j_st (st' := [.int (f_RM_isFuel u)]) rfl ?_)
  refine j_topi (fun r1 e2 => ?_)
  replace hp := hp r1 e2
  replace hF := hF.trans (px_let_eq e2)
  refine j_if_ne X (tgt := 17) d_RM_back_4 (by decide) (fun h3 => ?_) (fun h3 => ?_)
  · replace hp := hp.2 h3
    replace hF := hF.trans (if_neg h3)
    refine j_aload_n X d_RM_back_17 0 rfl ?_
    refine j_iconst X (v := 0) d_RM_back_18 (by decide) ?_
    refine j_put X fp_RM_60_RM 0 (by omega) x_RM (Nat.le_of_ble_eq_true rfl) rfl rfl d_RM_back_19 (j_w (x_putRM_5) ?_)
    refine x_gen (fun S4 e5 => ?_)
    replace hp := hp S4 e5
    replace hF := hF.trans (px_let_eq e5)
    refine j_iconst X (v := 0) d_RM_back_22 (by decide) ?_
    refine j_istore_n X d_RM_back_23 [(2, .int 0), (0, .ref (ad 0)), (1, .int u)] (by decide) rfl ?_
    refine j_sub (L' := [(0, .ref (ad 0)), (1, .int u), (2, .int 0)]) [1, 2, 0] rfl ?_
    exact w_RM_back l D aC ad n hn c0  X hr hk 1001 S4 u 0 hp F hF
  · replace hp := hp.1 h3
    replace hF := hF.trans (if_pos h3)
    exact hp.elim
def f_RM_go (S : xS) (t : Int32) : Int32 × xS := if t < 0 then ((0 : Int32), S) else if t ≤ (gI S 0 4) then px_let (sI S 0 5 0) (fun S3 : xS => px_let ((f_RM_travel S3 t).2) (fun S6 : xS => ((0 : Int32), S6))) else ((0 : Int32), S)
def p_RM_go (S : xS) (t : Int32) : Prop := (t < 0 → False) ∧ (¬ t < 0 → (t ≤ (gI S 0 4) → (∀ S3 : xS, S3 = sI S 0 5 0 → (p_RM_travel S3 t) ∧ ((∀ S6 : xS, S6 = (f_RM_travel S3 t).2 → True)))) ∧ (¬ t ≤ (gI S 0 4) → False))
abbrev rm_RM_go : Room := { frames := 6, cells := 0, slots := 0, locals := 133 }
set_option maxHeartbeats 4000000 in
set_option maxRecDepth 100000 in
theorem c_RM_go (l : Launch) (D : va_G) (aC : Nat → ClassId) (ad : Nat → Nat) (n : Nat) (hn : 124 ≤ n) (c0 : Nat → va_E) (S : xS) (t : Int32)  (hp : p_RM_go S t) : px_M l y_RM_go (Cond.code y_RM_go b_RM_go 2 none :: WS) rm_RM_go GG D CLS (TYS aC) [.ref (ad 0), .int t] ad (xe aC ad S c0) n none (xe aC ad (f_RM_go S t).2 c0) := by
  obtain ⟨F, hF⟩ : ∃ F, F = f_RM_go S t := ⟨_, rfl⟩
  rw [← hF]
  unfold f_RM_go at hF
  refine px_start GG_k (by decide) (Nat.le_of_ble_eq_true rfl) ?_
  intro p e s m args below meth cd X hr hk
  refine j_L (L' := [(0, .ref (ad 0)), (1, .int t)]) rfl ?_
  unfold p_RM_go at hp
  refine j_iload_n X d_RM_go_0 1 rfl ?_
  refine j_if_lt X (tgt := 12) d_RM_go_1 (by decide) (fun h1 => ?_) (fun h1 => ?_)
  · replace hp := hp.1 h1
    replace hF := hF.trans (if_pos h1)
    exact hp.elim
  · replace hp := hp.2 h1
    replace hF := hF.trans (if_neg h1)
    refine j_iload_n X d_RM_go_4 1 rfl ?_
    refine j_aload_n X d_RM_go_5 0 rfl ?_
    refine j_get X fd_RM_43_RM 0 (by omega) x_RM rfl d_RM_go_6 ?_
    refine j_icmp_le X (tgt := 22) d_RM_go_9 (by decide) (fun h2 => ?_) (fun h2 => ?_)
    · replace hp := hp.1 h2
      replace hF := hF.trans (if_pos h2)
      refine j_aload_n X d_RM_go_22 0 rfl ?_
      refine j_iconst X (v := 0) d_RM_go_23 (by decide) ?_
      refine j_put X fp_RM_60_RM 0 (by omega) x_RM (Nat.le_of_ble_eq_true rfl) rfl rfl d_RM_go_24 (j_w (x_putRM_5) ?_)
      refine x_gen (fun S3 e4 => ?_)
      replace hp := hp S3 e4
      replace hF := hF.trans (px_let_eq e4)
      refine j_aload_n X d_RM_go_27 0 rfl ?_
      refine j_iload_n X d_RM_go_28 1 rfl ?_
      obtain ⟨o5, hp⟩ := hp
      refine j_callV (st := []) X 0 (by omega) hY_RM_travel (c_RM_travel l D aC ad n hn c0 S3 t  o5) mw_477 hI_RM_travel hS_RM_travel x_RM rfl rfl rfl (Nat.le_of_ble_eq_true rfl) d_RM_go_29 rfl rfl ⟨by decide, by decide⟩ ⟨Nat.zero_le _, Nat.zero_le _⟩ (j_st (st' := []) rfl ?_)
      refine x_gen (fun S6 e7 => ?_)
      replace hp := hp S6 e7
      replace hF := hF.trans (px_let_eq e7)
      exact j_vret X hr hk rfl (by rw [hF]) d_RM_go_32
    · replace hp := hp.2 h2
      replace hF := hF.trans (if_neg h2)
      exact hp.elim
def f_RM_poke (S : xS) (a : Int32) (w : Int32) : Int32 × xS := px_let (f_RM_within a 64) (fun r1 : Int32 => if r1 = 0 then ((0 : Int32), S) else if (gI S 0 4) ≤ 0 then px_let (sR S 2 (upd (gR S 2) a.toNatClampNeg w)) (fun S5 : xS => ((0 : Int32), S5)) else ((0 : Int32), S))
def p_RM_poke (S : xS) (a : Int32) (w : Int32) : Prop := (∀ r1 : Int32, r1 = (f_RM_within a 64) → (r1 = 0 → False) ∧ (¬ r1 = 0 → ((gI S 0 4) ≤ 0 → (vp_in a 64) ∧ ((∀ S5 : xS, S5 = sR S 2 (upd (gR S 2) a.toNatClampNeg w) → True))) ∧ (¬ (gI S 0 4) ≤ 0 → False)))
abbrev rm_RM_poke : Room := { frames := 1, cells := 0, slots := 0, locals := 21 }
set_option maxHeartbeats 4000000 in
set_option maxRecDepth 100000 in
theorem c_RM_poke (l : Launch) (D : va_G) (aC : Nat → ClassId) (ad : Nat → Nat) (n : Nat) (hn : 124 ≤ n) (c0 : Nat → va_E) (S : xS) (a : Int32) (w : Int32)  (hp : p_RM_poke S a w) : px_M l y_RM_poke (Cond.code y_RM_poke b_RM_poke 3 none :: WS) rm_RM_poke GG D CLS (TYS aC) [.ref (ad 0), .int a, .int w] ad (xe aC ad S c0) n none (xe aC ad (f_RM_poke S a w).2 c0) := by
  obtain ⟨F, hF⟩ : ∃ F, F = f_RM_poke S a w := ⟨_, rfl⟩
  rw [← hF]
  unfold f_RM_poke at hF
  refine px_start GG_k (by decide) (Nat.le_of_ble_eq_true rfl) ?_
  intro p e s m args below meth cd X hr hk
  refine j_L (L' := [(0, .ref (ad 0)), (1, .int a), (2, .int w)]) rfl ?_
  unfold p_RM_poke at hp
  refine j_iload_n X d_RM_poke_0 1 rfl ?_
  refine j_bipush X (v := 64) d_RM_poke_1 (by decide) ?_
  refine j_callP (st := []) X hY_RM_within (c_RM_within l a 64 ) mw_342 hT_RM_within rfl rfl (Nat.le_of_ble_eq_true rfl) d_RM_poke_3 rfl rfl ⟨by decide, by decide⟩ ⟨Nat.zero_le _, Nat.zero_le _⟩ (j_st (st' := [.int (f_RM_within a 64)]) rfl ?_)
  refine j_topi (fun r1 e2 => ?_)
  replace hp := hp r1 e2
  replace hF := hF.trans (px_let_eq e2)
  refine j_if_ne X (tgt := 19) d_RM_poke_6 (by decide) (fun h3 => ?_) (fun h3 => ?_)
  · replace hp := hp.2 h3
    replace hF := hF.trans (if_neg h3)
    refine j_aload_n X d_RM_poke_19 0 rfl ?_
    refine j_get X fd_RM_43_RM 0 (by omega) x_RM rfl d_RM_poke_20 ?_
    refine j_if_le X (tgt := 36) d_RM_poke_23 (by decide) (fun h4 => ?_) (fun h4 => ?_)
    · replace hp := hp.1 h4
      replace hF := hF.trans (if_pos h4)
      refine j_aload_n X d_RM_poke_36 0 rfl ?_
      refine j_get X fd_RM_14_RM 0 (by omega) x_RM rfl d_RM_poke_37 ?_
      refine j_get X fd_RM_52_Ma 1 (by omega) x_Ma rfl d_RM_poke_40 ?_
      refine j_iload_n X d_RM_poke_43 1 rfl ?_
      refine j_iload_n X d_RM_poke_44 2 rfl ?_
      obtain ⟨o7, hp⟩ := hp
      refine j_iast X 2 0 (by omega) x_code rfl o7 d_RM_poke_45 (j_w (x_ast_code) ?_)
      refine x_gen (fun S5 e6 => ?_)
      replace hp := hp S5 e6
      replace hF := hF.trans (px_let_eq e6)
      exact j_vret X hr hk rfl (by rw [hF]) d_RM_poke_46
    · replace hp := hp.2 h4
      replace hF := hF.trans (if_neg h4)
      exact hp.elim
  · replace hp := hp.1 h3
    replace hF := hF.trans (if_pos h3)
    exact hp.elim
def f_RM_setBreak (S : xS) (a : Int32) : Int32 × xS := px_let (f_RM_within a 64) (fun r1 : Int32 => if r1 = 0 then ((0 : Int32), S) else px_let ((f_RM_markB S a 1).2) (fun S5 : xS => px_let ((f_RM_markB S a 1).1) (fun r7 : Int32 => (r7, S5))))
def p_RM_setBreak (S : xS) (a : Int32) : Prop := (∀ r1 : Int32, r1 = (f_RM_within a 64) → (r1 = 0 → False) ∧ (¬ r1 = 0 → (p_RM_markB S a 1) ∧ ((∀ S5 : xS, S5 = (f_RM_markB S a 1).2 → (∀ r7 : Int32, r7 = ((f_RM_markB S a 1).1) → True)))))
abbrev rm_RM_setBreak : Room := { frames := 1, cells := 0, slots := 0, locals := 23 }
set_option maxHeartbeats 4000000 in
set_option maxRecDepth 100000 in
theorem c_RM_setBreak (l : Launch) (D : va_G) (aC : Nat → ClassId) (ad : Nat → Nat) (n : Nat) (hn : 124 ≤ n) (c0 : Nat → va_E) (S : xS) (a : Int32)  (hp : p_RM_setBreak S a) : px_M l y_RM_setBreak (Cond.code y_RM_setBreak b_RM_setBreak 2 (some .boolean) :: WS) rm_RM_setBreak GG D CLS (TYS aC) [.ref (ad 0), .int a] ad (xe aC ad S c0) n (some (.int (f_RM_setBreak S a).1)) (xe aC ad (f_RM_setBreak S a).2 c0) := by
  obtain ⟨F, hF⟩ : ∃ F, F = f_RM_setBreak S a := ⟨_, rfl⟩
  rw [← hF]
  unfold f_RM_setBreak at hF
  refine px_start GG_k (by decide) (Nat.le_of_ble_eq_true rfl) ?_
  intro p e s m args below meth cd X hr hk
  refine j_L (L' := [(0, .ref (ad 0)), (1, .int a)]) rfl ?_
  unfold p_RM_setBreak at hp
  refine j_iload_n X d_RM_setBreak_0 1 rfl ?_
  refine j_bipush X (v := 64) d_RM_setBreak_1 (by decide) ?_
  refine j_callP (st := []) X hY_RM_within (c_RM_within l a 64 ) mw_342 hT_RM_within rfl rfl (Nat.le_of_ble_eq_true rfl) d_RM_setBreak_3 rfl rfl ⟨by decide, by decide⟩ ⟨Nat.zero_le _, Nat.zero_le _⟩ (j_st (st' := [.int (f_RM_within a 64)]) rfl ?_)
  refine j_topi (fun r1 e2 => ?_)
  replace hp := hp r1 e2
  replace hF := hF.trans (px_let_eq e2)
  refine j_if_ne X (tgt := 19) d_RM_setBreak_6 (by decide) (fun h3 => ?_) (fun h3 => ?_)
  · replace hp := hp.2 h3
    replace hF := hF.trans (if_neg h3)
    refine j_aload_n X d_RM_setBreak_19 0 rfl ?_
    refine j_get X fd_RM_25_RM 0 (by omega) x_RM rfl d_RM_setBreak_20 ?_
    refine j_iload_n X d_RM_setBreak_23 1 rfl ?_
    refine j_iconst X (v := 1) d_RM_setBreak_24 (by decide) ?_
    obtain ⟨o4, hp⟩ := hp
    refine j_callS (st := []) X hY_RM_mark (c_RM_markB l D aC ad n hn c0 S a 1  o4) mw_510 hT_RM_mark rfl rfl (Nat.le_of_ble_eq_true rfl) d_RM_setBreak_25 rfl rfl ⟨by decide, by decide⟩ ⟨Nat.zero_le _, Nat.zero_le _⟩ (j_st (st' := [.int ((f_RM_markB S a 1).1)]) rfl ?_)
    refine x_gen (fun S5 e6 => ?_)
    replace hp := hp S5 e6
    replace hF := hF.trans (px_let_eq e6)
    refine j_topi (fun r7 e8 => ?_)
    replace hp := hp r7 e8
    replace hF := hF.trans (px_let_eq e8)
    exact j_zret X hr hk (by subst_vars; first | exact nb_RM_markB | exact nb_RM_markW) (by rw [hF]) (by rw [hF]) d_RM_setBreak_28
  · replace hp := hp.1 h3
    replace hF := hF.trans (if_pos h3)
    exact hp.elim
def f_RM_clearBreak (S : xS) (a : Int32) : Int32 × xS := px_let (f_RM_within a 64) (fun r1 : Int32 => if r1 = 0 then ((0 : Int32), S) else px_let ((f_RM_markB S a 0).2) (fun S5 : xS => px_let ((f_RM_markB S a 0).1) (fun r7 : Int32 => (r7, S5))))
def p_RM_clearBreak (S : xS) (a : Int32) : Prop := (∀ r1 : Int32, r1 = (f_RM_within a 64) → (r1 = 0 → False) ∧ (¬ r1 = 0 → (p_RM_markB S a 0) ∧ ((∀ S5 : xS, S5 = (f_RM_markB S a 0).2 → (∀ r7 : Int32, r7 = ((f_RM_markB S a 0).1) → True)))))
abbrev rm_RM_clearBreak : Room := { frames := 1, cells := 0, slots := 0, locals := 23 }
set_option maxHeartbeats 4000000 in
set_option maxRecDepth 100000 in
theorem c_RM_clearBreak (l : Launch) (D : va_G) (aC : Nat → ClassId) (ad : Nat → Nat) (n : Nat) (hn : 124 ≤ n) (c0 : Nat → va_E) (S : xS) (a : Int32)  (hp : p_RM_clearBreak S a) : px_M l y_RM_clearBreak (Cond.code y_RM_clearBreak b_RM_clearBreak 2 (some .boolean) :: WS) rm_RM_clearBreak GG D CLS (TYS aC) [.ref (ad 0), .int a] ad (xe aC ad S c0) n (some (.int (f_RM_clearBreak S a).1)) (xe aC ad (f_RM_clearBreak S a).2 c0) := by
  obtain ⟨F, hF⟩ : ∃ F, F = f_RM_clearBreak S a := ⟨_, rfl⟩
  rw [← hF]
  unfold f_RM_clearBreak at hF
  refine px_start GG_k (by decide) (Nat.le_of_ble_eq_true rfl) ?_
  intro p e s m args below meth cd X hr hk
  refine j_L (L' := [(0, .ref (ad 0)), (1, .int a)]) rfl ?_
  unfold p_RM_clearBreak at hp
  refine j_iload_n X d_RM_clearBreak_0 1 rfl ?_
  refine j_bipush X (v := 64) d_RM_clearBreak_1 (by decide) ?_
  refine j_callP (st := []) X hY_RM_within (c_RM_within l a 64 ) mw_342 hT_RM_within rfl rfl (Nat.le_of_ble_eq_true rfl) d_RM_clearBreak_3 rfl rfl ⟨by decide, by decide⟩ ⟨Nat.zero_le _, Nat.zero_le _⟩ (j_st (st' := [.int (f_RM_within a 64)]) rfl ?_)
  refine j_topi (fun r1 e2 => ?_)
  replace hp := hp r1 e2
  replace hF := hF.trans (px_let_eq e2)
  refine j_if_ne X (tgt := 19) d_RM_clearBreak_6 (by decide) (fun h3 => ?_) (fun h3 => ?_)
  · replace hp := hp.2 h3
    replace hF := hF.trans (if_neg h3)
    refine j_aload_n X d_RM_clearBreak_19 0 rfl ?_
    refine j_get X fd_RM_25_RM 0 (by omega) x_RM rfl d_RM_clearBreak_20 ?_
    refine j_iload_n X d_RM_clearBreak_23 1 rfl ?_
    refine j_iconst X (v := 0) d_RM_clearBreak_24 (by decide) ?_
    obtain ⟨o4, hp⟩ := hp
    refine j_callS (st := []) X hY_RM_mark (c_RM_markB l D aC ad n hn c0 S a 0  o4) mw_510 hT_RM_mark rfl rfl (Nat.le_of_ble_eq_true rfl) d_RM_clearBreak_25 rfl rfl ⟨by decide, by decide⟩ ⟨Nat.zero_le _, Nat.zero_le _⟩ (j_st (st' := [.int ((f_RM_markB S a 0).1)]) rfl ?_)
    refine x_gen (fun S5 e6 => ?_)
    replace hp := hp S5 e6
    replace hF := hF.trans (px_let_eq e6)
    refine j_topi (fun r7 e8 => ?_)
    replace hp := hp r7 e8
    replace hF := hF.trans (px_let_eq e8)
    exact j_zret X hr hk (by subst_vars; first | exact nb_RM_markB | exact nb_RM_markW) (by rw [hF]) (by rw [hF]) d_RM_clearBreak_28
  · replace hp := hp.1 h3
    replace hF := hF.trans (if_pos h3)
    exact hp.elim
def f_RM_setWatch (S : xS) (a : Int32) : Int32 × xS := px_let (f_RM_within a 32) (fun r1 : Int32 => if r1 = 0 then ((0 : Int32), S) else px_let ((f_RM_markW S a 1).2) (fun S5 : xS => px_let ((f_RM_markW S a 1).1) (fun r7 : Int32 => (r7, S5))))
def p_RM_setWatch (S : xS) (a : Int32) : Prop := (∀ r1 : Int32, r1 = (f_RM_within a 32) → (r1 = 0 → False) ∧ (¬ r1 = 0 → (p_RM_markW S a 1) ∧ ((∀ S5 : xS, S5 = (f_RM_markW S a 1).2 → (∀ r7 : Int32, r7 = ((f_RM_markW S a 1).1) → True)))))
abbrev rm_RM_setWatch : Room := { frames := 1, cells := 0, slots := 0, locals := 23 }
set_option maxHeartbeats 4000000 in
set_option maxRecDepth 100000 in
theorem c_RM_setWatch (l : Launch) (D : va_G) (aC : Nat → ClassId) (ad : Nat → Nat) (n : Nat) (hn : 124 ≤ n) (c0 : Nat → va_E) (S : xS) (a : Int32)  (hp : p_RM_setWatch S a) : px_M l y_RM_setWatch (Cond.code y_RM_setWatch b_RM_setWatch 2 (some .boolean) :: WS) rm_RM_setWatch GG D CLS (TYS aC) [.ref (ad 0), .int a] ad (xe aC ad S c0) n (some (.int (f_RM_setWatch S a).1)) (xe aC ad (f_RM_setWatch S a).2 c0) := by
  obtain ⟨F, hF⟩ : ∃ F, F = f_RM_setWatch S a := ⟨_, rfl⟩
  rw [← hF]
  unfold f_RM_setWatch at hF
  refine px_start GG_k (by decide) (Nat.le_of_ble_eq_true rfl) ?_
  intro p e s m args below meth cd X hr hk
  refine j_L (L' := [(0, .ref (ad 0)), (1, .int a)]) rfl ?_
  unfold p_RM_setWatch at hp
  refine j_iload_n X d_RM_setWatch_0 1 rfl ?_
  refine j_bipush X (v := 32) d_RM_setWatch_1 (by decide) ?_
  refine j_callP (st := []) X hY_RM_within (c_RM_within l a 32 ) mw_342 hT_RM_within rfl rfl (Nat.le_of_ble_eq_true rfl) d_RM_setWatch_3 rfl rfl ⟨by decide, by decide⟩ ⟨Nat.zero_le _, Nat.zero_le _⟩ (j_st (st' := [.int (f_RM_within a 32)]) rfl ?_)
  refine j_topi (fun r1 e2 => ?_)
  replace hp := hp r1 e2
  replace hF := hF.trans (px_let_eq e2)
  refine j_if_ne X (tgt := 19) d_RM_setWatch_6 (by decide) (fun h3 => ?_) (fun h3 => ?_)
  · replace hp := hp.2 h3
    replace hF := hF.trans (if_neg h3)
    refine j_aload_n X d_RM_setWatch_19 0 rfl ?_
    refine j_get X fd_RM_29_RM 0 (by omega) x_RM rfl d_RM_setWatch_20 ?_
    refine j_iload_n X d_RM_setWatch_23 1 rfl ?_
    refine j_iconst X (v := 1) d_RM_setWatch_24 (by decide) ?_
    obtain ⟨o4, hp⟩ := hp
    refine j_callS (st := []) X hY_RM_mark (c_RM_markW l D aC ad n hn c0 S a 1  o4) mw_510 hT_RM_mark rfl rfl (Nat.le_of_ble_eq_true rfl) d_RM_setWatch_25 rfl rfl ⟨by decide, by decide⟩ ⟨Nat.zero_le _, Nat.zero_le _⟩ (j_st (st' := [.int ((f_RM_markW S a 1).1)]) rfl ?_)
    refine x_gen (fun S5 e6 => ?_)
    replace hp := hp S5 e6
    replace hF := hF.trans (px_let_eq e6)
    refine j_topi (fun r7 e8 => ?_)
    replace hp := hp r7 e8
    replace hF := hF.trans (px_let_eq e8)
    exact j_zret X hr hk (by subst_vars; first | exact nb_RM_markB | exact nb_RM_markW) (by rw [hF]) (by rw [hF]) d_RM_setWatch_28
  · replace hp := hp.1 h3
    replace hF := hF.trans (if_pos h3)
    exact hp.elim
def f_RM_clearWatch (S : xS) (a : Int32) : Int32 × xS := px_let (f_RM_within a 32) (fun r1 : Int32 => if r1 = 0 then ((0 : Int32), S) else px_let ((f_RM_markW S a 0).2) (fun S5 : xS => px_let ((f_RM_markW S a 0).1) (fun r7 : Int32 => (r7, S5))))
def p_RM_clearWatch (S : xS) (a : Int32) : Prop := (∀ r1 : Int32, r1 = (f_RM_within a 32) → (r1 = 0 → False) ∧ (¬ r1 = 0 → (p_RM_markW S a 0) ∧ ((∀ S5 : xS, S5 = (f_RM_markW S a 0).2 → (∀ r7 : Int32, r7 = ((f_RM_markW S a 0).1) → True)))))
abbrev rm_RM_clearWatch : Room := { frames := 1, cells := 0, slots := 0, locals := 23 }
set_option maxHeartbeats 4000000 in
set_option maxRecDepth 100000 in
theorem c_RM_clearWatch (l : Launch) (D : va_G) (aC : Nat → ClassId) (ad : Nat → Nat) (n : Nat) (hn : 124 ≤ n) (c0 : Nat → va_E) (S : xS) (a : Int32)  (hp : p_RM_clearWatch S a) : px_M l y_RM_clearWatch (Cond.code y_RM_clearWatch b_RM_clearWatch 2 (some .boolean) :: WS) rm_RM_clearWatch GG D CLS (TYS aC) [.ref (ad 0), .int a] ad (xe aC ad S c0) n (some (.int (f_RM_clearWatch S a).1)) (xe aC ad (f_RM_clearWatch S a).2 c0) := by
  obtain ⟨F, hF⟩ : ∃ F, F = f_RM_clearWatch S a := ⟨_, rfl⟩
  rw [← hF]
  unfold f_RM_clearWatch at hF
  refine px_start GG_k (by decide) (Nat.le_of_ble_eq_true rfl) ?_
  intro p e s m args below meth cd X hr hk
  refine j_L (L' := [(0, .ref (ad 0)), (1, .int a)]) rfl ?_
  unfold p_RM_clearWatch at hp
  refine j_iload_n X d_RM_clearWatch_0 1 rfl ?_
  refine j_bipush X (v := 32) d_RM_clearWatch_1 (by decide) ?_
  refine j_callP (st := []) X hY_RM_within (c_RM_within l a 32 ) mw_342 hT_RM_within rfl rfl (Nat.le_of_ble_eq_true rfl) d_RM_clearWatch_3 rfl rfl ⟨by decide, by decide⟩ ⟨Nat.zero_le _, Nat.zero_le _⟩ (j_st (st' := [.int (f_RM_within a 32)]) rfl ?_)
  refine j_topi (fun r1 e2 => ?_)
  replace hp := hp r1 e2
  replace hF := hF.trans (px_let_eq e2)
  refine j_if_ne X (tgt := 19) d_RM_clearWatch_6 (by decide) (fun h3 => ?_) (fun h3 => ?_)
  · replace hp := hp.2 h3
    replace hF := hF.trans (if_neg h3)
    refine j_aload_n X d_RM_clearWatch_19 0 rfl ?_
    refine j_get X fd_RM_29_RM 0 (by omega) x_RM rfl d_RM_clearWatch_20 ?_
    refine j_iload_n X d_RM_clearWatch_23 1 rfl ?_
    refine j_iconst X (v := 0) d_RM_clearWatch_24 (by decide) ?_
    obtain ⟨o4, hp⟩ := hp
    refine j_callS (st := []) X hY_RM_mark (c_RM_markW l D aC ad n hn c0 S a 0  o4) mw_510 hT_RM_mark rfl rfl (Nat.le_of_ble_eq_true rfl) d_RM_clearWatch_25 rfl rfl ⟨by decide, by decide⟩ ⟨Nat.zero_le _, Nat.zero_le _⟩ (j_st (st' := [.int ((f_RM_markW S a 0).1)]) rfl ?_)
    refine x_gen (fun S5 e6 => ?_)
    replace hp := hp S5 e6
    replace hF := hF.trans (px_let_eq e6)
    refine j_topi (fun r7 e8 => ?_)
    replace hp := hp r7 e8
    replace hF := hF.trans (px_let_eq e8)
    exact j_zret X hr hk (by subst_vars; first | exact nb_RM_markB | exact nb_RM_markW) (by rw [hF]) (by rw [hF]) d_RM_clearWatch_28
  · replace hp := hp.1 h3
    replace hF := hF.trans (if_pos h3)
    exact hp.elim
def f_RM_state (S : xS) (a : Int32) : Int32 := if a = 0 then gI S 4 0 else if a = 1 then gI S 0 4 else if a = 2 then gI S 4 1 else if a = 3 then gI S 4 2 else if a = 4 then gI S 4 3 else if a = 5 then gI S 4 4 else if a = 6 then gI S 4 5 else if a = 7 then gI S 0 5 else if a = 8 then gI S 6 2 else if a = 9 then gI S 104 2 else if a = 10 then gI S 104 1 else 0
def p_RM_state (S : xS) (a : Int32) : Prop := (a = 0 → True) ∧ (¬ a = 0 → (a = 1 → True) ∧ (¬ a = 1 → (a = 2 → True) ∧ (¬ a = 2 → (a = 3 → True) ∧ (¬ a = 3 → (a = 4 → True) ∧ (¬ a = 4 → (a = 5 → True) ∧ (¬ a = 5 → (a = 6 → True) ∧ (¬ a = 6 → (a = 7 → True) ∧ (¬ a = 7 → (a = 8 → True) ∧ (¬ a = 8 → (a = 9 → True) ∧ (¬ a = 9 → (a = 10 → True) ∧ (¬ a = 10 → False)))))))))))
abbrev rm_RM_state : Room := { frames := 0, cells := 0, slots := 0, locals := 0 }
set_option maxHeartbeats 4000000 in
set_option maxRecDepth 100000 in
theorem c_RM_state (l : Launch) (D : va_G) (aC : Nat → ClassId) (ad : Nat → Nat) (n : Nat) (hn : 124 ≤ n) (c0 : Nat → va_E) (S : xS) (a : Int32)  (hp : p_RM_state S a) : px_M l y_RM_state (Cond.code y_RM_state b_RM_state 3 (some .int) :: WS) rm_RM_state GG D CLS (TYS aC) [.ref (ad 0), .int a] ad (xe aC ad S c0) n (some (.int (f_RM_state S a))) (xe aC ad S c0) := by
  obtain ⟨F, hF⟩ : ∃ F, F = f_RM_state S a := ⟨_, rfl⟩
  rw [← hF]
  unfold f_RM_state at hF
  refine px_start GG_k (by decide) (Nat.le_of_ble_eq_true rfl) ?_
  intro p e s m args below meth cd X hr hk
  refine j_L (L' := [(0, .ref (ad 0)), (1, .int a)]) rfl ?_
  unfold p_RM_state at hp
  refine j_aload_n X d_RM_state_0 0 rfl ?_
  refine j_get X fd_RM_14_RM 0 (by omega) x_RM rfl d_RM_state_1 ?_
  refine j_get X fd_RM_79_Ma 1 (by omega) x_Ma rfl d_RM_state_4 ?_
  refine j_astore_n X d_RM_state_7 [(2, .ref (ad 4)), (0, .ref (ad 0)), (1, .int a)] (by decide) rfl ?_
  refine j_iload_n X d_RM_state_8 2 rfl ?_
  by_cases h1 : a = 0
  · replace hp := hp.1 h1
    replace hF := hF.trans (if_pos h1)
    refine j_tableIn X (tgt := 68) d_RM_state_9 (by rw [h1]; decide) (by rw [h1]; decide) (by rw [h1]; rfl) (by decide) ?_
    refine j_aload_n X d_RM_state_68 0 rfl ?_
    refine j_get X fd_RM_83_St 4 (k_lt k_4 hn) (x_St k_4) rfl d_RM_state_69 ?_
    exact j_iret X hr hk (by rw [hF]) rfl d_RM_state_72
  replace hp := hp.2 h1
  replace hF := hF.trans (if_neg h1)
  by_cases h2 : a = 1
  · replace hp := hp.1 h2
    replace hF := hF.trans (if_pos h2)
    refine j_tableIn X (tgt := 73) d_RM_state_9 (by rw [h2]; decide) (by rw [h2]; decide) (by rw [h2]; rfl) (by decide) ?_
    refine j_aload_n X d_RM_state_73 1 rfl ?_
    refine j_get X fd_RM_43_RM 0 (by omega) x_RM rfl d_RM_state_74 ?_
    exact j_iret X hr hk (by rw [hF]) rfl d_RM_state_77
  replace hp := hp.2 h2
  replace hF := hF.trans (if_neg h2)
  by_cases h3 : a = 2
  · replace hp := hp.1 h3
    replace hF := hF.trans (if_pos h3)
    refine j_tableIn X (tgt := 78) d_RM_state_9 (by rw [h3]; decide) (by rw [h3]; decide) (by rw [h3]; rfl) (by decide) ?_
    refine j_aload_n X d_RM_state_78 0 rfl ?_
    refine j_get X fd_RM_99_St 4 (k_lt k_4 hn) (x_St k_4) rfl d_RM_state_79 ?_
    exact j_iret X hr hk (by rw [hF]) rfl d_RM_state_82
  replace hp := hp.2 h3
  replace hF := hF.trans (if_neg h3)
  by_cases h4 : a = 3
  · replace hp := hp.1 h4
    replace hF := hF.trans (if_pos h4)
    refine j_tableIn X (tgt := 83) d_RM_state_9 (by rw [h4]; decide) (by rw [h4]; decide) (by rw [h4]; rfl) (by decide) ?_
    refine j_aload_n X d_RM_state_83 0 rfl ?_
    refine j_get X fd_RM_102_St 4 (k_lt k_4 hn) (x_St k_4) rfl d_RM_state_84 ?_
    exact j_iret X hr hk (by rw [hF]) rfl d_RM_state_87
  replace hp := hp.2 h4
  replace hF := hF.trans (if_neg h4)
  by_cases h5 : a = 4
  · replace hp := hp.1 h5
    replace hF := hF.trans (if_pos h5)
    refine j_tableIn X (tgt := 88) d_RM_state_9 (by rw [h5]; decide) (by rw [h5]; decide) (by rw [h5]; rfl) (by decide) ?_
    refine j_aload_n X d_RM_state_88 0 rfl ?_
    refine j_get X fd_RM_105_St 4 (k_lt k_4 hn) (x_St k_4) rfl d_RM_state_89 ?_
    exact j_iret X hr hk (by rw [hF]) rfl d_RM_state_92
  replace hp := hp.2 h5
  replace hF := hF.trans (if_neg h5)
  by_cases h6 : a = 5
  · replace hp := hp.1 h6
    replace hF := hF.trans (if_pos h6)
    refine j_tableIn X (tgt := 93) d_RM_state_9 (by rw [h6]; decide) (by rw [h6]; decide) (by rw [h6]; rfl) (by decide) ?_
    refine j_aload_n X d_RM_state_93 0 rfl ?_
    refine j_get X fd_RM_108_St 4 (k_lt k_4 hn) (x_St k_4) rfl d_RM_state_94 ?_
    exact j_iret X hr hk (by rw [hF]) rfl d_RM_state_97
  replace hp := hp.2 h6
  replace hF := hF.trans (if_neg h6)
  by_cases h7 : a = 6
  · replace hp := hp.1 h7
    replace hF := hF.trans (if_pos h7)
    refine j_tableIn X (tgt := 98) d_RM_state_9 (by rw [h7]; decide) (by rw [h7]; decide) (by rw [h7]; rfl) (by decide) ?_
    refine j_aload_n X d_RM_state_98 0 rfl ?_
    refine j_get X fd_RM_111_St 4 (k_lt k_4 hn) (x_St k_4) rfl d_RM_state_99 ?_
    exact j_iret X hr hk (by rw [hF]) rfl d_RM_state_102
  replace hp := hp.2 h7
  replace hF := hF.trans (if_neg h7)
  by_cases h8 : a = 7
  · replace hp := hp.1 h8
    replace hF := hF.trans (if_pos h8)
    refine j_tableIn X (tgt := 103) d_RM_state_9 (by rw [h8]; decide) (by rw [h8]; decide) (by rw [h8]; rfl) (by decide) ?_
    refine j_aload_n X d_RM_state_103 1 rfl ?_
    refine j_get X fd_RM_60_RM 0 (by omega) x_RM rfl d_RM_state_104 ?_
    exact j_iret X hr hk (by rw [hF]) rfl d_RM_state_107
  replace hp := hp.2 h8
  replace hF := hF.trans (if_neg h8)
  by_cases h9 : a = 8
  · replace hp := hp.1 h9
    replace hF := hF.trans (if_pos h9)
    refine j_tableIn X (tgt := 108) d_RM_state_9 (by rw [h9]; decide) (by rw [h9]; decide) (by rw [h9]; rfl) (by decide) ?_
    refine j_aload_n X d_RM_state_108 1 rfl ?_
    refine j_get X fd_RM_14_RM 0 (by omega) x_RM rfl d_RM_state_109 ?_
    refine j_get X fd_RM_114_Ma 1 (by omega) x_Ma rfl d_RM_state_112 ?_
    refine j_get X fd_RM_118_Un 6 (by omega) x_Un rfl d_RM_state_115 ?_
    exact j_iret X hr hk (by rw [hF]) rfl d_RM_state_118
  replace hp := hp.2 h9
  replace hF := hF.trans (if_neg h9)
  by_cases h10 : a = 9
  · replace hp := hp.1 h10
    replace hF := hF.trans (if_pos h10)
    refine j_tableIn X (tgt := 119) d_RM_state_9 (by rw [h10]; decide) (by rw [h10]; decide) (by rw [h10]; rfl) (by decide) ?_
    refine j_aload_n X d_RM_state_119 1 rfl ?_
    refine j_get X fd_RM_21_RM 0 (by omega) x_RM rfl d_RM_state_120 ?_
    refine j_get X fd_RM_123_Cp 104 (by omega) x_Cp rfl d_RM_state_123 ?_
    exact j_iret X hr hk (by rw [hF]) rfl d_RM_state_126
  replace hp := hp.2 h10
  replace hF := hF.trans (if_neg h10)
  by_cases h11 : a = 10
  · replace hp := hp.1 h11
    replace hF := hF.trans (if_pos h11)
    refine j_tableIn X (tgt := 127) d_RM_state_9 (by rw [h11]; decide) (by rw [h11]; decide) (by rw [h11]; rfl) (by decide) ?_
    refine j_aload_n X d_RM_state_127 1 rfl ?_
    refine j_get X fd_RM_21_RM 0 (by omega) x_RM rfl d_RM_state_128 ?_
    refine j_get X fd_RM_126_Cp 104 (by omega) x_Cp rfl d_RM_state_131 ?_
    exact j_iret X hr hk (by rw [hF]) rfl d_RM_state_134
  replace hp := hp.2 h11
  replace hF := hF.trans (if_neg h11)
  refine j_tableOut X (tgt := 135) d_RM_state_9 (by have := True.intro; have q0 := lv_neT h1 (a := 0) (by decide); have q1 := lv_neT h2 (a := 1) (by decide); have q2 := lv_neT h3 (a := 2) (by decide); have q3 := lv_neT h4 (a := 3) (by decide); have q4 := lv_neT h5 (a := 4) (by decide); have q5 := lv_neT h6 (a := 5) (by decide); have q6 := lv_neT h7 (a := 6) (by decide); have q7 := lv_neT h8 (a := 7) (by decide); have q8 := lv_neT h9 (a := 8) (by decide); have q9 := lv_neT h10 (a := 9) (by decide); have q10 := lv_neT h11 (a := 10) (by decide); omega) (by decide) ?_
  exact hp.elim
def f_RM_stack (S : xS) (a : Int32) : Int32 := px_let (f_RM_within a (gI S 4 5)) (fun r1 : Int32 => if r1 = 0 then 0 else px_let (f_St_number S 4 a) (fun r5 : Int32 => r5))
def p_RM_stack (S : xS) (a : Int32) : Prop := (∀ r1 : Int32, r1 = (f_RM_within a (gI S 4 5)) → (r1 = 0 → False) ∧ (¬ r1 = 0 → (p_St_number S 4 a) ∧ ((∀ r5 : Int32, r5 = (f_St_number S 4 a) → True))))
abbrev rm_RM_stack : Room := { frames := 2, cells := 0, slots := 0, locals := 42 }
set_option maxHeartbeats 4000000 in
set_option maxRecDepth 100000 in
theorem c_RM_stack (l : Launch) (D : va_G) (aC : Nat → ClassId) (ad : Nat → Nat) (n : Nat) (hn : 124 ≤ n) (c0 : Nat → va_E) (S : xS) (a : Int32)  (hp : p_RM_stack S a) : px_M l y_RM_stack (Cond.code y_RM_stack b_RM_stack 2 (some .int) :: WS) rm_RM_stack GG D CLS (TYS aC) [.ref (ad 0), .int a] ad (xe aC ad S c0) n (some (.int (f_RM_stack S a))) (xe aC ad S c0) := by
  obtain ⟨F, hF⟩ : ∃ F, F = f_RM_stack S a := ⟨_, rfl⟩
  rw [← hF]
  unfold f_RM_stack at hF
  refine px_start GG_k (by decide) (Nat.le_of_ble_eq_true rfl) ?_
  intro p e s m args below meth cd X hr hk
  refine j_L (L' := [(0, .ref (ad 0)), (1, .int a)]) rfl ?_
  unfold p_RM_stack at hp
  refine j_iload_n X d_RM_stack_0 1 rfl ?_
  refine j_aload_n X d_RM_stack_1 0 rfl ?_
  refine j_get X fd_RM_14_RM 0 (by omega) x_RM rfl d_RM_stack_2 ?_
  refine j_get X fd_RM_79_Ma 1 (by omega) x_Ma rfl d_RM_stack_5 ?_
  refine j_get X fd_RM_111_St 4 (k_lt k_4 hn) (x_St k_4) rfl d_RM_stack_8 ?_
  refine j_callP (st := []) X hY_RM_within (c_RM_within l a (gI S 4 5) ) mw_342 hT_RM_within rfl rfl (Nat.le_of_ble_eq_true rfl) d_RM_stack_11 rfl rfl ⟨by decide, by decide⟩ ⟨Nat.zero_le _, Nat.zero_le _⟩ (j_st (st' := [.int (f_RM_within a (gI S 4 5))]) rfl ?_)
  refine j_topi (fun r1 e2 => ?_)
  replace hp := hp r1 e2
  replace hF := hF.trans (px_let_eq e2)
  refine j_if_ne X (tgt := 27) d_RM_stack_14 (by decide) (fun h3 => ?_) (fun h3 => ?_)
  · replace hp := hp.2 h3
    replace hF := hF.trans (if_neg h3)
    refine j_aload_n X d_RM_stack_27 0 rfl ?_
    refine j_get X fd_RM_14_RM 0 (by omega) x_RM rfl d_RM_stack_28 ?_
    refine j_get X fd_RM_79_Ma 1 (by omega) x_Ma rfl d_RM_stack_31 ?_
    refine j_iload_n X d_RM_stack_34 1 rfl ?_
    obtain ⟨o4, hp⟩ := hp
    refine j_callV (st := []) X 4 (k_lt k_4 hn) hY_St_number (c_St_number l D aC ad n hn c0 S 4 a k_4 o4) mw_551 hI_St_number hS_St_number (x_St k_4) rfl rfl rfl (Nat.le_of_ble_eq_true rfl) d_RM_stack_35 rfl rfl ⟨by decide, by decide⟩ ⟨Nat.zero_le _, Nat.zero_le _⟩ (j_st (st' := [.int (f_St_number S 4 a)]) rfl ?_)
    refine j_topi (fun r5 e6 => ?_)
    replace hp := hp r5 e6
    replace hF := hF.trans (px_let_eq e6)
    exact j_iret X hr hk (by rw [hF]) rfl d_RM_stack_38
  · replace hp := hp.1 h3
    replace hF := hF.trans (if_pos h3)
    exact hp.elim
def f_RM_checkpoint (S : xS) (a : Int32) : Int32 := px_let (f_RM_within a (gI S 104 1)) (fun r1 : Int32 => if r1 = 0 then 0 else gI S (iS (gK S a.toNatClampNeg)) 0)
def p_RM_checkpoint (S : xS) (a : Int32) : Prop := (∀ r1 : Int32, r1 = (f_RM_within a (gI S 104 1)) → (r1 = 0 → False) ∧ (¬ r1 = 0 → (vp_in a 8) ∧ (True)))
abbrev rm_RM_checkpoint : Room := { frames := 1, cells := 0, slots := 0, locals := 21 }
set_option maxHeartbeats 4000000 in
set_option maxRecDepth 100000 in
theorem c_RM_checkpoint (l : Launch) (D : va_G) (aC : Nat → ClassId) (ad : Nat → Nat) (n : Nat) (hn : 124 ≤ n) (c0 : Nat → va_E) (S : xS) (a : Int32)  (hp : p_RM_checkpoint S a) : px_M l y_RM_checkpoint (Cond.code y_RM_checkpoint b_RM_checkpoint 2 (some .int) :: WS) rm_RM_checkpoint GG D CLS (TYS aC) [.ref (ad 0), .int a] ad (xe aC ad S c0) n (some (.int (f_RM_checkpoint S a))) (xe aC ad S c0) := by
  obtain ⟨F, hF⟩ : ∃ F, F = f_RM_checkpoint S a := ⟨_, rfl⟩
  rw [← hF]
  unfold f_RM_checkpoint at hF
  refine px_start GG_k (by decide) (Nat.le_of_ble_eq_true rfl) ?_
  intro p e s m args below meth cd X hr hk
  refine j_L (L' := [(0, .ref (ad 0)), (1, .int a)]) rfl ?_
  unfold p_RM_checkpoint at hp
  refine j_iload_n X d_RM_checkpoint_0 1 rfl ?_
  refine j_aload_n X d_RM_checkpoint_1 0 rfl ?_
  refine j_get X fd_RM_21_RM 0 (by omega) x_RM rfl d_RM_checkpoint_2 ?_
  refine j_get X fd_RM_126_Cp 104 (by omega) x_Cp rfl d_RM_checkpoint_5 ?_
  refine j_callP (st := []) X hY_RM_within (c_RM_within l a (gI S 104 1) ) mw_342 hT_RM_within rfl rfl (Nat.le_of_ble_eq_true rfl) d_RM_checkpoint_8 rfl rfl ⟨by decide, by decide⟩ ⟨Nat.zero_le _, Nat.zero_le _⟩ (j_st (st' := [.int (f_RM_within a (gI S 104 1))]) rfl ?_)
  refine j_topi (fun r1 e2 => ?_)
  replace hp := hp r1 e2
  replace hF := hF.trans (px_let_eq e2)
  refine j_if_ne X (tgt := 24) d_RM_checkpoint_11 (by decide) (fun h3 => ?_) (fun h3 => ?_)
  · replace hp := hp.2 h3
    replace hF := hF.trans (if_neg h3)
    refine j_aload_n X d_RM_checkpoint_24 0 rfl ?_
    refine j_get X fd_RM_21_RM 0 (by omega) x_RM rfl d_RM_checkpoint_25 ?_
    refine j_get X fd_RM_139_Cp 104 (by omega) x_Cp rfl d_RM_checkpoint_28 ?_
    refine j_iload_n X d_RM_checkpoint_31 1 rfl ?_
    obtain ⟨o4, hp⟩ := hp
    refine x_aald_kept X hn o4 d_RM_checkpoint_32 rfl ?_
    refine j_get X fd_RM_83_St (iS (gK S a.toNatClampNeg)) (k_lt (k_S _) hn) (x_St (k_S _)) rfl d_RM_checkpoint_33 ?_
    exact j_iret X hr hk (by rw [hF]) rfl d_RM_checkpoint_36
  · replace hp := hp.1 h3
    replace hF := hF.trans (if_pos h3)
    exact hp.elim
