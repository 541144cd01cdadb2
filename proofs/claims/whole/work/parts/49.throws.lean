set_option maxRecDepth 100000 in
theorem at_IOOBE : (Bundle.ownAtoms "ReplayMachine" 40 "java/lang/IndexOutOfBoundsException" NMS).all th_in = true := by decide +kernel
set_option maxRecDepth 100000 in
theorem at_ISE : (Bundle.ownAtoms "ReplayMachine" 51 "java/lang/IllegalStateException" NMS).all th_in = true := by decide +kernel
set_option maxRecDepth 100000 in
theorem at_IAE : (Bundle.ownAtoms "ReplayMachine" 75 "java/lang/IllegalArgumentException" NMS).all th_in = true := by decide +kernel
def tp_RM_poke_IOOBE (S : xS) (a : Int32) (w : Int32) : Prop := (∀ r1 : Int32, r1 = (f_RM_within a 64) → (r1 = 0 → True) ∧ (¬ r1 = 0 → ((gI S 0 4) ≤ 0 → False) ∧ (¬ (gI S 0 4) ≤ 0 → False)))
set_option maxHeartbeats 4000000 in
set_option maxRecDepth 100000 in
theorem th_RM_poke_IOOBE (l : Launch) (hfl : l.flags = pinnedFlags ++ [noTraceFlag]) (D : va_G) (aC : Nat → ClassId) (ad : Nat → Nat) (n : Nat) (hn : 124 ≤ n) (c0 : Nat → va_E) (S : xS) (a : Int32) (w : Int32) (hp : tp_RM_poke_IOOBE S a w) : px_T l y_RM_poke (Cond.code y_RM_poke b_RM_poke 3 none :: WS) rm_T GG D CLS (TYS aC) [.ref (ad 0), .int a, .int w] ad (xe aC ad S c0) n "java/lang/IndexOutOfBoundsException" := by
  refine px_startT GG_k (by decide) (Nat.le_of_ble_eq_true rfl) ?_
  intro p e s m args below meth cd hadm X hP hex hk
  refine z_L (L' := [(0, .ref (ad 0)), (1, .int a), (2, .int w)]) rfl ?_
  unfold tp_RM_poke_IOOBE at hp
  refine z_iload_n X.1 d_RM_poke_0 1 rfl ?_
  refine z_bipush X.1 (v := 64) d_RM_poke_1 (by decide) ?_
  refine z_callP (st := []) X.1 hY_RM_within (c_RM_within l a 64 ) mw_342 hT_RM_within rfl rfl (Nat.le_of_ble_eq_true rfl) d_RM_poke_3 rfl rfl ⟨by decide, by decide⟩ (z_st (st' := [.int (f_RM_within a 64)]) rfl ?_)
  refine z_topi (fun r1 e2 => ?_)
  replace hp := hp r1 e2
  refine z_if_ne X.1 (tgt := 19) d_RM_poke_6 (by decide) (fun h3 => ?_) (fun h3 => ?_)
  · replace hp := hp.2 h3
    refine z_aload_n X.1 d_RM_poke_19 0 rfl ?_
    refine z_get X hP fd_RM_43_RM 0 (by omega) x_RM rfl d_RM_poke_20 ?_
    refine z_if_le X.1 (tgt := 36) d_RM_poke_23 (by decide) (fun h4 => ?_) (fun h4 => ?_)
    · replace hp := hp.1 h4
      refine z_aload_n X.1 d_RM_poke_36 0 rfl ?_
      refine z_get X hP fd_RM_14_RM 0 (by omega) x_RM rfl d_RM_poke_37 ?_
      refine z_get X hP fd_RM_52_Ma 1 (by omega) x_Ma rfl d_RM_poke_40 ?_
      refine z_iload_n X.1 d_RM_poke_43 1 rfl ?_
      refine z_iload_n X.1 d_RM_poke_44 2 rfl ?_
      exact hp.elim
    · replace hp := hp.2 h4
      exact hp.elim
  · replace hp := hp.1 h3
    exact z_throw (tx := "no such place of the code") X hadm hfl hP hex hk mw_355 mw_356 mw_12 (by decide) at_IOOBE (by decide) d_RM_poke_9 d_RM_poke_12 d_RM_poke_13 d_RM_poke_15 d_RM_poke_18 (by decide) (by decide) (by decide) (by decide)
def tp_RM_poke_ISE (S : xS) (a : Int32) (w : Int32) : Prop := (∀ r1 : Int32, r1 = (f_RM_within a 64) → (r1 = 0 → False) ∧ (¬ r1 = 0 → ((gI S 0 4) ≤ 0 → False) ∧ (¬ (gI S 0 4) ≤ 0 → True)))
set_option maxHeartbeats 4000000 in
set_option maxRecDepth 100000 in
theorem th_RM_poke_ISE (l : Launch) (hfl : l.flags = pinnedFlags ++ [noTraceFlag]) (D : va_G) (aC : Nat → ClassId) (ad : Nat → Nat) (n : Nat) (hn : 124 ≤ n) (c0 : Nat → va_E) (S : xS) (a : Int32) (w : Int32) (hp : tp_RM_poke_ISE S a w) : px_T l y_RM_poke (Cond.code y_RM_poke b_RM_poke 3 none :: WS) rm_T GG D CLS (TYS aC) [.ref (ad 0), .int a, .int w] ad (xe aC ad S c0) n "java/lang/IllegalStateException" := by
  refine px_startT GG_k (by decide) (Nat.le_of_ble_eq_true rfl) ?_
  intro p e s m args below meth cd hadm X hP hex hk
  refine z_L (L' := [(0, .ref (ad 0)), (1, .int a), (2, .int w)]) rfl ?_
  unfold tp_RM_poke_ISE at hp
  refine z_iload_n X.1 d_RM_poke_0 1 rfl ?_
  refine z_bipush X.1 (v := 64) d_RM_poke_1 (by decide) ?_
  refine z_callP (st := []) X.1 hY_RM_within (c_RM_within l a 64 ) mw_342 hT_RM_within rfl rfl (Nat.le_of_ble_eq_true rfl) d_RM_poke_3 rfl rfl ⟨by decide, by decide⟩ (z_st (st' := [.int (f_RM_within a 64)]) rfl ?_)
  refine z_topi (fun r1 e2 => ?_)
  replace hp := hp r1 e2
  refine z_if_ne X.1 (tgt := 19) d_RM_poke_6 (by decide) (fun h3 => ?_) (fun h3 => ?_)
  · replace hp := hp.2 h3
    refine z_aload_n X.1 d_RM_poke_19 0 rfl ?_
    refine z_get X hP fd_RM_43_RM 0 (by omega) x_RM rfl d_RM_poke_20 ?_
    refine z_if_le X.1 (tgt := 36) d_RM_poke_23 (by decide) (fun h4 => ?_) (fun h4 => ?_)
    · replace hp := hp.1 h4
      refine z_aload_n X.1 d_RM_poke_36 0 rfl ?_
      refine z_get X hP fd_RM_14_RM 0 (by omega) x_RM rfl d_RM_poke_37 ?_
      refine z_get X hP fd_RM_52_Ma 1 (by omega) x_Ma rfl d_RM_poke_40 ?_
      refine z_iload_n X.1 d_RM_poke_43 1 rfl ?_
      refine z_iload_n X.1 d_RM_poke_44 2 rfl ?_
      exact hp.elim
    · replace hp := hp.2 h4
      exact z_throw (tx := "the machine has run already") X hadm hfl hP hex hk mw_423 mw_424 mw_13 (by decide) at_ISE (by decide) d_RM_poke_26 d_RM_poke_29 d_RM_poke_30 d_RM_poke_32 d_RM_poke_35 (by decide) (by decide) (by decide) (by decide)
  · replace hp := hp.1 h3
    exact hp.elim
def tp_RM_forth_IAE (S : xS) (u : Int32) : Prop := (∀ r1 : Int32, r1 = (f_RM_isFuel u) → (r1 = 0 → True) ∧ (¬ r1 = 0 → False))
set_option maxHeartbeats 4000000 in
set_option maxRecDepth 100000 in
theorem th_RM_forth_IAE (l : Launch) (hfl : l.flags = pinnedFlags ++ [noTraceFlag]) (D : va_G) (aC : Nat → ClassId) (ad : Nat → Nat) (n : Nat) (hn : 124 ≤ n) (c0 : Nat → va_E) (S : xS) (u : Int32) (hp : tp_RM_forth_IAE S u) : px_T l y_RM_forth (Cond.code y_RM_forth b_RM_forth 4 (some .int) :: WS) rm_T GG D CLS (TYS aC) [.ref (ad 0), .int u] ad (xe aC ad S c0) n "java/lang/IllegalArgumentException" := by
  refine px_startT GG_k (by decide) (Nat.le_of_ble_eq_true rfl) ?_
  intro p e s m args below meth cd hadm X hP hex hk
  refine z_L (L' := [(0, .ref (ad 0)), (1, .int u)]) rfl ?_
  unfold tp_RM_forth_IAE at hp
  refine z_iload_n X.1 d_RM_forth_0 1 rfl ?_
  refine z_callP (st := []) X.1 hY_RM_isFuel (c_RM_isFuel l u ) mw_447 hT_RM_isFuel rfl rfl (Nat.le_of_ble_eq_true rfl) d_RM_forth_1 rfl rfl ⟨by decide, by decide⟩ (z_st (st' := [.int (f_RM_isFuel u)]) rfl ?_)
  refine z_topi (fun r1 e2 => ?_)
  replace hp := hp r1 e2
  refine z_if_ne X.1 (tgt := 17) d_RM_forth_4 (by decide) (fun h3 => ?_) (fun h3 => ?_)
  · replace hp := hp.2 h3
    refine z_aload_n X.1 d_RM_forth_17 0 rfl ?_
    refine z_iconst X.1 (v := 0) d_RM_forth_18 (by decide) ?_
    exact hp.elim
  · replace hp := hp.1 h3
    exact z_throw (tx := "fuel is 0 .. 1000") X hadm hfl hP hex hk mw_450 mw_451 mw_16 (by decide) at_IAE (by decide) d_RM_forth_7 d_RM_forth_10 d_RM_forth_11 d_RM_forth_13 d_RM_forth_16 (by decide) (by decide) (by decide) (by decide)
def tp_RM_back_IAE (S : xS) (u : Int32) : Prop := (∀ r1 : Int32, r1 = (f_RM_isFuel u) → (r1 = 0 → True) ∧ (¬ r1 = 0 → False))
set_option maxHeartbeats 4000000 in
set_option maxRecDepth 100000 in
theorem th_RM_back_IAE (l : Launch) (hfl : l.flags = pinnedFlags ++ [noTraceFlag]) (D : va_G) (aC : Nat → ClassId) (ad : Nat → Nat) (n : Nat) (hn : 124 ≤ n) (c0 : Nat → va_E) (S : xS) (u : Int32) (hp : tp_RM_back_IAE S u) : px_T l y_RM_back (Cond.code y_RM_back b_RM_back 4 (some .int) :: WS) rm_T GG D CLS (TYS aC) [.ref (ad 0), .int u] ad (xe aC ad S c0) n "java/lang/IllegalArgumentException" := by
  refine px_startT GG_k (by decide) (Nat.le_of_ble_eq_true rfl) ?_
  intro p e s m args below meth cd hadm X hP hex hk
  refine z_L (L' := [(0, .ref (ad 0)), (1, .int u)]) rfl ?_
  unfold tp_RM_back_IAE at hp
  refine z_iload_n X.1 d_RM_back_0 1 rfl ?_
  refine z_callP (st := []) X.1 hY_RM_isFuel (c_RM_isFuel l u ) mw_447 hT_RM_isFuel rfl rfl (Nat.le_of_ble_eq_true rfl) d_RM_back_1 rfl rfl ⟨by decide, by decide⟩ (z_st (st' := [.int (f_RM_isFuel u)]) rfl ?_)
  refine z_topi (fun r1 e2 => ?_)
  replace hp := hp r1 e2
  refine z_if_ne X.1 (tgt := 17) d_RM_back_4 (by decide) (fun h3 => ?_) (fun h3 => ?_)
  · replace hp := hp.2 h3
    refine z_aload_n X.1 d_RM_back_17 0 rfl ?_
    refine z_iconst X.1 (v := 0) d_RM_back_18 (by decide) ?_
    exact hp.elim
  · replace hp := hp.1 h3
    exact z_throw (tx := "fuel is 0 .. 1000") X hadm hfl hP hex hk mw_450 mw_451 mw_16 (by decide) at_IAE (by decide) d_RM_back_7 d_RM_back_10 d_RM_back_11 d_RM_back_13 d_RM_back_16 (by decide) (by decide) (by decide) (by decide)
def tp_RM_go_IAE (S : xS) (t : Int32) : Prop := (t < 0 → True) ∧ (¬ t < 0 → (t ≤ (gI S 0 4) → False) ∧ (¬ t ≤ (gI S 0 4) → True))
set_option maxHeartbeats 4000000 in
set_option maxRecDepth 100000 in
theorem th_RM_go_IAE (l : Launch) (hfl : l.flags = pinnedFlags ++ [noTraceFlag]) (D : va_G) (aC : Nat → ClassId) (ad : Nat → Nat) (n : Nat) (hn : 124 ≤ n) (c0 : Nat → va_E) (S : xS) (t : Int32) (hp : tp_RM_go_IAE S t) : px_T l y_RM_go (Cond.code y_RM_go b_RM_go 2 none :: WS) rm_T GG D CLS (TYS aC) [.ref (ad 0), .int t] ad (xe aC ad S c0) n "java/lang/IllegalArgumentException" := by
  refine px_startT GG_k (by decide) (Nat.le_of_ble_eq_true rfl) ?_
  intro p e s m args below meth cd hadm X hP hex hk
  refine z_L (L' := [(0, .ref (ad 0)), (1, .int t)]) rfl ?_
  unfold tp_RM_go_IAE at hp
  refine z_iload_n X.1 d_RM_go_0 1 rfl ?_
  refine z_if_lt X.1 (tgt := 12) d_RM_go_1 (by decide) (fun h1 => ?_) (fun h1 => ?_)
  · replace hp := hp.1 h1
    exact z_throw (tx := "the machine has not been at this time") X hadm hfl hP hex hk mw_450 mw_451 mw_16 (by decide) at_IAE (by decide) d_RM_go_12 d_RM_go_15 d_RM_go_16 d_RM_go_18 d_RM_go_21 (by decide) (by decide) (by decide) (by decide)
  · replace hp := hp.2 h1
    refine z_iload_n X.1 d_RM_go_4 1 rfl ?_
    refine z_aload_n X.1 d_RM_go_5 0 rfl ?_
    refine z_get X hP fd_RM_43_RM 0 (by omega) x_RM rfl d_RM_go_6 ?_
    refine z_icmp_le X.1 (tgt := 22) d_RM_go_9 (by decide) (fun h2 => ?_) (fun h2 => ?_)
    · replace hp := hp.1 h2
      refine z_aload_n X.1 d_RM_go_22 0 rfl ?_
      refine z_iconst X.1 (v := 0) d_RM_go_23 (by decide) ?_
      exact hp.elim
    · replace hp := hp.2 h2
      exact z_throw (tx := "the machine has not been at this time") X hadm hfl hP hex hk mw_450 mw_451 mw_16 (by decide) at_IAE (by decide) d_RM_go_12 d_RM_go_15 d_RM_go_16 d_RM_go_18 d_RM_go_21 (by decide) (by decide) (by decide) (by decide)
def tp_RM_setBreak_IOOBE (S : xS) (a : Int32) : Prop := (∀ r1 : Int32, r1 = (f_RM_within a 64) → (r1 = 0 → True) ∧ (¬ r1 = 0 → False))
set_option maxHeartbeats 4000000 in
set_option maxRecDepth 100000 in
theorem th_RM_setBreak_IOOBE (l : Launch) (hfl : l.flags = pinnedFlags ++ [noTraceFlag]) (D : va_G) (aC : Nat → ClassId) (ad : Nat → Nat) (n : Nat) (hn : 124 ≤ n) (c0 : Nat → va_E) (S : xS) (a : Int32) (hp : tp_RM_setBreak_IOOBE S a) : px_T l y_RM_setBreak (Cond.code y_RM_setBreak b_RM_setBreak 2 (some .boolean) :: WS) rm_T GG D CLS (TYS aC) [.ref (ad 0), .int a] ad (xe aC ad S c0) n "java/lang/IndexOutOfBoundsException" := by
  refine px_startT GG_k (by decide) (Nat.le_of_ble_eq_true rfl) ?_
  intro p e s m args below meth cd hadm X hP hex hk
  refine z_L (L' := [(0, .ref (ad 0)), (1, .int a)]) rfl ?_
  unfold tp_RM_setBreak_IOOBE at hp
  refine z_iload_n X.1 d_RM_setBreak_0 1 rfl ?_
  refine z_bipush X.1 (v := 64) d_RM_setBreak_1 (by decide) ?_
  refine z_callP (st := []) X.1 hY_RM_within (c_RM_within l a 64 ) mw_342 hT_RM_within rfl rfl (Nat.le_of_ble_eq_true rfl) d_RM_setBreak_3 rfl rfl ⟨by decide, by decide⟩ (z_st (st' := [.int (f_RM_within a 64)]) rfl ?_)
  refine z_topi (fun r1 e2 => ?_)
  replace hp := hp r1 e2
  refine z_if_ne X.1 (tgt := 19) d_RM_setBreak_6 (by decide) (fun h3 => ?_) (fun h3 => ?_)
  · replace hp := hp.2 h3
    refine z_aload_n X.1 d_RM_setBreak_19 0 rfl ?_
    refine z_get X hP fd_RM_25_RM 0 (by omega) x_RM rfl d_RM_setBreak_20 ?_
    refine z_iload_n X.1 d_RM_setBreak_23 1 rfl ?_
    refine z_iconst X.1 (v := 1) d_RM_setBreak_24 (by decide) ?_
    exact hp.elim
  · replace hp := hp.1 h3
    exact z_throw (tx := "no such place of the code") X hadm hfl hP hex hk mw_355 mw_356 mw_12 (by decide) at_IOOBE (by decide) d_RM_setBreak_9 d_RM_setBreak_12 d_RM_setBreak_13 d_RM_setBreak_15 d_RM_setBreak_18 (by decide) (by decide) (by decide) (by decide)
def tp_RM_clearBreak_IOOBE (S : xS) (a : Int32) : Prop := (∀ r1 : Int32, r1 = (f_RM_within a 64) → (r1 = 0 → True) ∧ (¬ r1 = 0 → False))
set_option maxHeartbeats 4000000 in
set_option maxRecDepth 100000 in
theorem th_RM_clearBreak_IOOBE (l : Launch) (hfl : l.flags = pinnedFlags ++ [noTraceFlag]) (D : va_G) (aC : Nat → ClassId) (ad : Nat → Nat) (n : Nat) (hn : 124 ≤ n) (c0 : Nat → va_E) (S : xS) (a : Int32) (hp : tp_RM_clearBreak_IOOBE S a) : px_T l y_RM_clearBreak (Cond.code y_RM_clearBreak b_RM_clearBreak 2 (some .boolean) :: WS) rm_T GG D CLS (TYS aC) [.ref (ad 0), .int a] ad (xe aC ad S c0) n "java/lang/IndexOutOfBoundsException" := by
  refine px_startT GG_k (by decide) (Nat.le_of_ble_eq_true rfl) ?_
  intro p e s m args below meth cd hadm X hP hex hk
  refine z_L (L' := [(0, .ref (ad 0)), (1, .int a)]) rfl ?_
  unfold tp_RM_clearBreak_IOOBE at hp
  refine z_iload_n X.1 d_RM_clearBreak_0 1 rfl ?_
  refine z_bipush X.1 (v := 64) d_RM_clearBreak_1 (by decide) ?_
  refine z_callP (st := []) X.1 hY_RM_within (c_RM_within l a 64 ) mw_342 hT_RM_within rfl rfl (Nat.le_of_ble_eq_true rfl) d_RM_clearBreak_3 rfl rfl ⟨by decide, by decide⟩ (z_st (st' := [.int (f_RM_within a 64)]) rfl ?_)
  refine z_topi (fun r1 e2 => ?_)
  replace hp := hp r1 e2
  refine z_if_ne X.1 (tgt := 19) d_RM_clearBreak_6 (by decide) (fun h3 => ?_) (fun h3 => ?_)
  · replace hp := hp.2 h3
    refine z_aload_n X.1 d_RM_clearBreak_19 0 rfl ?_
    refine z_get X hP fd_RM_25_RM 0 (by omega) x_RM rfl d_RM_clearBreak_20 ?_
    refine z_iload_n X.1 d_RM_clearBreak_23 1 rfl ?_
    refine z_iconst X.1 (v := 0) d_RM_clearBreak_24 (by decide) ?_
    exact hp.elim
  · replace hp := hp.1 h3
    exact z_throw (tx := "no such place of the code") X hadm hfl hP hex hk mw_355 mw_356 mw_12 (by decide) at_IOOBE (by decide) d_RM_clearBreak_9 d_RM_clearBreak_12 d_RM_clearBreak_13 d_RM_clearBreak_15 d_RM_clearBreak_18 (by decide) (by decide) (by decide) (by decide)
def tp_RM_setWatch_IOOBE (S : xS) (a : Int32) : Prop := (∀ r1 : Int32, r1 = (f_RM_within a 32) → (r1 = 0 → True) ∧ (¬ r1 = 0 → False))
set_option maxHeartbeats 4000000 in
set_option maxRecDepth 100000 in
theorem th_RM_setWatch_IOOBE (l : Launch) (hfl : l.flags = pinnedFlags ++ [noTraceFlag]) (D : va_G) (aC : Nat → ClassId) (ad : Nat → Nat) (n : Nat) (hn : 124 ≤ n) (c0 : Nat → va_E) (S : xS) (a : Int32) (hp : tp_RM_setWatch_IOOBE S a) : px_T l y_RM_setWatch (Cond.code y_RM_setWatch b_RM_setWatch 2 (some .boolean) :: WS) rm_T GG D CLS (TYS aC) [.ref (ad 0), .int a] ad (xe aC ad S c0) n "java/lang/IndexOutOfBoundsException" := by
  refine px_startT GG_k (by decide) (Nat.le_of_ble_eq_true rfl) ?_
  intro p e s m args below meth cd hadm X hP hex hk
  refine z_L (L' := [(0, .ref (ad 0)), (1, .int a)]) rfl ?_
  unfold tp_RM_setWatch_IOOBE at hp
  refine z_iload_n X.1 d_RM_setWatch_0 1 rfl ?_
  refine z_bipush X.1 (v := 32) d_RM_setWatch_1 (by decide) ?_
  refine z_callP (st := []) X.1 hY_RM_within (c_RM_within l a 32 ) mw_342 hT_RM_within rfl rfl (Nat.le_of_ble_eq_true rfl) d_RM_setWatch_3 rfl rfl ⟨by decide, by decide⟩ (z_st (st' := [.int (f_RM_within a 32)]) rfl ?_)
  refine z_topi (fun r1 e2 => ?_)
  replace hp := hp r1 e2
  refine z_if_ne X.1 (tgt := 19) d_RM_setWatch_6 (by decide) (fun h3 => ?_) (fun h3 => ?_)
  · replace hp := hp.2 h3
    refine z_aload_n X.1 d_RM_setWatch_19 0 rfl ?_
    refine z_get X hP fd_RM_29_RM 0 (by omega) x_RM rfl d_RM_setWatch_20 ?_
    refine z_iload_n X.1 d_RM_setWatch_23 1 rfl ?_
    refine z_iconst X.1 (v := 1) d_RM_setWatch_24 (by decide) ?_
    exact hp.elim
  · replace hp := hp.1 h3
    exact z_throw (tx := "no such cell") X hadm hfl hP hex hk mw_355 mw_356 mw_12 (by decide) at_IOOBE (by decide) d_RM_setWatch_9 d_RM_setWatch_12 d_RM_setWatch_13 d_RM_setWatch_15 d_RM_setWatch_18 (by decide) (by decide) (by decide) (by decide)
def tp_RM_clearWatch_IOOBE (S : xS) (a : Int32) : Prop := (∀ r1 : Int32, r1 = (f_RM_within a 32) → (r1 = 0 → True) ∧ (¬ r1 = 0 → False))
set_option maxHeartbeats 4000000 in
set_option maxRecDepth 100000 in
theorem th_RM_clearWatch_IOOBE (l : Launch) (hfl : l.flags = pinnedFlags ++ [noTraceFlag]) (D : va_G) (aC : Nat → ClassId) (ad : Nat → Nat) (n : Nat) (hn : 124 ≤ n) (c0 : Nat → va_E) (S : xS) (a : Int32) (hp : tp_RM_clearWatch_IOOBE S a) : px_T l y_RM_clearWatch (Cond.code y_RM_clearWatch b_RM_clearWatch 2 (some .boolean) :: WS) rm_T GG D CLS (TYS aC) [.ref (ad 0), .int a] ad (xe aC ad S c0) n "java/lang/IndexOutOfBoundsException" := by
  refine px_startT GG_k (by decide) (Nat.le_of_ble_eq_true rfl) ?_
  intro p e s m args below meth cd hadm X hP hex hk
  refine z_L (L' := [(0, .ref (ad 0)), (1, .int a)]) rfl ?_
  unfold tp_RM_clearWatch_IOOBE at hp
  refine z_iload_n X.1 d_RM_clearWatch_0 1 rfl ?_
  refine z_bipush X.1 (v := 32) d_RM_clearWatch_1 (by decide) ?_
  refine z_callP (st := []) X.1 hY_RM_within (c_RM_within l a 32 ) mw_342 hT_RM_within rfl rfl (Nat.le_of_ble_eq_true rfl) d_RM_clearWatch_3 rfl rfl ⟨by decide, by decide⟩ (z_st (st' := [.int (f_RM_within a 32)]) rfl ?_)
  refine z_topi (fun r1 e2 => ?_)
  replace hp := hp r1 e2
  refine z_if_ne X.1 (tgt := 19) d_RM_clearWatch_6 (by decide) (fun h3 => ?_) (fun h3 => ?_)
  · replace hp := hp.2 h3
    refine z_aload_n X.1 d_RM_clearWatch_19 0 rfl ?_
    refine z_get X hP fd_RM_29_RM 0 (by omega) x_RM rfl d_RM_clearWatch_20 ?_
    refine z_iload_n X.1 d_RM_clearWatch_23 1 rfl ?_
    refine z_iconst X.1 (v := 0) d_RM_clearWatch_24 (by decide) ?_
    exact hp.elim
  · replace hp := hp.1 h3
    exact z_throw (tx := "no such cell") X hadm hfl hP hex hk mw_355 mw_356 mw_12 (by decide) at_IOOBE (by decide) d_RM_clearWatch_9 d_RM_clearWatch_12 d_RM_clearWatch_13 d_RM_clearWatch_15 d_RM_clearWatch_18 (by decide) (by decide) (by decide) (by decide)
def tp_RM_state_IOOBE (S : xS) (a : Int32) : Prop := (a = 0 → False) ∧ (¬ a = 0 → (a = 1 → False) ∧ (¬ a = 1 → (a = 2 → False) ∧ (¬ a = 2 → (a = 3 → False) ∧ (¬ a = 3 → (a = 4 → False) ∧ (¬ a = 4 → (a = 5 → False) ∧ (¬ a = 5 → (a = 6 → False) ∧ (¬ a = 6 → (a = 7 → False) ∧ (¬ a = 7 → (a = 8 → False) ∧ (¬ a = 8 → (a = 9 → False) ∧ (¬ a = 9 → (a = 10 → False) ∧ (¬ a = 10 → True)))))))))))
set_option maxHeartbeats 4000000 in
set_option maxRecDepth 100000 in
theorem th_RM_state_IOOBE (l : Launch) (hfl : l.flags = pinnedFlags ++ [noTraceFlag]) (D : va_G) (aC : Nat → ClassId) (ad : Nat → Nat) (n : Nat) (hn : 124 ≤ n) (c0 : Nat → va_E) (S : xS) (a : Int32) (hp : tp_RM_state_IOOBE S a) : px_T l y_RM_state (Cond.code y_RM_state b_RM_state 3 (some .int) :: WS) rm_T GG D CLS (TYS aC) [.ref (ad 0), .int a] ad (xe aC ad S c0) n "java/lang/IndexOutOfBoundsException" := by
  refine px_startT GG_k (by decide) (Nat.le_of_ble_eq_true rfl) ?_
  intro p e s m args below meth cd hadm X hP hex hk
  refine z_L (L' := [(0, .ref (ad 0)), (1, .int a)]) rfl ?_
  unfold tp_RM_state_IOOBE at hp
  refine z_aload_n X.1 d_RM_state_0 0 rfl ?_
  refine z_get X hP fd_RM_14_RM 0 (by omega) x_RM rfl d_RM_state_1 ?_
  refine z_get X hP fd_RM_79_Ma 1 (by omega) x_Ma rfl d_RM_state_4 ?_
  refine z_astore_n X.1 d_RM_state_7 [(2, .ref (ad 4)), (0, .ref (ad 0)), (1, .int a)] (by decide) rfl ?_
  refine z_iload_n X.1 d_RM_state_8 2 rfl ?_
  by_cases h1 : a = 0
  · replace hp := hp.1 h1
    refine z_tableIn X.1 (tgt := 68) d_RM_state_9 (by rw [h1]; decide) (by rw [h1]; decide) (by rw [h1]; rfl) (by decide) ?_
    refine z_aload_n X.1 d_RM_state_68 0 rfl ?_
    refine z_get X hP fd_RM_83_St 4 (k_lt k_4 hn) (x_St k_4) rfl d_RM_state_69 ?_
    exact hp.elim
  replace hp := hp.2 h1
  by_cases h2 : a = 1
  · replace hp := hp.1 h2
    refine z_tableIn X.1 (tgt := 73) d_RM_state_9 (by rw [h2]; decide) (by rw [h2]; decide) (by rw [h2]; rfl) (by decide) ?_
    refine z_aload_n X.1 d_RM_state_73 1 rfl ?_
    refine z_get X hP fd_RM_43_RM 0 (by omega) x_RM rfl d_RM_state_74 ?_
    exact hp.elim
  replace hp := hp.2 h2
  by_cases h3 : a = 2
  · replace hp := hp.1 h3
    refine z_tableIn X.1 (tgt := 78) d_RM_state_9 (by rw [h3]; decide) (by rw [h3]; decide) (by rw [h3]; rfl) (by decide) ?_
    refine z_aload_n X.1 d_RM_state_78 0 rfl ?_
    refine z_get X hP fd_RM_99_St 4 (k_lt k_4 hn) (x_St k_4) rfl d_RM_state_79 ?_
    exact hp.elim
  replace hp := hp.2 h3
  by_cases h4 : a = 3
  · replace hp := hp.1 h4
    refine z_tableIn X.1 (tgt := 83) d_RM_state_9 (by rw [h4]; decide) (by rw [h4]; decide) (by rw [h4]; rfl) (by decide) ?_
    refine z_aload_n X.1 d_RM_state_83 0 rfl ?_
    refine z_get X hP fd_RM_102_St 4 (k_lt k_4 hn) (x_St k_4) rfl d_RM_state_84 ?_
    exact hp.elim
  replace hp := hp.2 h4
  by_cases h5 : a = 4
  · replace hp := hp.1 h5
    refine z_tableIn X.1 (tgt := 88) d_RM_state_9 (by rw [h5]; decide) (by rw [h5]; decide) (by rw [h5]; rfl) (by decide) ?_
    refine z_aload_n X.1 d_RM_state_88 0 rfl ?_
    refine z_get X hP fd_RM_105_St 4 (k_lt k_4 hn) (x_St k_4) rfl d_RM_state_89 ?_
    exact hp.elim
  replace hp := hp.2 h5
  by_cases h6 : a = 5
  · replace hp := hp.1 h6
    refine z_tableIn X.1 (tgt := 93) d_RM_state_9 (by rw [h6]; decide) (by rw [h6]; decide) (by rw [h6]; rfl) (by decide) ?_
    refine z_aload_n X.1 d_RM_state_93 0 rfl ?_
    refine z_get X hP fd_RM_108_St 4 (k_lt k_4 hn) (x_St k_4) rfl d_RM_state_94 ?_
    exact hp.elim
  replace hp := hp.2 h6
  by_cases h7 : a = 6
  · replace hp := hp.1 h7
    refine z_tableIn X.1 (tgt := 98) d_RM_state_9 (by rw [h7]; decide) (by rw [h7]; decide) (by rw [h7]; rfl) (by decide) ?_
    refine z_aload_n X.1 d_RM_state_98 0 rfl ?_
    refine z_get X hP fd_RM_111_St 4 (k_lt k_4 hn) (x_St k_4) rfl d_RM_state_99 ?_
    exact hp.elim
  replace hp := hp.2 h7
  by_cases h8 : a = 7
  · replace hp := hp.1 h8
    refine z_tableIn X.1 (tgt := 103) d_RM_state_9 (by rw [h8]; decide) (by rw [h8]; decide) (by rw [h8]; rfl) (by decide) ?_
    refine z_aload_n X.1 d_RM_state_103 1 rfl ?_
    refine z_get X hP fd_RM_60_RM 0 (by omega) x_RM rfl d_RM_state_104 ?_
    exact hp.elim
  replace hp := hp.2 h8
  by_cases h9 : a = 8
  · replace hp := hp.1 h9
    refine z_tableIn X.1 (tgt := 108) d_RM_state_9 (by rw [h9]; decide) (by rw [h9]; decide) (by rw [h9]; rfl) (by decide) ?_
    refine z_aload_n X.1 d_RM_state_108 1 rfl ?_
    refine z_get X hP fd_RM_14_RM 0 (by omega) x_RM rfl d_RM_state_109 ?_
    refine z_get X hP fd_RM_114_Ma 1 (by omega) x_Ma rfl d_RM_state_112 ?_
    refine z_get X hP fd_RM_118_Un 6 (by omega) x_Un rfl d_RM_state_115 ?_
    exact hp.elim
  replace hp := hp.2 h9
  by_cases h10 : a = 9
  · replace hp := hp.1 h10
    refine z_tableIn X.1 (tgt := 119) d_RM_state_9 (by rw [h10]; decide) (by rw [h10]; decide) (by rw [h10]; rfl) (by decide) ?_
    refine z_aload_n X.1 d_RM_state_119 1 rfl ?_
    refine z_get X hP fd_RM_21_RM 0 (by omega) x_RM rfl d_RM_state_120 ?_
    refine z_get X hP fd_RM_123_Cp 104 (by omega) x_Cp rfl d_RM_state_123 ?_
    exact hp.elim
  replace hp := hp.2 h10
  by_cases h11 : a = 10
  · replace hp := hp.1 h11
    refine z_tableIn X.1 (tgt := 127) d_RM_state_9 (by rw [h11]; decide) (by rw [h11]; decide) (by rw [h11]; rfl) (by decide) ?_
    refine z_aload_n X.1 d_RM_state_127 1 rfl ?_
    refine z_get X hP fd_RM_21_RM 0 (by omega) x_RM rfl d_RM_state_128 ?_
    refine z_get X hP fd_RM_126_Cp 104 (by omega) x_Cp rfl d_RM_state_131 ?_
    exact hp.elim
  replace hp := hp.2 h11
  refine z_tableOut X.1 (tgt := 135) d_RM_state_9 (by have := True.intro; have q0 := lv_neT h1 (a := 0) (by decide); have q1 := lv_neT h2 (a := 1) (by decide); have q2 := lv_neT h3 (a := 2) (by decide); have q3 := lv_neT h4 (a := 3) (by decide); have q4 := lv_neT h5 (a := 4) (by decide); have q5 := lv_neT h6 (a := 5) (by decide); have q6 := lv_neT h7 (a := 6) (by decide); have q7 := lv_neT h8 (a := 7) (by decide); have q8 := lv_neT h9 (a := 8) (by decide); have q9 := lv_neT h10 (a := 9) (by decide); have q10 := lv_neT h11 (a := 10) (by decide); omega) (by decide) ?_
  exact z_throw (tx := "no such part of the state") X hadm hfl hP hex hk mw_355 mw_356 mw_12 (by decide) at_IOOBE (by decide) d_RM_state_135 d_RM_state_138 d_RM_state_139 d_RM_state_141 d_RM_state_144 (by decide) (by decide) (by decide) (by decide)
def tp_RM_stack_IOOBE (S : xS) (a : Int32) : Prop := (∀ r1 : Int32, r1 = (f_RM_within a (gI S 4 5)) → (r1 = 0 → True) ∧ (¬ r1 = 0 → False))
set_option maxHeartbeats 4000000 in
set_option maxRecDepth 100000 in
theorem th_RM_stack_IOOBE (l : Launch) (hfl : l.flags = pinnedFlags ++ [noTraceFlag]) (D : va_G) (aC : Nat → ClassId) (ad : Nat → Nat) (n : Nat) (hn : 124 ≤ n) (c0 : Nat → va_E) (S : xS) (a : Int32) (hp : tp_RM_stack_IOOBE S a) : px_T l y_RM_stack (Cond.code y_RM_stack b_RM_stack 2 (some .int) :: WS) rm_T GG D CLS (TYS aC) [.ref (ad 0), .int a] ad (xe aC ad S c0) n "java/lang/IndexOutOfBoundsException" := by
  refine px_startT GG_k (by decide) (Nat.le_of_ble_eq_true rfl) ?_
  intro p e s m args below meth cd hadm X hP hex hk
  refine z_L (L' := [(0, .ref (ad 0)), (1, .int a)]) rfl ?_
  unfold tp_RM_stack_IOOBE at hp
  refine z_iload_n X.1 d_RM_stack_0 1 rfl ?_
  refine z_aload_n X.1 d_RM_stack_1 0 rfl ?_
  refine z_get X hP fd_RM_14_RM 0 (by omega) x_RM rfl d_RM_stack_2 ?_
  refine z_get X hP fd_RM_79_Ma 1 (by omega) x_Ma rfl d_RM_stack_5 ?_
  refine z_get X hP fd_RM_111_St 4 (k_lt k_4 hn) (x_St k_4) rfl d_RM_stack_8 ?_
  refine z_callP (st := []) X.1 hY_RM_within (c_RM_within l a (gI S 4 5) ) mw_342 hT_RM_within rfl rfl (Nat.le_of_ble_eq_true rfl) d_RM_stack_11 rfl rfl ⟨by decide, by decide⟩ (z_st (st' := [.int (f_RM_within a (gI S 4 5))]) rfl ?_)
  refine z_topi (fun r1 e2 => ?_)
  replace hp := hp r1 e2
  refine z_if_ne X.1 (tgt := 27) d_RM_stack_14 (by decide) (fun h3 => ?_) (fun h3 => ?_)
  · replace hp := hp.2 h3
    refine z_aload_n X.1 d_RM_stack_27 0 rfl ?_
    refine z_get X hP fd_RM_14_RM 0 (by omega) x_RM rfl d_RM_stack_28 ?_
    refine z_get X hP fd_RM_79_Ma 1 (by omega) x_Ma rfl d_RM_stack_31 ?_
    refine z_iload_n X.1 d_RM_stack_34 1 rfl ?_
    exact hp.elim
  · replace hp := hp.1 h3
    exact z_throw (tx := "no such number on the stack") X hadm hfl hP hex hk mw_355 mw_356 mw_12 (by decide) at_IOOBE (by decide) d_RM_stack_17 d_RM_stack_20 d_RM_stack_21 d_RM_stack_23 d_RM_stack_26 (by decide) (by decide) (by decide) (by decide)
def tp_RM_checkpoint_IOOBE (S : xS) (a : Int32) : Prop := (∀ r1 : Int32, r1 = (f_RM_within a (gI S 104 1)) → (r1 = 0 → True) ∧ (¬ r1 = 0 → False))
set_option maxHeartbeats 4000000 in
set_option maxRecDepth 100000 in
theorem th_RM_checkpoint_IOOBE (l : Launch) (hfl : l.flags = pinnedFlags ++ [noTraceFlag]) (D : va_G) (aC : Nat → ClassId) (ad : Nat → Nat) (n : Nat) (hn : 124 ≤ n) (c0 : Nat → va_E) (S : xS) (a : Int32) (hp : tp_RM_checkpoint_IOOBE S a) : px_T l y_RM_checkpoint (Cond.code y_RM_checkpoint b_RM_checkpoint 2 (some .int) :: WS) rm_T GG D CLS (TYS aC) [.ref (ad 0), .int a] ad (xe aC ad S c0) n "java/lang/IndexOutOfBoundsException" := by
  refine px_startT GG_k (by decide) (Nat.le_of_ble_eq_true rfl) ?_
  intro p e s m args below meth cd hadm X hP hex hk
  refine z_L (L' := [(0, .ref (ad 0)), (1, .int a)]) rfl ?_
  unfold tp_RM_checkpoint_IOOBE at hp
  refine z_iload_n X.1 d_RM_checkpoint_0 1 rfl ?_
  refine z_aload_n X.1 d_RM_checkpoint_1 0 rfl ?_
  refine z_get X hP fd_RM_21_RM 0 (by omega) x_RM rfl d_RM_checkpoint_2 ?_
  refine z_get X hP fd_RM_126_Cp 104 (by omega) x_Cp rfl d_RM_checkpoint_5 ?_
  refine z_callP (st := []) X.1 hY_RM_within (c_RM_within l a (gI S 104 1) ) mw_342 hT_RM_within rfl rfl (Nat.le_of_ble_eq_true rfl) d_RM_checkpoint_8 rfl rfl ⟨by decide, by decide⟩ (z_st (st' := [.int (f_RM_within a (gI S 104 1))]) rfl ?_)
  refine z_topi (fun r1 e2 => ?_)
  replace hp := hp r1 e2
  refine z_if_ne X.1 (tgt := 24) d_RM_checkpoint_11 (by decide) (fun h3 => ?_) (fun h3 => ?_)
  · replace hp := hp.2 h3
    refine z_aload_n X.1 d_RM_checkpoint_24 0 rfl ?_
    refine z_get X hP fd_RM_21_RM 0 (by omega) x_RM rfl d_RM_checkpoint_25 ?_
    refine z_get X hP fd_RM_139_Cp 104 (by omega) x_Cp rfl d_RM_checkpoint_28 ?_
    refine z_iload_n X.1 d_RM_checkpoint_31 1 rfl ?_
    exact hp.elim
  · replace hp := hp.1 h3
    exact z_throw (tx := "no such checkpoint") X hadm hfl hP hex hk mw_355 mw_356 mw_12 (by decide) at_IOOBE (by decide) d_RM_checkpoint_14 d_RM_checkpoint_17 d_RM_checkpoint_18 d_RM_checkpoint_20 d_RM_checkpoint_23 (by decide) (by decide) (by decide) (by decide)
