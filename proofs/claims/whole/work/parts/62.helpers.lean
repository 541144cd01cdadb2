abbrev rm_La_poke : Room := { frames := 7, cells := 1, slots := 6, locals := 122 }
set_option maxHeartbeats 4000000 in
set_option maxRecDepth 100000 in
theorem k_poke (l : Launch) (D : va_G) (aC : Nat → ClassId) (ad : Nat → Nat) (n : Nat) (hn : 136 ≤ n) (c0 : Nat → va_E) (S : xS) (a : Int32) (w : Int32) (hp : p_RM_poke S a w) : px_H l y_La_poke (Cond.codeWith y_La_poke b_La_poke 4 (some .int) [(0, 6, 9, 13), (0, 6, 12, 15)] :: WS) rm_La_poke GG D CLS (TYS aC) [.ref (ad 0), .int a, .int w] ad (xe aC ad S c0) n (some (.int 0)) (xe aC ad (f_RM_poke S a w).2 c0) := by
  refine px_startW GG_k (by decide) (Nat.le_of_ble_eq_true rfl) ?_
  intro p e s m args below meth cd hadm X hr hk htab
  refine j_L (L' := [(0, .ref (ad 0)), (1, .int a), (2, .int w)]) rfl ?_
  refine j_aload_n X d_La_poke_0 0 rfl ?_
  refine j_iload_n X d_La_poke_1 1 rfl ?_
  refine j_iload_n X d_La_poke_2 2 rfl ?_
  refine j_callV (st := []) X 0 (by omega) hY_RM_poke (c_RM_poke l D aC ad n (by omega) c0 S a w hp) mw_351 hI_RM_poke hS_RM_poke x_RM rfl rfl rfl (Nat.le_of_ble_eq_true rfl) d_La_poke_3 rfl rfl ⟨by decide, by decide⟩ ⟨Nat.zero_le _, Nat.zero_le _⟩ (j_st (st' := []) rfl ?_)
  refine j_goto X (tgt := 15) d_La_poke_6 (by decide) ?_
  refine j_iconst X (v := 0) d_La_poke_15 (by decide) ?_
  exact j_iretN X hr hk rfl rfl (by decide) (by decide) d_La_poke_16
set_option maxHeartbeats 4000000 in
set_option maxRecDepth 100000 in
theorem k_poke_IOOBE (l : Launch) (hfl : l.flags = pinnedFlags ++ [noTraceFlag]) (D : va_G) (aC : Nat → ClassId) (ad : Nat → Nat) (n : Nat) (hn : 136 ≤ n) (c0 : Nat → va_E) (S : xS) (a : Int32) (w : Int32) (hp : tp_RM_poke_IOOBE S a w) : px_H l y_La_poke (Cond.codeWith y_La_poke b_La_poke 4 (some .int) [(0, 6, 9, 13), (0, 6, 12, 15)] :: WS) rm_La_poke GG D CLS (TYS aC) [.ref (ad 0), .int a, .int w] ad (xe aC ad S c0) n (some (.int 1)) (xe aC ad S c0) := by
  refine px_startW GG_k (by decide) (Nat.le_of_ble_eq_true rfl) ?_
  intro p e s m args below meth cd hadm X hr hk htab
  refine j_L (L' := [(0, .ref (ad 0)), (1, .int a), (2, .int w)]) rfl ?_
  refine j_aload_n X d_La_poke_0 0 rfl ?_
  refine j_iload_n X d_La_poke_1 1 rfl ?_
  refine j_iload_n X d_La_poke_2 2 rfl ?_
  refine j_callT (st := []) X (hd_one (args := args) (adm_pl hadm) X.1.2.2.2.1 (tab2 htab) (by decide) (by decide) (X.1.2.2.2.2 _ mw_349) (va_tabs rfl rfl (X.2.2.2.2.2.2.2.2.2.2.1 (.castable "java/lang/IndexOutOfBoundsException" "java/lang/IndexOutOfBoundsException") (by simp [DW])))) 0 (by omega) hY_RM_poke (th_RM_poke_IOOBE l hfl D aC ad n (by omega) c0 S a w hp) mw_351 hI_RM_poke hS_RM_poke x_RM rfl rfl rfl (Nat.le_of_ble_eq_true rfl) d_La_poke_3 rfl rfl ⟨by decide, by decide⟩ ⟨by decide, by decide⟩ (fun q => ?_)
  refine j_astore_n X d_La_poke_9 [(3, .ref q), (0, .ref (ad 0)), (1, .int a), (2, .int w)] (by decide) rfl ?_
  refine j_iconst X (v := 1) d_La_poke_10 (by decide) ?_
  exact j_iretN X hr hk rfl rfl (by decide) (by decide) d_La_poke_11
set_option maxHeartbeats 4000000 in
set_option maxRecDepth 100000 in
theorem k_poke_ISE (l : Launch) (hfl : l.flags = pinnedFlags ++ [noTraceFlag]) (D : va_G) (aC : Nat → ClassId) (ad : Nat → Nat) (n : Nat) (hn : 136 ≤ n) (c0 : Nat → va_E) (S : xS) (a : Int32) (w : Int32) (hp : tp_RM_poke_ISE S a w) : px_H l y_La_poke (Cond.codeWith y_La_poke b_La_poke 4 (some .int) [(0, 6, 9, 13), (0, 6, 12, 15)] :: WS) rm_La_poke GG D CLS (TYS aC) [.ref (ad 0), .int a, .int w] ad (xe aC ad S c0) n (some (.int 2)) (xe aC ad S c0) := by
  refine px_startW GG_k (by decide) (Nat.le_of_ble_eq_true rfl) ?_
  intro p e s m args below meth cd hadm X hr hk htab
  refine j_L (L' := [(0, .ref (ad 0)), (1, .int a), (2, .int w)]) rfl ?_
  refine j_aload_n X d_La_poke_0 0 rfl ?_
  refine j_iload_n X d_La_poke_1 1 rfl ?_
  refine j_iload_n X d_La_poke_2 2 rfl ?_
  refine j_callT (st := []) X (hd_two (args := args) (adm_pl hadm) X.1.2.2.2.1 (tab2 htab) (by decide) (by decide) (by decide) (by decide) (X.1.2.2.2.2 _ mw_349) (X.1.2.2.2.2 _ mw_350) (va_tabs rfl rfl (X.2.2.2.2.2.2.2.2.2.2.1 (.castable "java/lang/IllegalStateException" "java/lang/IllegalStateException") (by simp [DW]))) X.2.2.2.2.2.2.2.2.2.2.2.2.2.2) 0 (by omega) hY_RM_poke (th_RM_poke_ISE l hfl D aC ad n (by omega) c0 S a w hp) mw_351 hI_RM_poke hS_RM_poke x_RM rfl rfl rfl (Nat.le_of_ble_eq_true rfl) d_La_poke_3 rfl rfl ⟨by decide, by decide⟩ ⟨by decide, by decide⟩ (fun q => ?_)
  refine j_astore_n X d_La_poke_12 [(3, .ref q), (0, .ref (ad 0)), (1, .int a), (2, .int w)] (by decide) rfl ?_
  refine j_iconst X (v := 2) d_La_poke_13 (by decide) ?_
  exact j_iretN X hr hk rfl rfl (by decide) (by decide) d_La_poke_14
abbrev rm_La_forth : Room := { frames := 7, cells := 1, slots := 6, locals := 156 }
set_option maxHeartbeats 4000000 in
set_option maxRecDepth 100000 in
theorem k_forth (l : Launch) (D : va_G) (aC : Nat → ClassId) (ad : Nat → Nat) (n : Nat) (hn : 136 ≤ n) (c0 : Nat → va_E) (f : Nat → Int64) (ho : c0 135 = .inl (aC 4, 1, .inr (.inl f))) (S : xS) (a : Int32) (hp : p_RM_forth S a) : px_H l y_La_forth (Cond.codeWith y_La_forth b_La_forth 4 (some .int) [(0, 9, 12, 21)] :: WS) rm_La_forth GG D CLS (TYS aC) [.ref (ad 0), .int a, .ref (ad 135)] ad (xe aC ad S c0) n (some (.int 0)) (xe aC ad (f_RM_forth S a).2 (va_up c0 135 (.inl (aC 4, 1, .inr (.inl (vp_updL f (0 : Int32).toNatClampNeg ((f_RM_forth S a).1).toInt64)))))) := by
  refine px_startW GG_k (by decide) (Nat.le_of_ble_eq_true rfl) ?_
  intro p e s m args below meth cd hadm X hr hk htab
  refine j_L (L' := [(0, .ref (ad 0)), (1, .int a), (2, .ref (ad 135))]) rfl ?_
  refine j_aload_n X d_La_forth_0 2 rfl ?_
  refine j_iconst X (v := 0) d_La_forth_1 (by decide) ?_
  refine j_aload_n X d_La_forth_2 0 rfl ?_
  refine j_iload_n X d_La_forth_3 1 rfl ?_
  refine j_callV (st := [.int 0, .ref (ad 135)]) X 0 (by omega) hY_RM_forth (c_RM_forth l D aC ad n (by omega) c0 S a hp) mw_443 hI_RM_forth hS_RM_forth x_RM rfl rfl rfl (Nat.le_of_ble_eq_true rfl) d_La_forth_4 rfl rfl ⟨by decide, by decide⟩ ⟨Nat.zero_le _, Nat.zero_le _⟩ (j_st (st' := [.int ((f_RM_forth S a).1), .int 0, .ref (ad 135)]) rfl ?_)
  refine j_i2l X d_La_forth_7 rfl ?_
  refine j_last X 135 4 (by omega) (xe_out.trans ho) rfl (by unfold vp_in; decide) d_La_forth_8 (j_w xe_up ?_)
  refine j_goto X (tgt := 15) d_La_forth_9 (by decide) ?_
  refine j_iconst X (v := 0) d_La_forth_15 (by decide) ?_
  exact j_iretN X hr hk rfl rfl (by decide) (by decide) d_La_forth_16
set_option maxHeartbeats 4000000 in
set_option maxRecDepth 100000 in
theorem k_forth_IAE (l : Launch) (hfl : l.flags = pinnedFlags ++ [noTraceFlag]) (D : va_G) (aC : Nat → ClassId) (ad : Nat → Nat) (n : Nat) (hn : 136 ≤ n) (c0 : Nat → va_E) (S : xS) (a : Int32) (hp : tp_RM_forth_IAE S a) : px_H l y_La_forth (Cond.codeWith y_La_forth b_La_forth 4 (some .int) [(0, 9, 12, 21)] :: WS) rm_La_forth GG D CLS (TYS aC) [.ref (ad 0), .int a, .ref (ad 135)] ad (xe aC ad S c0) n (some (.int 1)) (xe aC ad S c0) := by
  refine px_startW GG_k (by decide) (Nat.le_of_ble_eq_true rfl) ?_
  intro p e s m args below meth cd hadm X hr hk htab
  refine j_L (L' := [(0, .ref (ad 0)), (1, .int a), (2, .ref (ad 135))]) rfl ?_
  refine j_aload_n X d_La_forth_0 2 rfl ?_
  refine j_iconst X (v := 0) d_La_forth_1 (by decide) ?_
  refine j_aload_n X d_La_forth_2 0 rfl ?_
  refine j_iload_n X d_La_forth_3 1 rfl ?_
  refine j_callT (st := [.int 0, .ref (ad 135)]) X (hd_one (args := args) (adm_pl hadm) X.1.2.2.2.1 (tab1 htab) (by decide) (by decide) (X.1.2.2.2.2 _ mw_442) (va_tabs rfl rfl (X.2.2.2.2.2.2.2.2.2.2.1 (.castable "java/lang/IllegalArgumentException" "java/lang/IllegalArgumentException") (by simp [DW])))) 0 (by omega) hY_RM_forth (th_RM_forth_IAE l hfl D aC ad n (by omega) c0 S a hp) mw_443 hI_RM_forth hS_RM_forth x_RM rfl rfl rfl (Nat.le_of_ble_eq_true rfl) d_La_forth_4 rfl rfl ⟨by decide, by decide⟩ ⟨by decide, by decide⟩ (fun q => ?_)
  refine j_astore_n X d_La_forth_12 [(3, .ref q), (0, .ref (ad 0)), (1, .int a), (2, .ref (ad 135))] (by decide) rfl ?_
  refine j_iconst X (v := 1) d_La_forth_13 (by decide) ?_
  exact j_iretN X hr hk rfl rfl (by decide) (by decide) d_La_forth_14
abbrev rm_La_back : Room := { frames := 7, cells := 1, slots := 6, locals := 156 }
set_option maxHeartbeats 4000000 in
set_option maxRecDepth 100000 in
theorem k_back (l : Launch) (D : va_G) (aC : Nat → ClassId) (ad : Nat → Nat) (n : Nat) (hn : 136 ≤ n) (c0 : Nat → va_E) (f : Nat → Int64) (ho : c0 135 = .inl (aC 4, 1, .inr (.inl f))) (S : xS) (a : Int32) (hp : p_RM_back S a) : px_H l y_La_back (Cond.codeWith y_La_back b_La_back 4 (some .int) [(0, 9, 12, 21)] :: WS) rm_La_back GG D CLS (TYS aC) [.ref (ad 0), .int a, .ref (ad 135)] ad (xe aC ad S c0) n (some (.int 0)) (xe aC ad (f_RM_back S a).2 (va_up c0 135 (.inl (aC 4, 1, .inr (.inl (vp_updL f (0 : Int32).toNatClampNeg ((f_RM_back S a).1).toInt64)))))) := by
  refine px_startW GG_k (by decide) (Nat.le_of_ble_eq_true rfl) ?_
  intro p e s m args below meth cd hadm X hr hk htab
  refine j_L (L' := [(0, .ref (ad 0)), (1, .int a), (2, .ref (ad 135))]) rfl ?_
  refine j_aload_n X d_La_back_0 2 rfl ?_
  refine j_iconst X (v := 0) d_La_back_1 (by decide) ?_
  refine j_aload_n X d_La_back_2 0 rfl ?_
  refine j_iload_n X d_La_back_3 1 rfl ?_
  refine j_callV (st := [.int 0, .ref (ad 135)]) X 0 (by omega) hY_RM_back (c_RM_back l D aC ad n (by omega) c0 S a hp) mw_473 hI_RM_back hS_RM_back x_RM rfl rfl rfl (Nat.le_of_ble_eq_true rfl) d_La_back_4 rfl rfl ⟨by decide, by decide⟩ ⟨Nat.zero_le _, Nat.zero_le _⟩ (j_st (st' := [.int ((f_RM_back S a).1), .int 0, .ref (ad 135)]) rfl ?_)
  refine j_i2l X d_La_back_7 rfl ?_
  refine j_last X 135 4 (by omega) (xe_out.trans ho) rfl (by unfold vp_in; decide) d_La_back_8 (j_w xe_up ?_)
  refine j_goto X (tgt := 15) d_La_back_9 (by decide) ?_
  refine j_iconst X (v := 0) d_La_back_15 (by decide) ?_
  exact j_iretN X hr hk rfl rfl (by decide) (by decide) d_La_back_16
set_option maxHeartbeats 4000000 in
set_option maxRecDepth 100000 in
theorem k_back_IAE (l : Launch) (hfl : l.flags = pinnedFlags ++ [noTraceFlag]) (D : va_G) (aC : Nat → ClassId) (ad : Nat → Nat) (n : Nat) (hn : 136 ≤ n) (c0 : Nat → va_E) (S : xS) (a : Int32) (hp : tp_RM_back_IAE S a) : px_H l y_La_back (Cond.codeWith y_La_back b_La_back 4 (some .int) [(0, 9, 12, 21)] :: WS) rm_La_back GG D CLS (TYS aC) [.ref (ad 0), .int a, .ref (ad 135)] ad (xe aC ad S c0) n (some (.int 1)) (xe aC ad S c0) := by
  refine px_startW GG_k (by decide) (Nat.le_of_ble_eq_true rfl) ?_
  intro p e s m args below meth cd hadm X hr hk htab
  refine j_L (L' := [(0, .ref (ad 0)), (1, .int a), (2, .ref (ad 135))]) rfl ?_
  refine j_aload_n X d_La_back_0 2 rfl ?_
  refine j_iconst X (v := 0) d_La_back_1 (by decide) ?_
  refine j_aload_n X d_La_back_2 0 rfl ?_
  refine j_iload_n X d_La_back_3 1 rfl ?_
  refine j_callT (st := [.int 0, .ref (ad 135)]) X (hd_one (args := args) (adm_pl hadm) X.1.2.2.2.1 (tab1 htab) (by decide) (by decide) (X.1.2.2.2.2 _ mw_442) (va_tabs rfl rfl (X.2.2.2.2.2.2.2.2.2.2.1 (.castable "java/lang/IllegalArgumentException" "java/lang/IllegalArgumentException") (by simp [DW])))) 0 (by omega) hY_RM_back (th_RM_back_IAE l hfl D aC ad n (by omega) c0 S a hp) mw_473 hI_RM_back hS_RM_back x_RM rfl rfl rfl (Nat.le_of_ble_eq_true rfl) d_La_back_4 rfl rfl ⟨by decide, by decide⟩ ⟨by decide, by decide⟩ (fun q => ?_)
  refine j_astore_n X d_La_back_12 [(3, .ref q), (0, .ref (ad 0)), (1, .int a), (2, .ref (ad 135))] (by decide) rfl ?_
  refine j_iconst X (v := 1) d_La_back_13 (by decide) ?_
  exact j_iretN X hr hk rfl rfl (by decide) (by decide) d_La_back_14
abbrev rm_La_go : Room := { frames := 7, cells := 1, slots := 6, locals := 154 }
set_option maxHeartbeats 4000000 in
set_option maxRecDepth 100000 in
theorem k_go (l : Launch) (D : va_G) (aC : Nat → ClassId) (ad : Nat → Nat) (n : Nat) (hn : 136 ≤ n) (c0 : Nat → va_E) (S : xS) (a : Int32) (hp : p_RM_go S a) : px_H l y_La_go (Cond.codeWith y_La_go b_La_go 3 (some .int) [(0, 5, 8, 21)] :: WS) rm_La_go GG D CLS (TYS aC) [.ref (ad 0), .int a] ad (xe aC ad S c0) n (some (.int 0)) (xe aC ad (f_RM_go S a).2 c0) := by
  refine px_startW GG_k (by decide) (Nat.le_of_ble_eq_true rfl) ?_
  intro p e s m args below meth cd hadm X hr hk htab
  refine j_L (L' := [(0, .ref (ad 0)), (1, .int a)]) rfl ?_
  refine j_aload_n X d_La_go_0 0 rfl ?_
  refine j_iload_n X d_La_go_1 1 rfl ?_
  refine j_callV (st := []) X 0 (by omega) hY_RM_go (c_RM_go l D aC ad n (by omega) c0 S a hp) mw_498 hI_RM_go hS_RM_go x_RM rfl rfl rfl (Nat.le_of_ble_eq_true rfl) d_La_go_2 rfl rfl ⟨by decide, by decide⟩ ⟨Nat.zero_le _, Nat.zero_le _⟩ (j_st (st' := []) rfl ?_)
  refine j_goto X (tgt := 11) d_La_go_5 (by decide) ?_
  refine j_iconst X (v := 0) d_La_go_11 (by decide) ?_
  exact j_iretN X hr hk rfl rfl (by decide) (by decide) d_La_go_12
set_option maxHeartbeats 4000000 in
set_option maxRecDepth 100000 in
theorem k_go_IAE (l : Launch) (hfl : l.flags = pinnedFlags ++ [noTraceFlag]) (D : va_G) (aC : Nat → ClassId) (ad : Nat → Nat) (n : Nat) (hn : 136 ≤ n) (c0 : Nat → va_E) (S : xS) (a : Int32) (hp : tp_RM_go_IAE S a) : px_H l y_La_go (Cond.codeWith y_La_go b_La_go 3 (some .int) [(0, 5, 8, 21)] :: WS) rm_La_go GG D CLS (TYS aC) [.ref (ad 0), .int a] ad (xe aC ad S c0) n (some (.int 1)) (xe aC ad S c0) := by
  refine px_startW GG_k (by decide) (Nat.le_of_ble_eq_true rfl) ?_
  intro p e s m args below meth cd hadm X hr hk htab
  refine j_L (L' := [(0, .ref (ad 0)), (1, .int a)]) rfl ?_
  refine j_aload_n X d_La_go_0 0 rfl ?_
  refine j_iload_n X d_La_go_1 1 rfl ?_
  refine j_callT (st := []) X (hd_one (args := args) (adm_pl hadm) X.1.2.2.2.1 (tab1 htab) (by decide) (by decide) (X.1.2.2.2.2 _ mw_442) (va_tabs rfl rfl (X.2.2.2.2.2.2.2.2.2.2.1 (.castable "java/lang/IllegalArgumentException" "java/lang/IllegalArgumentException") (by simp [DW])))) 0 (by omega) hY_RM_go (th_RM_go_IAE l hfl D aC ad n (by omega) c0 S a hp) mw_498 hI_RM_go hS_RM_go x_RM rfl rfl rfl (Nat.le_of_ble_eq_true rfl) d_La_go_2 rfl rfl ⟨by decide, by decide⟩ ⟨by decide, by decide⟩ (fun q => ?_)
  refine j_astore_n X d_La_go_8 [(2, .ref q), (0, .ref (ad 0)), (1, .int a)] (by decide) rfl ?_
  refine j_iconst X (v := 1) d_La_go_9 (by decide) ?_
  exact j_iretN X hr hk rfl rfl (by decide) (by decide) d_La_go_10
abbrev rm_La_setBreak : Room := { frames := 7, cells := 1, slots := 6, locals := 121 }
set_option maxHeartbeats 4000000 in
set_option maxRecDepth 100000 in
theorem k_setBreak (l : Launch) (D : va_G) (aC : Nat → ClassId) (ad : Nat → Nat) (n : Nat) (hn : 136 ≤ n) (c0 : Nat → va_E) (f : Nat → Int64) (ho : c0 135 = .inl (aC 4, 1, .inr (.inl f))) (S : xS) (a : Int32) (hp : p_RM_setBreak S a) : px_H l y_La_setBreak (Cond.codeWith y_La_setBreak b_La_setBreak 4 (some .int) [(0, 16, 19, 13)] :: WS) rm_La_setBreak GG D CLS (TYS aC) [.ref (ad 0), .int a, .ref (ad 135)] ad (xe aC ad S c0) n (some (.int 0)) (xe aC ad (f_RM_setBreak S a).2 (va_up c0 135 (.inl (aC 4, 1, .inr (.inl (vp_updL f (0 : Int32).toNatClampNeg (if (f_RM_setBreak S a).1 = 0 then (0 : Int64) else 1))))))) := by
  refine px_startW GG_k (by decide) (Nat.le_of_ble_eq_true rfl) ?_
  intro p e s m args below meth cd hadm X hr hk htab
  refine j_L (L' := [(0, .ref (ad 0)), (1, .int a), (2, .ref (ad 135))]) rfl ?_
  refine j_aload_n X d_La_setBreak_0 2 rfl ?_
  refine j_iconst X (v := 0) d_La_setBreak_1 (by decide) ?_
  refine j_aload_n X d_La_setBreak_2 0 rfl ?_
  refine j_iload_n X d_La_setBreak_3 1 rfl ?_
  refine j_callV (st := [.int 0, .ref (ad 135)]) X 0 (by omega) hY_RM_setBreak (c_RM_setBreak l D aC ad n (by omega) c0 S a hp) mw_506 hI_RM_setBreak hS_RM_setBreak x_RM rfl rfl rfl (Nat.le_of_ble_eq_true rfl) d_La_setBreak_4 rfl rfl ⟨by decide, by decide⟩ ⟨Nat.zero_le _, Nat.zero_le _⟩ (j_st (st' := [.int ((f_RM_setBreak S a).1), .int 0, .ref (ad 135)]) rfl ?_)
  refine j_if_eq X (tgt := 14) d_La_setBreak_7 (by decide) (fun h => ?_) (fun h => ?_)
  · refine j_lconst X (v := 0) d_La_setBreak_14 rfl ?_
    refine j_last X 135 4 (by omega) (xe_out.trans ho) rfl (by unfold vp_in; decide) d_La_setBreak_15 (j_w xe_up ?_)
    refine j_goto X (tgt := 22) d_La_setBreak_16 (by decide) ?_
    refine j_iconst X (v := 0) d_La_setBreak_22 (by decide) ?_
    exact j_iretN X hr hk rfl (by rw [if_pos h]) (by decide) (by decide) d_La_setBreak_23
  · refine j_lconst X (v := 1) d_La_setBreak_10 rfl ?_
    refine j_goto X (tgt := 15) d_La_setBreak_11 (by decide) ?_
    refine j_last X 135 4 (by omega) (xe_out.trans ho) rfl (by unfold vp_in; decide) d_La_setBreak_15 (j_w xe_up ?_)
    refine j_goto X (tgt := 22) d_La_setBreak_16 (by decide) ?_
    refine j_iconst X (v := 0) d_La_setBreak_22 (by decide) ?_
    exact j_iretN X hr hk rfl (by rw [if_neg h]) (by decide) (by decide) d_La_setBreak_23
set_option maxHeartbeats 4000000 in
set_option maxRecDepth 100000 in
theorem k_setBreak_IOOBE (l : Launch) (hfl : l.flags = pinnedFlags ++ [noTraceFlag]) (D : va_G) (aC : Nat → ClassId) (ad : Nat → Nat) (n : Nat) (hn : 136 ≤ n) (c0 : Nat → va_E) (S : xS) (a : Int32) (hp : tp_RM_setBreak_IOOBE S a) : px_H l y_La_setBreak (Cond.codeWith y_La_setBreak b_La_setBreak 4 (some .int) [(0, 16, 19, 13)] :: WS) rm_La_setBreak GG D CLS (TYS aC) [.ref (ad 0), .int a, .ref (ad 135)] ad (xe aC ad S c0) n (some (.int 1)) (xe aC ad S c0) := by
  refine px_startW GG_k (by decide) (Nat.le_of_ble_eq_true rfl) ?_
  intro p e s m args below meth cd hadm X hr hk htab
  refine j_L (L' := [(0, .ref (ad 0)), (1, .int a), (2, .ref (ad 135))]) rfl ?_
  refine j_aload_n X d_La_setBreak_0 2 rfl ?_
  refine j_iconst X (v := 0) d_La_setBreak_1 (by decide) ?_
  refine j_aload_n X d_La_setBreak_2 0 rfl ?_
  refine j_iload_n X d_La_setBreak_3 1 rfl ?_
  refine j_callT (st := [.int 0, .ref (ad 135)]) X (hd_one (args := args) (adm_pl hadm) X.1.2.2.2.1 (tab1 htab) (by decide) (by decide) (X.1.2.2.2.2 _ mw_349) (va_tabs rfl rfl (X.2.2.2.2.2.2.2.2.2.2.1 (.castable "java/lang/IndexOutOfBoundsException" "java/lang/IndexOutOfBoundsException") (by simp [DW])))) 0 (by omega) hY_RM_setBreak (th_RM_setBreak_IOOBE l hfl D aC ad n (by omega) c0 S a hp) mw_506 hI_RM_setBreak hS_RM_setBreak x_RM rfl rfl rfl (Nat.le_of_ble_eq_true rfl) d_La_setBreak_4 rfl rfl ⟨by decide, by decide⟩ ⟨by decide, by decide⟩ (fun q => ?_)
  refine j_astore_n X d_La_setBreak_19 [(3, .ref q), (0, .ref (ad 0)), (1, .int a), (2, .ref (ad 135))] (by decide) rfl ?_
  refine j_iconst X (v := 1) d_La_setBreak_20 (by decide) ?_
  exact j_iretN X hr hk rfl rfl (by decide) (by decide) d_La_setBreak_21
abbrev rm_La_clearBreak : Room := { frames := 7, cells := 1, slots := 6, locals := 121 }
set_option maxHeartbeats 4000000 in
set_option maxRecDepth 100000 in
theorem k_clearBreak (l : Launch) (D : va_G) (aC : Nat → ClassId) (ad : Nat → Nat) (n : Nat) (hn : 136 ≤ n) (c0 : Nat → va_E) (f : Nat → Int64) (ho : c0 135 = .inl (aC 4, 1, .inr (.inl f))) (S : xS) (a : Int32) (hp : p_RM_clearBreak S a) : px_H l y_La_clearBreak (Cond.codeWith y_La_clearBreak b_La_clearBreak 4 (some .int) [(0, 16, 19, 13)] :: WS) rm_La_clearBreak GG D CLS (TYS aC) [.ref (ad 0), .int a, .ref (ad 135)] ad (xe aC ad S c0) n (some (.int 0)) (xe aC ad (f_RM_clearBreak S a).2 (va_up c0 135 (.inl (aC 4, 1, .inr (.inl (vp_updL f (0 : Int32).toNatClampNeg (if (f_RM_clearBreak S a).1 = 0 then (0 : Int64) else 1))))))) := by
  refine px_startW GG_k (by decide) (Nat.le_of_ble_eq_true rfl) ?_
  intro p e s m args below meth cd hadm X hr hk htab
  refine j_L (L' := [(0, .ref (ad 0)), (1, .int a), (2, .ref (ad 135))]) rfl ?_
  refine j_aload_n X d_La_clearBreak_0 2 rfl ?_
  refine j_iconst X (v := 0) d_La_clearBreak_1 (by decide) ?_
  refine j_aload_n X d_La_clearBreak_2 0 rfl ?_
  refine j_iload_n X d_La_clearBreak_3 1 rfl ?_
  refine j_callV (st := [.int 0, .ref (ad 135)]) X 0 (by omega) hY_RM_clearBreak (c_RM_clearBreak l D aC ad n (by omega) c0 S a hp) mw_516 hI_RM_clearBreak hS_RM_clearBreak x_RM rfl rfl rfl (Nat.le_of_ble_eq_true rfl) d_La_clearBreak_4 rfl rfl ⟨by decide, by decide⟩ ⟨Nat.zero_le _, Nat.zero_le _⟩ (j_st (st' := [.int ((f_RM_clearBreak S a).1), .int 0, .ref (ad 135)]) rfl ?_)
  refine j_if_eq X (tgt := 14) d_La_clearBreak_7 (by decide) (fun h => ?_) (fun h => ?_)
  · refine j_lconst X (v := 0) d_La_clearBreak_14 rfl ?_
    refine j_last X 135 4 (by omega) (xe_out.trans ho) rfl (by unfold vp_in; decide) d_La_clearBreak_15 (j_w xe_up ?_)
    refine j_goto X (tgt := 22) d_La_clearBreak_16 (by decide) ?_
    refine j_iconst X (v := 0) d_La_clearBreak_22 (by decide) ?_
    exact j_iretN X hr hk rfl (by rw [if_pos h]) (by decide) (by decide) d_La_clearBreak_23
  · refine j_lconst X (v := 1) d_La_clearBreak_10 rfl ?_
    refine j_goto X (tgt := 15) d_La_clearBreak_11 (by decide) ?_
    refine j_last X 135 4 (by omega) (xe_out.trans ho) rfl (by unfold vp_in; decide) d_La_clearBreak_15 (j_w xe_up ?_)
    refine j_goto X (tgt := 22) d_La_clearBreak_16 (by decide) ?_
    refine j_iconst X (v := 0) d_La_clearBreak_22 (by decide) ?_
    exact j_iretN X hr hk rfl (by rw [if_neg h]) (by decide) (by decide) d_La_clearBreak_23
set_option maxHeartbeats 4000000 in
set_option maxRecDepth 100000 in
theorem k_clearBreak_IOOBE (l : Launch) (hfl : l.flags = pinnedFlags ++ [noTraceFlag]) (D : va_G) (aC : Nat → ClassId) (ad : Nat → Nat) (n : Nat) (hn : 136 ≤ n) (c0 : Nat → va_E) (S : xS) (a : Int32) (hp : tp_RM_clearBreak_IOOBE S a) : px_H l y_La_clearBreak (Cond.codeWith y_La_clearBreak b_La_clearBreak 4 (some .int) [(0, 16, 19, 13)] :: WS) rm_La_clearBreak GG D CLS (TYS aC) [.ref (ad 0), .int a, .ref (ad 135)] ad (xe aC ad S c0) n (some (.int 1)) (xe aC ad S c0) := by
  refine px_startW GG_k (by decide) (Nat.le_of_ble_eq_true rfl) ?_
  intro p e s m args below meth cd hadm X hr hk htab
  refine j_L (L' := [(0, .ref (ad 0)), (1, .int a), (2, .ref (ad 135))]) rfl ?_
  refine j_aload_n X d_La_clearBreak_0 2 rfl ?_
  refine j_iconst X (v := 0) d_La_clearBreak_1 (by decide) ?_
  refine j_aload_n X d_La_clearBreak_2 0 rfl ?_
  refine j_iload_n X d_La_clearBreak_3 1 rfl ?_
  refine j_callT (st := [.int 0, .ref (ad 135)]) X (hd_one (args := args) (adm_pl hadm) X.1.2.2.2.1 (tab1 htab) (by decide) (by decide) (X.1.2.2.2.2 _ mw_349) (va_tabs rfl rfl (X.2.2.2.2.2.2.2.2.2.2.1 (.castable "java/lang/IndexOutOfBoundsException" "java/lang/IndexOutOfBoundsException") (by simp [DW])))) 0 (by omega) hY_RM_clearBreak (th_RM_clearBreak_IOOBE l hfl D aC ad n (by omega) c0 S a hp) mw_516 hI_RM_clearBreak hS_RM_clearBreak x_RM rfl rfl rfl (Nat.le_of_ble_eq_true rfl) d_La_clearBreak_4 rfl rfl ⟨by decide, by decide⟩ ⟨by decide, by decide⟩ (fun q => ?_)
  refine j_astore_n X d_La_clearBreak_19 [(3, .ref q), (0, .ref (ad 0)), (1, .int a), (2, .ref (ad 135))] (by decide) rfl ?_
  refine j_iconst X (v := 1) d_La_clearBreak_20 (by decide) ?_
  exact j_iretN X hr hk rfl rfl (by decide) (by decide) d_La_clearBreak_21
abbrev rm_La_setWatch : Room := { frames := 7, cells := 1, slots := 6, locals := 121 }
set_option maxHeartbeats 4000000 in
set_option maxRecDepth 100000 in
theorem k_setWatch (l : Launch) (D : va_G) (aC : Nat → ClassId) (ad : Nat → Nat) (n : Nat) (hn : 136 ≤ n) (c0 : Nat → va_E) (f : Nat → Int64) (ho : c0 135 = .inl (aC 4, 1, .inr (.inl f))) (S : xS) (a : Int32) (hp : p_RM_setWatch S a) : px_H l y_La_setWatch (Cond.codeWith y_La_setWatch b_La_setWatch 4 (some .int) [(0, 16, 19, 13)] :: WS) rm_La_setWatch GG D CLS (TYS aC) [.ref (ad 0), .int a, .ref (ad 135)] ad (xe aC ad S c0) n (some (.int 0)) (xe aC ad (f_RM_setWatch S a).2 (va_up c0 135 (.inl (aC 4, 1, .inr (.inl (vp_updL f (0 : Int32).toNatClampNeg (if (f_RM_setWatch S a).1 = 0 then (0 : Int64) else 1))))))) := by
  refine px_startW GG_k (by decide) (Nat.le_of_ble_eq_true rfl) ?_
  intro p e s m args below meth cd hadm X hr hk htab
  refine j_L (L' := [(0, .ref (ad 0)), (1, .int a), (2, .ref (ad 135))]) rfl ?_
  refine j_aload_n X d_La_setWatch_0 2 rfl ?_
  refine j_iconst X (v := 0) d_La_setWatch_1 (by decide) ?_
  refine j_aload_n X d_La_setWatch_2 0 rfl ?_
  refine j_iload_n X d_La_setWatch_3 1 rfl ?_
  refine j_callV (st := [.int 0, .ref (ad 135)]) X 0 (by omega) hY_RM_setWatch (c_RM_setWatch l D aC ad n (by omega) c0 S a hp) mw_523 hI_RM_setWatch hS_RM_setWatch x_RM rfl rfl rfl (Nat.le_of_ble_eq_true rfl) d_La_setWatch_4 rfl rfl ⟨by decide, by decide⟩ ⟨Nat.zero_le _, Nat.zero_le _⟩ (j_st (st' := [.int ((f_RM_setWatch S a).1), .int 0, .ref (ad 135)]) rfl ?_)
  refine j_if_eq X (tgt := 14) d_La_setWatch_7 (by decide) (fun h => ?_) (fun h => ?_)
  · refine j_lconst X (v := 0) d_La_setWatch_14 rfl ?_
    refine j_last X 135 4 (by omega) (xe_out.trans ho) rfl (by unfold vp_in; decide) d_La_setWatch_15 (j_w xe_up ?_)
    refine j_goto X (tgt := 22) d_La_setWatch_16 (by decide) ?_
    refine j_iconst X (v := 0) d_La_setWatch_22 (by decide) ?_
    exact j_iretN X hr hk rfl (by rw [if_pos h]) (by decide) (by decide) d_La_setWatch_23
  · refine j_lconst X (v := 1) d_La_setWatch_10 rfl ?_
    refine j_goto X (tgt := 15) d_La_setWatch_11 (by decide) ?_
    refine j_last X 135 4 (by omega) (xe_out.trans ho) rfl (by unfold vp_in; decide) d_La_setWatch_15 (j_w xe_up ?_)
    refine j_goto X (tgt := 22) d_La_setWatch_16 (by decide) ?_
    refine j_iconst X (v := 0) d_La_setWatch_22 (by decide) ?_
    exact j_iretN X hr hk rfl (by rw [if_neg h]) (by decide) (by decide) d_La_setWatch_23
set_option maxHeartbeats 4000000 in
set_option maxRecDepth 100000 in
theorem k_setWatch_IOOBE (l : Launch) (hfl : l.flags = pinnedFlags ++ [noTraceFlag]) (D : va_G) (aC : Nat → ClassId) (ad : Nat → Nat) (n : Nat) (hn : 136 ≤ n) (c0 : Nat → va_E) (S : xS) (a : Int32) (hp : tp_RM_setWatch_IOOBE S a) : px_H l y_La_setWatch (Cond.codeWith y_La_setWatch b_La_setWatch 4 (some .int) [(0, 16, 19, 13)] :: WS) rm_La_setWatch GG D CLS (TYS aC) [.ref (ad 0), .int a, .ref (ad 135)] ad (xe aC ad S c0) n (some (.int 1)) (xe aC ad S c0) := by
  refine px_startW GG_k (by decide) (Nat.le_of_ble_eq_true rfl) ?_
  intro p e s m args below meth cd hadm X hr hk htab
  refine j_L (L' := [(0, .ref (ad 0)), (1, .int a), (2, .ref (ad 135))]) rfl ?_
  refine j_aload_n X d_La_setWatch_0 2 rfl ?_
  refine j_iconst X (v := 0) d_La_setWatch_1 (by decide) ?_
  refine j_aload_n X d_La_setWatch_2 0 rfl ?_
  refine j_iload_n X d_La_setWatch_3 1 rfl ?_
  refine j_callT (st := [.int 0, .ref (ad 135)]) X (hd_one (args := args) (adm_pl hadm) X.1.2.2.2.1 (tab1 htab) (by decide) (by decide) (X.1.2.2.2.2 _ mw_349) (va_tabs rfl rfl (X.2.2.2.2.2.2.2.2.2.2.1 (.castable "java/lang/IndexOutOfBoundsException" "java/lang/IndexOutOfBoundsException") (by simp [DW])))) 0 (by omega) hY_RM_setWatch (th_RM_setWatch_IOOBE l hfl D aC ad n (by omega) c0 S a hp) mw_523 hI_RM_setWatch hS_RM_setWatch x_RM rfl rfl rfl (Nat.le_of_ble_eq_true rfl) d_La_setWatch_4 rfl rfl ⟨by decide, by decide⟩ ⟨by decide, by decide⟩ (fun q => ?_)
  refine j_astore_n X d_La_setWatch_19 [(3, .ref q), (0, .ref (ad 0)), (1, .int a), (2, .ref (ad 135))] (by decide) rfl ?_
  refine j_iconst X (v := 1) d_La_setWatch_20 (by decide) ?_
  exact j_iretN X hr hk rfl rfl (by decide) (by decide) d_La_setWatch_21
abbrev rm_La_clearWatch : Room := { frames := 7, cells := 1, slots := 6, locals := 121 }
set_option maxHeartbeats 4000000 in
set_option maxRecDepth 100000 in
theorem k_clearWatch (l : Launch) (D : va_G) (aC : Nat → ClassId) (ad : Nat → Nat) (n : Nat) (hn : 136 ≤ n) (c0 : Nat → va_E) (f : Nat → Int64) (ho : c0 135 = .inl (aC 4, 1, .inr (.inl f))) (S : xS) (a : Int32) (hp : p_RM_clearWatch S a) : px_H l y_La_clearWatch (Cond.codeWith y_La_clearWatch b_La_clearWatch 4 (some .int) [(0, 16, 19, 13)] :: WS) rm_La_clearWatch GG D CLS (TYS aC) [.ref (ad 0), .int a, .ref (ad 135)] ad (xe aC ad S c0) n (some (.int 0)) (xe aC ad (f_RM_clearWatch S a).2 (va_up c0 135 (.inl (aC 4, 1, .inr (.inl (vp_updL f (0 : Int32).toNatClampNeg (if (f_RM_clearWatch S a).1 = 0 then (0 : Int64) else 1))))))) := by
  refine px_startW GG_k (by decide) (Nat.le_of_ble_eq_true rfl) ?_
  intro p e s m args below meth cd hadm X hr hk htab
  refine j_L (L' := [(0, .ref (ad 0)), (1, .int a), (2, .ref (ad 135))]) rfl ?_
  refine j_aload_n X d_La_clearWatch_0 2 rfl ?_
  refine j_iconst X (v := 0) d_La_clearWatch_1 (by decide) ?_
  refine j_aload_n X d_La_clearWatch_2 0 rfl ?_
  refine j_iload_n X d_La_clearWatch_3 1 rfl ?_
  refine j_callV (st := [.int 0, .ref (ad 135)]) X 0 (by omega) hY_RM_clearWatch (c_RM_clearWatch l D aC ad n (by omega) c0 S a hp) mw_531 hI_RM_clearWatch hS_RM_clearWatch x_RM rfl rfl rfl (Nat.le_of_ble_eq_true rfl) d_La_clearWatch_4 rfl rfl ⟨by decide, by decide⟩ ⟨Nat.zero_le _, Nat.zero_le _⟩ (j_st (st' := [.int ((f_RM_clearWatch S a).1), .int 0, .ref (ad 135)]) rfl ?_)
  refine j_if_eq X (tgt := 14) d_La_clearWatch_7 (by decide) (fun h => ?_) (fun h => ?_)
  · refine j_lconst X (v := 0) d_La_clearWatch_14 rfl ?_
    refine j_last X 135 4 (by omega) (xe_out.trans ho) rfl (by unfold vp_in; decide) d_La_clearWatch_15 (j_w xe_up ?_)
    refine j_goto X (tgt := 22) d_La_clearWatch_16 (by decide) ?_
    refine j_iconst X (v := 0) d_La_clearWatch_22 (by decide) ?_
    exact j_iretN X hr hk rfl (by rw [if_pos h]) (by decide) (by decide) d_La_clearWatch_23
  · refine j_lconst X (v := 1) d_La_clearWatch_10 rfl ?_
    refine j_goto X (tgt := 15) d_La_clearWatch_11 (by decide) ?_
    refine j_last X 135 4 (by omega) (xe_out.trans ho) rfl (by unfold vp_in; decide) d_La_clearWatch_15 (j_w xe_up ?_)
    refine j_goto X (tgt := 22) d_La_clearWatch_16 (by decide) ?_
    refine j_iconst X (v := 0) d_La_clearWatch_22 (by decide) ?_
    exact j_iretN X hr hk rfl (by rw [if_neg h]) (by decide) (by decide) d_La_clearWatch_23
set_option maxHeartbeats 4000000 in
set_option maxRecDepth 100000 in
theorem k_clearWatch_IOOBE (l : Launch) (hfl : l.flags = pinnedFlags ++ [noTraceFlag]) (D : va_G) (aC : Nat → ClassId) (ad : Nat → Nat) (n : Nat) (hn : 136 ≤ n) (c0 : Nat → va_E) (S : xS) (a : Int32) (hp : tp_RM_clearWatch_IOOBE S a) : px_H l y_La_clearWatch (Cond.codeWith y_La_clearWatch b_La_clearWatch 4 (some .int) [(0, 16, 19, 13)] :: WS) rm_La_clearWatch GG D CLS (TYS aC) [.ref (ad 0), .int a, .ref (ad 135)] ad (xe aC ad S c0) n (some (.int 1)) (xe aC ad S c0) := by
  refine px_startW GG_k (by decide) (Nat.le_of_ble_eq_true rfl) ?_
  intro p e s m args below meth cd hadm X hr hk htab
  refine j_L (L' := [(0, .ref (ad 0)), (1, .int a), (2, .ref (ad 135))]) rfl ?_
  refine j_aload_n X d_La_clearWatch_0 2 rfl ?_
  refine j_iconst X (v := 0) d_La_clearWatch_1 (by decide) ?_
  refine j_aload_n X d_La_clearWatch_2 0 rfl ?_
  refine j_iload_n X d_La_clearWatch_3 1 rfl ?_
  refine j_callT (st := [.int 0, .ref (ad 135)]) X (hd_one (args := args) (adm_pl hadm) X.1.2.2.2.1 (tab1 htab) (by decide) (by decide) (X.1.2.2.2.2 _ mw_349) (va_tabs rfl rfl (X.2.2.2.2.2.2.2.2.2.2.1 (.castable "java/lang/IndexOutOfBoundsException" "java/lang/IndexOutOfBoundsException") (by simp [DW])))) 0 (by omega) hY_RM_clearWatch (th_RM_clearWatch_IOOBE l hfl D aC ad n (by omega) c0 S a hp) mw_531 hI_RM_clearWatch hS_RM_clearWatch x_RM rfl rfl rfl (Nat.le_of_ble_eq_true rfl) d_La_clearWatch_4 rfl rfl ⟨by decide, by decide⟩ ⟨by decide, by decide⟩ (fun q => ?_)
  refine j_astore_n X d_La_clearWatch_19 [(3, .ref q), (0, .ref (ad 0)), (1, .int a), (2, .ref (ad 135))] (by decide) rfl ?_
  refine j_iconst X (v := 1) d_La_clearWatch_20 (by decide) ?_
  exact j_iretN X hr hk rfl rfl (by decide) (by decide) d_La_clearWatch_21
abbrev rm_La_state : Room := { frames := 7, cells := 1, slots := 6, locals := 122 }
set_option maxHeartbeats 4000000 in
set_option maxRecDepth 100000 in
theorem k_state (l : Launch) (D : va_G) (aC : Nat → ClassId) (ad : Nat → Nat) (n : Nat) (hn : 136 ≤ n) (c0 : Nat → va_E) (f : Nat → Int64) (ho : c0 135 = .inl (aC 4, 1, .inr (.inl f))) (S : xS) (a : Int32) (hp : p_RM_state S a) : px_H l y_La_state (Cond.codeWith y_La_state b_La_state 4 (some .int) [(0, 9, 12, 13)] :: WS) rm_La_state GG D CLS (TYS aC) [.ref (ad 0), .int a, .ref (ad 135)] ad (xe aC ad S c0) n (some (.int 0)) (xe aC ad S (va_up c0 135 (.inl (aC 4, 1, .inr (.inl (vp_updL f (0 : Int32).toNatClampNeg (f_RM_state S a).toInt64)))))) := by
  refine px_startW GG_k (by decide) (Nat.le_of_ble_eq_true rfl) ?_
  intro p e s m args below meth cd hadm X hr hk htab
  refine j_L (L' := [(0, .ref (ad 0)), (1, .int a), (2, .ref (ad 135))]) rfl ?_
  refine j_aload_n X d_La_state_0 2 rfl ?_
  refine j_iconst X (v := 0) d_La_state_1 (by decide) ?_
  refine j_aload_n X d_La_state_2 0 rfl ?_
  refine j_iload_n X d_La_state_3 1 rfl ?_
  refine j_callV (st := [.int 0, .ref (ad 135)]) X 0 (by omega) hY_RM_state (c_RM_state l D aC ad n (by omega) c0 S a hp) mw_538 hI_RM_state hS_RM_state x_RM rfl rfl rfl (Nat.le_of_ble_eq_true rfl) d_La_state_4 rfl rfl ⟨by decide, by decide⟩ ⟨Nat.zero_le _, Nat.zero_le _⟩ (j_st (st' := [.int (f_RM_state S a), .int 0, .ref (ad 135)]) rfl ?_)
  refine j_i2l X d_La_state_7 rfl ?_
  refine j_last X 135 4 (by omega) (xe_out.trans ho) rfl (by unfold vp_in; decide) d_La_state_8 (j_w xe_up ?_)
  refine j_goto X (tgt := 15) d_La_state_9 (by decide) ?_
  refine j_iconst X (v := 0) d_La_state_15 (by decide) ?_
  exact j_iretN X hr hk rfl rfl (by decide) (by decide) d_La_state_16
set_option maxHeartbeats 4000000 in
set_option maxRecDepth 100000 in
theorem k_state_IOOBE (l : Launch) (hfl : l.flags = pinnedFlags ++ [noTraceFlag]) (D : va_G) (aC : Nat → ClassId) (ad : Nat → Nat) (n : Nat) (hn : 136 ≤ n) (c0 : Nat → va_E) (S : xS) (a : Int32) (hp : tp_RM_state_IOOBE S a) : px_H l y_La_state (Cond.codeWith y_La_state b_La_state 4 (some .int) [(0, 9, 12, 13)] :: WS) rm_La_state GG D CLS (TYS aC) [.ref (ad 0), .int a, .ref (ad 135)] ad (xe aC ad S c0) n (some (.int 1)) (xe aC ad S c0) := by
  refine px_startW GG_k (by decide) (Nat.le_of_ble_eq_true rfl) ?_
  intro p e s m args below meth cd hadm X hr hk htab
  refine j_L (L' := [(0, .ref (ad 0)), (1, .int a), (2, .ref (ad 135))]) rfl ?_
  refine j_aload_n X d_La_state_0 2 rfl ?_
  refine j_iconst X (v := 0) d_La_state_1 (by decide) ?_
  refine j_aload_n X d_La_state_2 0 rfl ?_
  refine j_iload_n X d_La_state_3 1 rfl ?_
  refine j_callT (st := [.int 0, .ref (ad 135)]) X (hd_one (args := args) (adm_pl hadm) X.1.2.2.2.1 (tab1 htab) (by decide) (by decide) (X.1.2.2.2.2 _ mw_349) (va_tabs rfl rfl (X.2.2.2.2.2.2.2.2.2.2.1 (.castable "java/lang/IndexOutOfBoundsException" "java/lang/IndexOutOfBoundsException") (by simp [DW])))) 0 (by omega) hY_RM_state (th_RM_state_IOOBE l hfl D aC ad n (by omega) c0 S a hp) mw_538 hI_RM_state hS_RM_state x_RM rfl rfl rfl (Nat.le_of_ble_eq_true rfl) d_La_state_4 rfl rfl ⟨by decide, by decide⟩ ⟨by decide, by decide⟩ (fun q => ?_)
  refine j_astore_n X d_La_state_12 [(3, .ref q), (0, .ref (ad 0)), (1, .int a), (2, .ref (ad 135))] (by decide) rfl ?_
  refine j_iconst X (v := 1) d_La_state_13 (by decide) ?_
  exact j_iretN X hr hk rfl rfl (by decide) (by decide) d_La_state_14
abbrev rm_La_stack : Room := { frames := 7, cells := 1, slots := 6, locals := 121 }
set_option maxHeartbeats 4000000 in
set_option maxRecDepth 100000 in
theorem k_stack (l : Launch) (D : va_G) (aC : Nat → ClassId) (ad : Nat → Nat) (n : Nat) (hn : 136 ≤ n) (c0 : Nat → va_E) (f : Nat → Int64) (ho : c0 135 = .inl (aC 4, 1, .inr (.inl f))) (S : xS) (a : Int32) (hp : p_RM_stack S a) : px_H l y_La_stack (Cond.codeWith y_La_stack b_La_stack 4 (some .int) [(0, 9, 12, 13)] :: WS) rm_La_stack GG D CLS (TYS aC) [.ref (ad 0), .int a, .ref (ad 135)] ad (xe aC ad S c0) n (some (.int 0)) (xe aC ad S (va_up c0 135 (.inl (aC 4, 1, .inr (.inl (vp_updL f (0 : Int32).toNatClampNeg (f_RM_stack S a).toInt64)))))) := by
  refine px_startW GG_k (by decide) (Nat.le_of_ble_eq_true rfl) ?_
  intro p e s m args below meth cd hadm X hr hk htab
  refine j_L (L' := [(0, .ref (ad 0)), (1, .int a), (2, .ref (ad 135))]) rfl ?_
  refine j_aload_n X d_La_stack_0 2 rfl ?_
  refine j_iconst X (v := 0) d_La_stack_1 (by decide) ?_
  refine j_aload_n X d_La_stack_2 0 rfl ?_
  refine j_iload_n X d_La_stack_3 1 rfl ?_
  refine j_callV (st := [.int 0, .ref (ad 135)]) X 0 (by omega) hY_RM_stack (c_RM_stack l D aC ad n (by omega) c0 S a hp) mw_546 hI_RM_stack hS_RM_stack x_RM rfl rfl rfl (Nat.le_of_ble_eq_true rfl) d_La_stack_4 rfl rfl ⟨by decide, by decide⟩ ⟨Nat.zero_le _, Nat.zero_le _⟩ (j_st (st' := [.int (f_RM_stack S a), .int 0, .ref (ad 135)]) rfl ?_)
  refine j_i2l X d_La_stack_7 rfl ?_
  refine j_last X 135 4 (by omega) (xe_out.trans ho) rfl (by unfold vp_in; decide) d_La_stack_8 (j_w xe_up ?_)
  refine j_goto X (tgt := 15) d_La_stack_9 (by decide) ?_
  refine j_iconst X (v := 0) d_La_stack_15 (by decide) ?_
  exact j_iretN X hr hk rfl rfl (by decide) (by decide) d_La_stack_16
set_option maxHeartbeats 4000000 in
set_option maxRecDepth 100000 in
theorem k_stack_IOOBE (l : Launch) (hfl : l.flags = pinnedFlags ++ [noTraceFlag]) (D : va_G) (aC : Nat → ClassId) (ad : Nat → Nat) (n : Nat) (hn : 136 ≤ n) (c0 : Nat → va_E) (S : xS) (a : Int32) (hp : tp_RM_stack_IOOBE S a) : px_H l y_La_stack (Cond.codeWith y_La_stack b_La_stack 4 (some .int) [(0, 9, 12, 13)] :: WS) rm_La_stack GG D CLS (TYS aC) [.ref (ad 0), .int a, .ref (ad 135)] ad (xe aC ad S c0) n (some (.int 1)) (xe aC ad S c0) := by
  refine px_startW GG_k (by decide) (Nat.le_of_ble_eq_true rfl) ?_
  intro p e s m args below meth cd hadm X hr hk htab
  refine j_L (L' := [(0, .ref (ad 0)), (1, .int a), (2, .ref (ad 135))]) rfl ?_
  refine j_aload_n X d_La_stack_0 2 rfl ?_
  refine j_iconst X (v := 0) d_La_stack_1 (by decide) ?_
  refine j_aload_n X d_La_stack_2 0 rfl ?_
  refine j_iload_n X d_La_stack_3 1 rfl ?_
  refine j_callT (st := [.int 0, .ref (ad 135)]) X (hd_one (args := args) (adm_pl hadm) X.1.2.2.2.1 (tab1 htab) (by decide) (by decide) (X.1.2.2.2.2 _ mw_349) (va_tabs rfl rfl (X.2.2.2.2.2.2.2.2.2.2.1 (.castable "java/lang/IndexOutOfBoundsException" "java/lang/IndexOutOfBoundsException") (by simp [DW])))) 0 (by omega) hY_RM_stack (th_RM_stack_IOOBE l hfl D aC ad n (by omega) c0 S a hp) mw_546 hI_RM_stack hS_RM_stack x_RM rfl rfl rfl (Nat.le_of_ble_eq_true rfl) d_La_stack_4 rfl rfl ⟨by decide, by decide⟩ ⟨by decide, by decide⟩ (fun q => ?_)
  refine j_astore_n X d_La_stack_12 [(3, .ref q), (0, .ref (ad 0)), (1, .int a), (2, .ref (ad 135))] (by decide) rfl ?_
  refine j_iconst X (v := 1) d_La_stack_13 (by decide) ?_
  exact j_iretN X hr hk rfl rfl (by decide) (by decide) d_La_stack_14
abbrev rm_La_checkpoint : Room := { frames := 7, cells := 1, slots := 6, locals := 121 }
set_option maxHeartbeats 4000000 in
set_option maxRecDepth 100000 in
theorem k_checkpoint (l : Launch) (D : va_G) (aC : Nat → ClassId) (ad : Nat → Nat) (n : Nat) (hn : 136 ≤ n) (c0 : Nat → va_E) (f : Nat → Int64) (ho : c0 135 = .inl (aC 4, 1, .inr (.inl f))) (S : xS) (a : Int32) (hp : p_RM_checkpoint S a) : px_H l y_La_checkpoint (Cond.codeWith y_La_checkpoint b_La_checkpoint 4 (some .int) [(0, 9, 12, 13)] :: WS) rm_La_checkpoint GG D CLS (TYS aC) [.ref (ad 0), .int a, .ref (ad 135)] ad (xe aC ad S c0) n (some (.int 0)) (xe aC ad S (va_up c0 135 (.inl (aC 4, 1, .inr (.inl (vp_updL f (0 : Int32).toNatClampNeg (f_RM_checkpoint S a).toInt64)))))) := by
  refine px_startW GG_k (by decide) (Nat.le_of_ble_eq_true rfl) ?_
  intro p e s m args below meth cd hadm X hr hk htab
  refine j_L (L' := [(0, .ref (ad 0)), (1, .int a), (2, .ref (ad 135))]) rfl ?_
  refine j_aload_n X d_La_checkpoint_0 2 rfl ?_
  refine j_iconst X (v := 0) d_La_checkpoint_1 (by decide) ?_
  refine j_aload_n X d_La_checkpoint_2 0 rfl ?_
  refine j_iload_n X d_La_checkpoint_3 1 rfl ?_
  refine j_callV (st := [.int 0, .ref (ad 135)]) X 0 (by omega) hY_RM_checkpoint (c_RM_checkpoint l D aC ad n (by omega) c0 S a hp) mw_555 hI_RM_checkpoint hS_RM_checkpoint x_RM rfl rfl rfl (Nat.le_of_ble_eq_true rfl) d_La_checkpoint_4 rfl rfl ⟨by decide, by decide⟩ ⟨Nat.zero_le _, Nat.zero_le _⟩ (j_st (st' := [.int (f_RM_checkpoint S a), .int 0, .ref (ad 135)]) rfl ?_)
  refine j_i2l X d_La_checkpoint_7 rfl ?_
  refine j_last X 135 4 (by omega) (xe_out.trans ho) rfl (by unfold vp_in; decide) d_La_checkpoint_8 (j_w xe_up ?_)
  refine j_goto X (tgt := 15) d_La_checkpoint_9 (by decide) ?_
  refine j_iconst X (v := 0) d_La_checkpoint_15 (by decide) ?_
  exact j_iretN X hr hk rfl rfl (by decide) (by decide) d_La_checkpoint_16
set_option maxHeartbeats 4000000 in
set_option maxRecDepth 100000 in
theorem k_checkpoint_IOOBE (l : Launch) (hfl : l.flags = pinnedFlags ++ [noTraceFlag]) (D : va_G) (aC : Nat → ClassId) (ad : Nat → Nat) (n : Nat) (hn : 136 ≤ n) (c0 : Nat → va_E) (S : xS) (a : Int32) (hp : tp_RM_checkpoint_IOOBE S a) : px_H l y_La_checkpoint (Cond.codeWith y_La_checkpoint b_La_checkpoint 4 (some .int) [(0, 9, 12, 13)] :: WS) rm_La_checkpoint GG D CLS (TYS aC) [.ref (ad 0), .int a, .ref (ad 135)] ad (xe aC ad S c0) n (some (.int 1)) (xe aC ad S c0) := by
  refine px_startW GG_k (by decide) (Nat.le_of_ble_eq_true rfl) ?_
  intro p e s m args below meth cd hadm X hr hk htab
  refine j_L (L' := [(0, .ref (ad 0)), (1, .int a), (2, .ref (ad 135))]) rfl ?_
  refine j_aload_n X d_La_checkpoint_0 2 rfl ?_
  refine j_iconst X (v := 0) d_La_checkpoint_1 (by decide) ?_
  refine j_aload_n X d_La_checkpoint_2 0 rfl ?_
  refine j_iload_n X d_La_checkpoint_3 1 rfl ?_
  refine j_callT (st := [.int 0, .ref (ad 135)]) X (hd_one (args := args) (adm_pl hadm) X.1.2.2.2.1 (tab1 htab) (by decide) (by decide) (X.1.2.2.2.2 _ mw_349) (va_tabs rfl rfl (X.2.2.2.2.2.2.2.2.2.2.1 (.castable "java/lang/IndexOutOfBoundsException" "java/lang/IndexOutOfBoundsException") (by simp [DW])))) 0 (by omega) hY_RM_checkpoint (th_RM_checkpoint_IOOBE l hfl D aC ad n (by omega) c0 S a hp) mw_555 hI_RM_checkpoint hS_RM_checkpoint x_RM rfl rfl rfl (Nat.le_of_ble_eq_true rfl) d_La_checkpoint_4 rfl rfl ⟨by decide, by decide⟩ ⟨by decide, by decide⟩ (fun q => ?_)
  refine j_astore_n X d_La_checkpoint_12 [(3, .ref q), (0, .ref (ad 0)), (1, .int a), (2, .ref (ad 135))] (by decide) rfl ?_
  refine j_iconst X (v := 1) d_La_checkpoint_13 (by decide) ?_
  exact j_iretN X hr hk rfl rfl (by decide) (by decide) d_La_checkpoint_14
