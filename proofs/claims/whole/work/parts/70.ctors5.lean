theorem ff_Mo_7 : px_Ff WS CLS "ReplayMachineModel" 7 6 0 (.array .int) := ⟨"ReplayMachineModel", "ReplayMachineModel", T_Mo, 23, t_Mo, rfl, in_Mo, by decide, mw_571, Or.inl rfl, ty_Mo, nm_Mo, rfl, rfl, by decide +kernel⟩
theorem ff_Mo_13 : px_Ff WS CLS "ReplayMachineModel" 13 6 1 (.array .int) := ⟨"ReplayMachineModel", "ReplayMachineModel", T_Mo, 23, t_Mo, rfl, in_Mo, by decide, mw_572, Or.inl rfl, ty_Mo, nm_Mo, rfl, rfl, by decide +kernel⟩
theorem ff_Mo_16 : px_Ff WS CLS "ReplayMachineModel" 16 6 2 (.array .boolean) := ⟨"ReplayMachineModel", "ReplayMachineModel", T_Mo, 23, t_Mo, rfl, in_Mo, by decide, mw_574, Or.inl rfl, ty_Mo, nm_Mo, rfl, rfl, by decide +kernel⟩
theorem ff_Mo_20 : px_Ff WS CLS "ReplayMachineModel" 20 6 3 (.array .boolean) := ⟨"ReplayMachineModel", "ReplayMachineModel", T_Mo, 23, t_Mo, rfl, in_Mo, by decide, mw_575, Or.inl rfl, ty_Mo, nm_Mo, rfl, rfl, by decide +kernel⟩
theorem ff_Mo_23 : px_Ff WS CLS "ReplayMachineModel" 23 6 4 (.array .int) := ⟨"ReplayMachineModel", "ReplayMachineModel", T_Mo, 23, t_Mo, rfl, in_Mo, by decide, mw_582, Or.inl rfl, ty_Mo, nm_Mo, rfl, rfl, by decide +kernel⟩
theorem ff_Mo_26 : px_Ff WS CLS "ReplayMachineModel" 26 6 5 (.array .int) := ⟨"ReplayMachineModel", "ReplayMachineModel", T_Mo, 23, t_Mo, rfl, in_Mo, by decide, mw_583, Or.inl rfl, ty_Mo, nm_Mo, rfl, rfl, by decide +kernel⟩
theorem ff_Mo_29 : px_Ff WS CLS "ReplayMachineModel" 29 6 6 (.array .int) := ⟨"ReplayMachineModel", "ReplayMachineModel", T_Mo, 23, t_Mo, rfl, in_Mo, by decide, mw_584, Or.inl rfl, ty_Mo, nm_Mo, rfl, rfl, by decide +kernel⟩
theorem ff_Mo_32 : px_Ff WS CLS "ReplayMachineModel" 32 6 7 (.array .int) := ⟨"ReplayMachineModel", "ReplayMachineModel", T_Mo, 23, t_Mo, rfl, in_Mo, by decide, mw_585, Or.inl rfl, ty_Mo, nm_Mo, rfl, rfl, by decide +kernel⟩
theorem ff_Mo_35 : px_Ff WS CLS "ReplayMachineModel" 35 6 8 (.array .int) := ⟨"ReplayMachineModel", "ReplayMachineModel", T_Mo, 23, t_Mo, rfl, in_Mo, by decide, mw_586, Or.inl rfl, ty_Mo, nm_Mo, rfl, rfl, by decide +kernel⟩
theorem ff_Mo_42 : px_Ff WS CLS "ReplayMachineModel" 42 6 9 (.array .int) := ⟨"ReplayMachineModel", "ReplayMachineModel", T_Mo, 23, t_Mo, rfl, in_Mo, by decide, mw_592, Or.inl rfl, ty_Mo, nm_Mo, rfl, rfl, by decide +kernel⟩
def T00 (x : Int32) : xS := (fun i k => if i = 124 ∧ k = 15 then x else if i = 124 ∧ k = 21 then 16 else 0, fun _ _ => 0, fun j => j, 0)
abbrev bMo : va_E := .inr (6, [.null, .null, .null, .null, .null, .null, .null, .null, .null, .null, .int 0, .int 0, .int 0, .int 0, .int 0, .int 0, .int 0, .int 0, .int 0, .int 0, .int 0, .int 0, .int 0])
theorem ye_lo {aC : Nat → ClassId} {ad : Nat → Nat} {S : xS} {c0 : Nat → va_E} {j : Nat} (h : j < 124) : ye aC ad S c0 j = c0 j := by
  show yc aC ad j (gI S j) (gR S j) (c0 j) = c0 j
  unfold yc
  rw [if_neg (show ¬ j = 124 by omega), if_neg (show ¬ j = 125 by omega), if_neg (show ¬ j = 126 by omega), if_neg (show ¬ j = 127 by omega), if_neg (show ¬ j = 128 by omega), if_neg (show ¬ j = 129 by omega), if_neg (show ¬ j = 130 by omega), if_neg (show ¬ j = 131 by omega), if_neg (show ¬ j = 132 by omega), if_neg (show ¬ j = 133 by omega), if_neg (show ¬ j = 134 by omega)]
abbrev rm_Mo_init : Room := { frames := 1, cells := 10, slots := 1090, locals := 40 }
set_option maxHeartbeats 8000000 in
set_option maxRecDepth 100000 in
theorem c_Mo_init (l : Launch) (D : va_G) (aC : Nat → ClassId) (ad : Nat → Nat) (c : Nat → va_E) (x : Int32) (h0 : c 124 = bMo) (hpm : p_Mo_mark (T00 x)) : px_N l y_Mo_init (Cond.code y_Mo_init b_Mo_init 2 none :: WS) rm_Mo_init GC D CLS (TYS aC) [.ref (ad 124), .int x] ad c 125 10 10 1090 (fun ad' => ye aC ad' (sI (f_Mo_mark (T00 x)).2 124 22 1) c) := by
  refine px_startN GC_k (by decide) (Nat.le_of_ble_eq_true rfl) rfl ?_
  intro p e s m args below meth cd X0 hr hk hmn
  refine j_L (L' := [(0, .ref (ad 124)), (1, .int x)]) rfl ?_
  refine j_aload_n X0 d_Mo_init_0 0 rfl ?_
  refine j_objInit X0 mw_565 mw_23 mw_24 d_Mo_init_1 (by decide) (Nat.le_of_ble_eq_true rfl) ?_
  have z0 : ad 124 = ad 124 := rfl
  refine j_aload_n X0 d_Mo_init_4 0 rfl ?_
  refine j_bipush X0 (v := 64) d_Mo_init_5 (by decide) ?_
  refine j_newa (atype := .int) (a0 := (64, .inl (fun _ => 0))) X0 0 rfl mw_92 rfl (fun _ => rfl) (by decide) rfl (by decide) (by decide) (by decide) d_Mo_init_7 (fun ad1 ha1 X1 => ?_)
  have z1 : ad1 124 = ad 124 := (ha1 124 (by decide)).trans z0
  refine j_st (st' := [.ref (ad1 125), .ref (ad1 124)]) (by rw [z1]) ?_
  refine j_putF X1 hmn ff_Mo_7 124 (by decide) ((up_ne (by decide)).trans h0) (Nat.le_of_ble_eq_true rfl) rfl rfl d_Mo_init_9 ?_
  refine j_aload_n X1 d_Mo_init_12 0 rfl ?_
  refine j_bipush X1 (v := 40) d_Mo_init_13 (by decide) ?_
  refine j_newa (atype := .int) (a0 := (40, .inl (fun _ => 0))) X1 0 rfl mw_92 rfl (fun _ => rfl) (by decide) rfl (by decide) (by decide) (by decide) d_Mo_init_15 (fun ad2 ha2 X2 => ?_)
  have z2 : ad2 124 = ad 124 := (ha2 124 (by decide)).trans z1
  refine j_st (st' := [.ref (ad2 126), .ref (ad2 124)]) (by rw [z2]) ?_
  refine j_putF X2 hmn ff_Mo_13 124 (by decide) ((up_ne (by decide)).trans up_self) (Nat.le_of_ble_eq_true rfl) rfl rfl d_Mo_init_17 ?_
  refine j_aload_n X2 d_Mo_init_20 0 rfl ?_
  refine j_bipush X2 (v := 64) d_Mo_init_21 (by decide) ?_
  refine j_newa (atype := .boolean) (a0 := (64, .inl (fun _ => 0))) X2 1 rfl mw_198 rfl (fun _ => rfl) (by decide) rfl (by decide) (by decide) (by decide) d_Mo_init_23 (fun ad3 ha3 X3 => ?_)
  have z3 : ad3 124 = ad 124 := (ha3 124 (by decide)).trans z2
  refine j_st (st' := [.ref (ad3 127), .ref (ad3 124)]) (by rw [z3]) ?_
  refine j_putF X3 hmn ff_Mo_16 124 (by decide) ((up_ne (by decide)).trans up_self) (Nat.le_of_ble_eq_true rfl) rfl rfl d_Mo_init_25 ?_
  refine j_aload_n X3 d_Mo_init_28 0 rfl ?_
  refine j_bipush X3 (v := 32) d_Mo_init_29 (by decide) ?_
  refine j_newa (atype := .boolean) (a0 := (32, .inl (fun _ => 0))) X3 1 rfl mw_198 rfl (fun _ => rfl) (by decide) rfl (by decide) (by decide) (by decide) d_Mo_init_31 (fun ad4 ha4 X4 => ?_)
  have z4 : ad4 124 = ad 124 := (ha4 124 (by decide)).trans z3
  refine j_st (st' := [.ref (ad4 128), .ref (ad4 124)]) (by rw [z4]) ?_
  refine j_putF X4 hmn ff_Mo_20 124 (by decide) ((up_ne (by decide)).trans up_self) (Nat.le_of_ble_eq_true rfl) rfl rfl d_Mo_init_33 ?_
  refine j_aload_n X4 d_Mo_init_36 0 rfl ?_
  refine j_bipush X4 (v := 32) d_Mo_init_37 (by decide) ?_
  refine j_newa (atype := .int) (a0 := (32, .inl (fun _ => 0))) X4 0 rfl mw_92 rfl (fun _ => rfl) (by decide) rfl (by decide) (by decide) (by decide) d_Mo_init_39 (fun ad5 ha5 X5 => ?_)
  have z5 : ad5 124 = ad 124 := (ha5 124 (by decide)).trans z4
  refine j_st (st' := [.ref (ad5 129), .ref (ad5 124)]) (by rw [z5]) ?_
  refine j_putF X5 hmn ff_Mo_23 124 (by decide) ((up_ne (by decide)).trans up_self) (Nat.le_of_ble_eq_true rfl) rfl rfl d_Mo_init_41 ?_
  refine j_aload_n X5 d_Mo_init_44 0 rfl ?_
  refine j_bipush X5 (v := 24) d_Mo_init_45 (by decide) ?_
  refine j_newa (atype := .int) (a0 := (24, .inl (fun _ => 0))) X5 0 rfl mw_92 rfl (fun _ => rfl) (by decide) rfl (by decide) (by decide) (by decide) d_Mo_init_47 (fun ad6 ha6 X6 => ?_)
  have z6 : ad6 124 = ad 124 := (ha6 124 (by decide)).trans z5
  refine j_st (st' := [.ref (ad6 130), .ref (ad6 124)]) (by rw [z6]) ?_
  refine j_putF X6 hmn ff_Mo_26 124 (by decide) ((up_ne (by decide)).trans up_self) (Nat.le_of_ble_eq_true rfl) rfl rfl d_Mo_init_49 ?_
  refine j_aload_n X6 d_Mo_init_52 0 rfl ?_
  refine j_bipush X6 (v := 32) d_Mo_init_53 (by decide) ?_
  refine j_newa (atype := .int) (a0 := (32, .inl (fun _ => 0))) X6 0 rfl mw_92 rfl (fun _ => rfl) (by decide) rfl (by decide) (by decide) (by decide) d_Mo_init_55 (fun ad7 ha7 X7 => ?_)
  have z7 : ad7 124 = ad 124 := (ha7 124 (by decide)).trans z6
  refine j_st (st' := [.ref (ad7 131), .ref (ad7 124)]) (by rw [z7]) ?_
  refine j_putF X7 hmn ff_Mo_29 124 (by decide) ((up_ne (by decide)).trans up_self) (Nat.le_of_ble_eq_true rfl) rfl rfl d_Mo_init_57 ?_
  refine j_aload_n X7 d_Mo_init_60 0 rfl ?_
  refine j_sipush X7 (v := 728) d_Mo_init_61 (by decide) ?_
  refine j_newa (atype := .int) (a0 := (728, .inl (fun _ => 0))) X7 0 rfl mw_92 rfl (fun _ => rfl) (by decide) rfl (by decide) (by decide) (by decide) d_Mo_init_64 (fun ad8 ha8 X8 => ?_)
  have z8 : ad8 124 = ad 124 := (ha8 124 (by decide)).trans z7
  refine j_st (st' := [.ref (ad8 132), .ref (ad8 124)]) (by rw [z8]) ?_
  refine j_putF X8 hmn ff_Mo_32 124 (by decide) ((up_ne (by decide)).trans up_self) (Nat.le_of_ble_eq_true rfl) rfl rfl d_Mo_init_66 ?_
  refine j_aload_n X8 d_Mo_init_69 0 rfl ?_
  refine j_bipush X8 (v := 65) d_Mo_init_70 (by decide) ?_
  refine j_newa (atype := .int) (a0 := (65, .inl (fun _ => 0))) X8 0 rfl mw_92 rfl (fun _ => rfl) (by decide) rfl (by decide) (by decide) (by decide) d_Mo_init_72 (fun ad9 ha9 X9 => ?_)
  have z9 : ad9 124 = ad 124 := (ha9 124 (by decide)).trans z8
  refine j_st (st' := [.ref (ad9 133), .ref (ad9 124)]) (by rw [z9]) ?_
  refine j_putF X9 hmn ff_Mo_35 124 (by decide) ((up_ne (by decide)).trans up_self) (Nat.le_of_ble_eq_true rfl) rfl rfl d_Mo_init_74 ?_
  refine j_aload_n X9 d_Mo_init_77 0 rfl ?_
  refine j_bipush X9 (v := 16) d_Mo_init_78 (by decide) ?_
  refine j_st (st' := [.int 16, .ref (ad9 124)]) (by rw [z9]) ?_
  refine j_put X9 fp_Mo_38_Mo 124 (by decide) up_self (Nat.le_of_ble_eq_true rfl) rfl rfl d_Mo_init_80 ?_
  refine j_aload_n X9 d_Mo_init_83 0 rfl ?_
  refine j_bipush X9 (v := 9) d_Mo_init_84 (by decide) ?_
  refine j_newa (atype := .int) (a0 := (9, .inl (fun _ => 0))) X9 0 rfl mw_92 rfl (fun _ => rfl) (by decide) rfl (by decide) (by decide) (by decide) d_Mo_init_86 (fun ad10 ha10 X10 => ?_)
  have z10 : ad10 124 = ad 124 := (ha10 124 (by decide)).trans z9
  refine j_st (st' := [.ref (ad10 134), .ref (ad10 124)]) (by rw [z10]) ?_
  refine j_putF X10 hmn ff_Mo_42 124 (by decide) ((up_ne (by decide)).trans up_self) (Nat.le_of_ble_eq_true rfl) rfl rfl d_Mo_init_88 ?_
  refine j_aload_n X10 d_Mo_init_91 0 rfl ?_
  refine j_iload_n X10 d_Mo_init_92 1 rfl ?_
  refine j_st (st' := [.int x, .ref (ad10 124)]) (by rw [z10]) ?_
  refine j_put X10 fp_Mo_45_Mo 124 (by decide) up_self (Nat.le_of_ble_eq_true rfl) rfl rfl d_Mo_init_93 ?_
  have e1 : ad10 125 = ad1 125 := (ha10 125 (by decide)).trans ((ha9 125 (by decide)).trans ((ha8 125 (by decide)).trans ((ha7 125 (by decide)).trans ((ha6 125 (by decide)).trans ((ha5 125 (by decide)).trans ((ha4 125 (by decide)).trans ((ha3 125 (by decide)).trans ((ha2 125 (by decide)).trans (rfl)))))))))
  have e2 : ad10 126 = ad2 126 := (ha10 126 (by decide)).trans ((ha9 126 (by decide)).trans ((ha8 126 (by decide)).trans ((ha7 126 (by decide)).trans ((ha6 126 (by decide)).trans ((ha5 126 (by decide)).trans ((ha4 126 (by decide)).trans ((ha3 126 (by decide)).trans (rfl))))))))
  have e3 : ad10 127 = ad3 127 := (ha10 127 (by decide)).trans ((ha9 127 (by decide)).trans ((ha8 127 (by decide)).trans ((ha7 127 (by decide)).trans ((ha6 127 (by decide)).trans ((ha5 127 (by decide)).trans ((ha4 127 (by decide)).trans (rfl)))))))
  have e4 : ad10 128 = ad4 128 := (ha10 128 (by decide)).trans ((ha9 128 (by decide)).trans ((ha8 128 (by decide)).trans ((ha7 128 (by decide)).trans ((ha6 128 (by decide)).trans ((ha5 128 (by decide)).trans (rfl))))))
  have e5 : ad10 129 = ad5 129 := (ha10 129 (by decide)).trans ((ha9 129 (by decide)).trans ((ha8 129 (by decide)).trans ((ha7 129 (by decide)).trans ((ha6 129 (by decide)).trans (rfl)))))
  have e6 : ad10 130 = ad6 130 := (ha10 130 (by decide)).trans ((ha9 130 (by decide)).trans ((ha8 130 (by decide)).trans ((ha7 130 (by decide)).trans (rfl))))
  have e7 : ad10 131 = ad7 131 := (ha10 131 (by decide)).trans ((ha9 131 (by decide)).trans ((ha8 131 (by decide)).trans (rfl)))
  have e8 : ad10 132 = ad8 132 := (ha10 132 (by decide)).trans ((ha9 132 (by decide)).trans (rfl))
  have e9 : ad10 133 = ad9 133 := (ha10 133 (by decide)).trans (rfl)
  have e10 : ad10 134 = ad10 134 := rfl
  refine j_cong (c' := ye aC ad10 (T00 x) c) (fun j hj => ?_) ?_
  · have hj : j < 135 := hj
    by_cases h : j < 124
    · rw [ye_lo h]
      simp only [va_up]
      rw [if_neg (show ¬ j = 124 by omega), if_neg (show ¬ j = 124 by omega), if_neg (show ¬ j = 134 by omega), if_neg (show ¬ j = 124 by omega), if_neg (show ¬ j = 124 by omega), if_neg (show ¬ j = 133 by omega), if_neg (show ¬ j = 124 by omega), if_neg (show ¬ j = 132 by omega), if_neg (show ¬ j = 124 by omega), if_neg (show ¬ j = 131 by omega), if_neg (show ¬ j = 124 by omega), if_neg (show ¬ j = 130 by omega), if_neg (show ¬ j = 124 by omega), if_neg (show ¬ j = 129 by omega), if_neg (show ¬ j = 124 by omega), if_neg (show ¬ j = 128 by omega), if_neg (show ¬ j = 124 by omega), if_neg (show ¬ j = 127 by omega), if_neg (show ¬ j = 124 by omega), if_neg (show ¬ j = 126 by omega), if_neg (show ¬ j = 124 by omega), if_neg (show ¬ j = 125 by omega)]
    · by_cases h4 : j = 124
      · subst h4
        rw [up_self, y_Mo, e1, e2, e3, e4, e5, e6, e7, e8, e9, e10]
        rfl
      · by_cases h125 : j = 125
        · subst h125
          rw [y_program]
          rfl
        by_cases h126 : j = 126
        · subst h126
          rw [y_inputs]
          rfl
        by_cases h127 : j = 127
        · subst h127
          rw [y_breaks]
          rfl
        by_cases h128 : j = 128
        · subst h128
          rw [y_watches]
          rfl
        by_cases h129 : j = 129
        · subst h129
          rw [y_cells]
          rfl
        by_cases h130 : j = 130
        · subst h130
          rw [y_stack]
          rfl
        by_cases h131 : j = 131
        · subst h131
          rw [y_were]
          rfl
        by_cases h132 : j = 132
        · subst h132
          rw [y_markWords]
          rfl
        by_cases h133 : j = 133
        · subst h133
          rw [y_markOthers]
          rfl
        by_cases h134 : j = 134
        · subst h134
          rw [y_keptAt]
          rfl
        omega
  have XG : px_X p s m args cd b_Mo_init 2 WS y_Mo_init.cls GG D CLS (TYS aC) (px_A ad 125 s.heap.size) ad10 _ := ⟨X10.1, X10.2.1, X10.2.2.1, X10.2.2.2.1, X10.2.2.2.2.1, GG_k, X10.2.2.2.2.2.2.1⟩
  refine j_aload_n X10 d_Mo_init_96 0 rfl ?_
  refine j_st (st' := [.ref (ad10 124)]) (by rw [z10]) ?_
  refine j_callV (st := []) XG 124 (by decide) hY_Mo_mark (c_Mo_mark l D aC ad10 _ (by decide) c (T00 x) hpm) mw_566 hI_Mo_mark hS_Mo_mark y_Mo rfl rfl rfl (Nat.le_of_ble_eq_true rfl) d_Mo_init_97 rfl rfl ⟨by decide, by decide⟩ ⟨by decide, by decide⟩ (j_st (st' := []) rfl ?_)
  refine j_aload_n X10 d_Mo_init_100 0 rfl ?_
  refine j_iconst X10 (v := 1) d_Mo_init_101 (by decide) ?_
  refine j_st (st' := [.int 1, .ref (ad10 124)]) (by rw [z10]) ?_
  refine j_put X10 fp_Mo_51_Mo 124 (by decide) y_Mo (Nat.le_of_ble_eq_true rfl) rfl rfl d_Mo_init_102 (j_w (y_put_22) ?_)
  refine j_vretN X10 hr hk rfl (fun i hi => ?_) (fun j _ => rfl) (by decide) (by decide) d_Mo_init_105
  exact (ha10 i (by omega)).trans ((ha9 i (by omega)).trans ((ha8 i (by omega)).trans ((ha7 i (by omega)).trans ((ha6 i (by omega)).trans ((ha5 i (by omega)).trans ((ha4 i (by omega)).trans ((ha3 i (by omega)).trans ((ha2 i (by omega)).trans (ha1 i hi)))))))))
