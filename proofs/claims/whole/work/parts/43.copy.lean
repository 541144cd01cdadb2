def f_Rg_copySS (S : xS) (i : Nat) (j : Nat) : Int32 × xS := px_let (sI S i 0 (gI S j 0)) (fun S1 : xS => px_let (sI S1 i 1 (gI S1 j 1)) (fun S3 : xS => px_let (sI S3 i 2 (gI S3 j 2)) (fun S5 : xS => px_let (sI S5 i 3 (gI S5 j 3)) (fun S7 : xS => px_let (sI S7 i 4 (gI S7 j 4)) (fun S9 : xS => px_let (sI S9 i 5 (gI S9 j 5)) (fun S11 : xS => px_let (sI S11 i 6 (gI S11 j 6)) (fun S13 : xS => ((0 : Int32), S13))))))))
abbrev rm_Rg_copySS : Room := { frames := 0, cells := 0, slots := 0, locals := 0 }
set_option maxHeartbeats 4000000 in
set_option maxRecDepth 100000 in
theorem c_Rg_copySS (l : Launch) (D : va_G) (aC : Nat → ClassId) (ad : Nat → Nat) (n : Nat) (hn : 124 ≤ n) (c0 : Nat → va_E) (S : xS) (i : Nat) (j : Nat) (hi : kSt i) (hj : kSt j)  : px_M l y_Rg_copyRegisters (Cond.code y_Rg_copyRegisters b_Rg_copyRegisters 2 none :: WS) rm_Rg_copySS GG D CLS (TYS aC) [.ref (ad i), .ref (ad j)] ad (xe aC ad S c0) n none (xe aC ad (f_Rg_copySS S i j).2 c0) := by
  obtain ⟨F, hF⟩ : ∃ F, F = f_Rg_copySS S i j := ⟨_, rfl⟩
  rw [← hF]
  unfold f_Rg_copySS at hF
  refine px_start GG_k (by decide) (Nat.le_of_ble_eq_true rfl) ?_
  intro p e s m args below meth cd X hr hk
  refine j_L (L' := [(0, .ref (ad i)), (1, .ref (ad j))]) rfl ?_
  refine j_aload_n X d_Rg_copyRegisters_0 0 rfl ?_
  refine j_aload_n X d_Rg_copyRegisters_1 1 rfl ?_
  refine j_get X fd_Rg_7_St j (k_lt hj hn) (x_St hj) rfl d_Rg_copyRegisters_2 ?_
  refine j_put X fp_Rg_7_St i (k_lt hi hn) (x_St hi) (Nat.le_of_ble_eq_true rfl) rfl rfl d_Rg_copyRegisters_5 (j_w (x_putSt_0 hi) ?_)
  refine x_gen (fun S1 e2 => ?_)
  skip
  replace hF := hF.trans (px_let_eq e2)
  refine j_aload_n X d_Rg_copyRegisters_8 0 rfl ?_
  refine j_aload_n X d_Rg_copyRegisters_9 1 rfl ?_
  refine j_get X fd_Rg_13_St j (k_lt hj hn) (x_St hj) rfl d_Rg_copyRegisters_10 ?_
  refine j_put X fp_Rg_13_St i (k_lt hi hn) (x_St hi) (Nat.le_of_ble_eq_true rfl) rfl rfl d_Rg_copyRegisters_13 (j_w (x_putSt_1 hi) ?_)
  refine x_gen (fun S3 e4 => ?_)
  skip
  replace hF := hF.trans (px_let_eq e4)
  refine j_aload_n X d_Rg_copyRegisters_16 0 rfl ?_
  refine j_aload_n X d_Rg_copyRegisters_17 1 rfl ?_
  refine j_get X fd_Rg_16_St j (k_lt hj hn) (x_St hj) rfl d_Rg_copyRegisters_18 ?_
  refine j_put X fp_Rg_16_St i (k_lt hi hn) (x_St hi) (Nat.le_of_ble_eq_true rfl) rfl rfl d_Rg_copyRegisters_21 (j_w (x_putSt_2 hi) ?_)
  refine x_gen (fun S5 e6 => ?_)
  skip
  replace hF := hF.trans (px_let_eq e6)
  refine j_aload_n X d_Rg_copyRegisters_24 0 rfl ?_
  refine j_aload_n X d_Rg_copyRegisters_25 1 rfl ?_
  refine j_get X fd_Rg_19_St j (k_lt hj hn) (x_St hj) rfl d_Rg_copyRegisters_26 ?_
  refine j_put X fp_Rg_19_St i (k_lt hi hn) (x_St hi) (Nat.le_of_ble_eq_true rfl) rfl rfl d_Rg_copyRegisters_29 (j_w (x_putSt_3 hi) ?_)
  refine x_gen (fun S7 e8 => ?_)
  skip
  replace hF := hF.trans (px_let_eq e8)
  refine j_aload_n X d_Rg_copyRegisters_32 0 rfl ?_
  refine j_aload_n X d_Rg_copyRegisters_33 1 rfl ?_
  refine j_get X fd_Rg_22_St j (k_lt hj hn) (x_St hj) rfl d_Rg_copyRegisters_34 ?_
  refine j_put X fp_Rg_22_St i (k_lt hi hn) (x_St hi) (Nat.le_of_ble_eq_true rfl) rfl rfl d_Rg_copyRegisters_37 (j_w (x_putSt_4 hi) ?_)
  refine x_gen (fun S9 e10 => ?_)
  skip
  replace hF := hF.trans (px_let_eq e10)
  refine j_aload_n X d_Rg_copyRegisters_40 0 rfl ?_
  refine j_aload_n X d_Rg_copyRegisters_41 1 rfl ?_
  refine j_get X fd_Rg_25_St j (k_lt hj hn) (x_St hj) rfl d_Rg_copyRegisters_42 ?_
  refine j_put X fp_Rg_25_St i (k_lt hi hn) (x_St hi) (Nat.le_of_ble_eq_true rfl) rfl rfl d_Rg_copyRegisters_45 (j_w (x_putSt_5 hi) ?_)
  refine x_gen (fun S11 e12 => ?_)
  skip
  replace hF := hF.trans (px_let_eq e12)
  refine j_aload_n X d_Rg_copyRegisters_48 0 rfl ?_
  refine j_aload_n X d_Rg_copyRegisters_49 1 rfl ?_
  refine j_get X fd_Rg_28_St j (k_lt hj hn) (x_St hj) rfl d_Rg_copyRegisters_50 ?_
  refine j_put X fp_Rg_28_St i (k_lt hi hn) (x_St hi) (Nat.le_of_ble_eq_true rfl) rfl rfl d_Rg_copyRegisters_53 (j_w (x_putSt_6 hi) ?_)
  refine x_gen (fun S13 e14 => ?_)
  skip
  replace hF := hF.trans (px_let_eq e14)
  exact j_vret X hr hk rfl (by rw [hF]) d_Rg_copyRegisters_56
def f_Rg_copySN (S : xS) (i : Nat) (j : Nat) : Int32 × xS := px_let (sI S i 0 (gI S j 0)) (fun S1 : xS => px_let (sI S1 i 1 (gI S1 j 1)) (fun S3 : xS => px_let (sI S3 i 2 (gI S3 j 2)) (fun S5 : xS => px_let (sI S5 i 3 (gI S5 j 3)) (fun S7 : xS => px_let (sI S7 i 4 (gI S7 j 4)) (fun S9 : xS => px_let (sI S9 i 5 (gI S9 j 5)) (fun S11 : xS => px_let (sI S11 i 6 (gI S11 j 6)) (fun S13 : xS => ((0 : Int32), S13))))))))
abbrev rm_Rg_copySN : Room := { frames := 0, cells := 0, slots := 0, locals := 0 }
set_option maxHeartbeats 4000000 in
set_option maxRecDepth 100000 in
theorem c_Rg_copySN (l : Launch) (D : va_G) (aC : Nat → ClassId) (ad : Nat → Nat) (n : Nat) (hn : 124 ≤ n) (c0 : Nat → va_E) (S : xS) (i : Nat) (j : Nat) (hi : kSt i) (hj : kNt j)  : px_M l y_Rg_copyRegisters (Cond.code y_Rg_copyRegisters b_Rg_copyRegisters 2 none :: WS) rm_Rg_copySN GG D CLS (TYS aC) [.ref (ad i), .ref (ad j)] ad (xe aC ad S c0) n none (xe aC ad (f_Rg_copySN S i j).2 c0) := by
  obtain ⟨F, hF⟩ : ∃ F, F = f_Rg_copySN S i j := ⟨_, rfl⟩
  rw [← hF]
  unfold f_Rg_copySN at hF
  refine px_start GG_k (by decide) (Nat.le_of_ble_eq_true rfl) ?_
  intro p e s m args below meth cd X hr hk
  refine j_L (L' := [(0, .ref (ad i)), (1, .ref (ad j))]) rfl ?_
  refine j_aload_n X d_Rg_copyRegisters_0 0 rfl ?_
  refine j_aload_n X d_Rg_copyRegisters_1 1 rfl ?_
  refine j_get X fd_Rg_7_Nt j (k_ltN hj hn) (x_Nt hj) rfl d_Rg_copyRegisters_2 ?_
  refine j_put X fp_Rg_7_St i (k_lt hi hn) (x_St hi) (Nat.le_of_ble_eq_true rfl) rfl rfl d_Rg_copyRegisters_5 (j_w (x_putSt_0 hi) ?_)
  refine x_gen (fun S1 e2 => ?_)
  skip
  replace hF := hF.trans (px_let_eq e2)
  refine j_aload_n X d_Rg_copyRegisters_8 0 rfl ?_
  refine j_aload_n X d_Rg_copyRegisters_9 1 rfl ?_
  refine j_get X fd_Rg_13_Nt j (k_ltN hj hn) (x_Nt hj) rfl d_Rg_copyRegisters_10 ?_
  refine j_put X fp_Rg_13_St i (k_lt hi hn) (x_St hi) (Nat.le_of_ble_eq_true rfl) rfl rfl d_Rg_copyRegisters_13 (j_w (x_putSt_1 hi) ?_)
  refine x_gen (fun S3 e4 => ?_)
  skip
  replace hF := hF.trans (px_let_eq e4)
  refine j_aload_n X d_Rg_copyRegisters_16 0 rfl ?_
  refine j_aload_n X d_Rg_copyRegisters_17 1 rfl ?_
  refine j_get X fd_Rg_16_Nt j (k_ltN hj hn) (x_Nt hj) rfl d_Rg_copyRegisters_18 ?_
  refine j_put X fp_Rg_16_St i (k_lt hi hn) (x_St hi) (Nat.le_of_ble_eq_true rfl) rfl rfl d_Rg_copyRegisters_21 (j_w (x_putSt_2 hi) ?_)
  refine x_gen (fun S5 e6 => ?_)
  skip
  replace hF := hF.trans (px_let_eq e6)
  refine j_aload_n X d_Rg_copyRegisters_24 0 rfl ?_
  refine j_aload_n X d_Rg_copyRegisters_25 1 rfl ?_
  refine j_get X fd_Rg_19_Nt j (k_ltN hj hn) (x_Nt hj) rfl d_Rg_copyRegisters_26 ?_
  refine j_put X fp_Rg_19_St i (k_lt hi hn) (x_St hi) (Nat.le_of_ble_eq_true rfl) rfl rfl d_Rg_copyRegisters_29 (j_w (x_putSt_3 hi) ?_)
  refine x_gen (fun S7 e8 => ?_)
  skip
  replace hF := hF.trans (px_let_eq e8)
  refine j_aload_n X d_Rg_copyRegisters_32 0 rfl ?_
  refine j_aload_n X d_Rg_copyRegisters_33 1 rfl ?_
  refine j_get X fd_Rg_22_Nt j (k_ltN hj hn) (x_Nt hj) rfl d_Rg_copyRegisters_34 ?_
  refine j_put X fp_Rg_22_St i (k_lt hi hn) (x_St hi) (Nat.le_of_ble_eq_true rfl) rfl rfl d_Rg_copyRegisters_37 (j_w (x_putSt_4 hi) ?_)
  refine x_gen (fun S9 e10 => ?_)
  skip
  replace hF := hF.trans (px_let_eq e10)
  refine j_aload_n X d_Rg_copyRegisters_40 0 rfl ?_
  refine j_aload_n X d_Rg_copyRegisters_41 1 rfl ?_
  refine j_get X fd_Rg_25_Nt j (k_ltN hj hn) (x_Nt hj) rfl d_Rg_copyRegisters_42 ?_
  refine j_put X fp_Rg_25_St i (k_lt hi hn) (x_St hi) (Nat.le_of_ble_eq_true rfl) rfl rfl d_Rg_copyRegisters_45 (j_w (x_putSt_5 hi) ?_)
  refine x_gen (fun S11 e12 => ?_)
  skip
  replace hF := hF.trans (px_let_eq e12)
  refine j_aload_n X d_Rg_copyRegisters_48 0 rfl ?_
  refine j_aload_n X d_Rg_copyRegisters_49 1 rfl ?_
  refine j_get X fd_Rg_28_Nt j (k_ltN hj hn) (x_Nt hj) rfl d_Rg_copyRegisters_50 ?_
  refine j_put X fp_Rg_28_St i (k_lt hi hn) (x_St hi) (Nat.le_of_ble_eq_true rfl) rfl rfl d_Rg_copyRegisters_53 (j_w (x_putSt_6 hi) ?_)
  refine x_gen (fun S13 e14 => ?_)
  skip
  replace hF := hF.trans (px_let_eq e14)
  exact j_vret X hr hk rfl (by rw [hF]) d_Rg_copyRegisters_56
def f_Rg_copyNS (S : xS) (i : Nat) (j : Nat) : Int32 × xS := px_let (sI S i 0 (gI S j 0)) (fun S1 : xS => px_let (sI S1 i 1 (gI S1 j 1)) (fun S3 : xS => px_let (sI S3 i 2 (gI S3 j 2)) (fun S5 : xS => px_let (sI S5 i 3 (gI S5 j 3)) (fun S7 : xS => px_let (sI S7 i 4 (gI S7 j 4)) (fun S9 : xS => px_let (sI S9 i 5 (gI S9 j 5)) (fun S11 : xS => px_let (sI S11 i 6 (gI S11 j 6)) (fun S13 : xS => ((0 : Int32), S13))))))))
abbrev rm_Rg_copyNS : Room := { frames := 0, cells := 0, slots := 0, locals := 0 }
set_option maxHeartbeats 4000000 in
set_option maxRecDepth 100000 in
theorem c_Rg_copyNS (l : Launch) (D : va_G) (aC : Nat → ClassId) (ad : Nat → Nat) (n : Nat) (hn : 124 ≤ n) (c0 : Nat → va_E) (S : xS) (i : Nat) (j : Nat) (hi : kNt i) (hj : kSt j)  : px_M l y_Rg_copyRegisters (Cond.code y_Rg_copyRegisters b_Rg_copyRegisters 2 none :: WS) rm_Rg_copyNS GG D CLS (TYS aC) [.ref (ad i), .ref (ad j)] ad (xe aC ad S c0) n none (xe aC ad (f_Rg_copyNS S i j).2 c0) := by
  obtain ⟨F, hF⟩ : ∃ F, F = f_Rg_copyNS S i j := ⟨_, rfl⟩
  rw [← hF]
  unfold f_Rg_copyNS at hF
  refine px_start GG_k (by decide) (Nat.le_of_ble_eq_true rfl) ?_
  intro p e s m args below meth cd X hr hk
  refine j_L (L' := [(0, .ref (ad i)), (1, .ref (ad j))]) rfl ?_
  refine j_aload_n X d_Rg_copyRegisters_0 0 rfl ?_
  refine j_aload_n X d_Rg_copyRegisters_1 1 rfl ?_
  refine j_get X fd_Rg_7_St j (k_lt hj hn) (x_St hj) rfl d_Rg_copyRegisters_2 ?_
  refine j_put X fp_Rg_7_Nt i (k_ltN hi hn) (x_Nt hi) (Nat.le_of_ble_eq_true rfl) rfl rfl d_Rg_copyRegisters_5 (j_w (x_putNt_0 hi) ?_)
  refine x_gen (fun S1 e2 => ?_)
  skip
  replace hF := hF.trans (px_let_eq e2)
  refine j_aload_n X d_Rg_copyRegisters_8 0 rfl ?_
  refine j_aload_n X d_Rg_copyRegisters_9 1 rfl ?_
  refine j_get X fd_Rg_13_St j (k_lt hj hn) (x_St hj) rfl d_Rg_copyRegisters_10 ?_
  refine j_put X fp_Rg_13_Nt i (k_ltN hi hn) (x_Nt hi) (Nat.le_of_ble_eq_true rfl) rfl rfl d_Rg_copyRegisters_13 (j_w (x_putNt_1 hi) ?_)
  refine x_gen (fun S3 e4 => ?_)
  skip
  replace hF := hF.trans (px_let_eq e4)
  refine j_aload_n X d_Rg_copyRegisters_16 0 rfl ?_
  refine j_aload_n X d_Rg_copyRegisters_17 1 rfl ?_
  refine j_get X fd_Rg_16_St j (k_lt hj hn) (x_St hj) rfl d_Rg_copyRegisters_18 ?_
  refine j_put X fp_Rg_16_Nt i (k_ltN hi hn) (x_Nt hi) (Nat.le_of_ble_eq_true rfl) rfl rfl d_Rg_copyRegisters_21 (j_w (x_putNt_2 hi) ?_)
  refine x_gen (fun S5 e6 => ?_)
  skip
  replace hF := hF.trans (px_let_eq e6)
  refine j_aload_n X d_Rg_copyRegisters_24 0 rfl ?_
  refine j_aload_n X d_Rg_copyRegisters_25 1 rfl ?_
  refine j_get X fd_Rg_19_St j (k_lt hj hn) (x_St hj) rfl d_Rg_copyRegisters_26 ?_
  refine j_put X fp_Rg_19_Nt i (k_ltN hi hn) (x_Nt hi) (Nat.le_of_ble_eq_true rfl) rfl rfl d_Rg_copyRegisters_29 (j_w (x_putNt_3 hi) ?_)
  refine x_gen (fun S7 e8 => ?_)
  skip
  replace hF := hF.trans (px_let_eq e8)
  refine j_aload_n X d_Rg_copyRegisters_32 0 rfl ?_
  refine j_aload_n X d_Rg_copyRegisters_33 1 rfl ?_
  refine j_get X fd_Rg_22_St j (k_lt hj hn) (x_St hj) rfl d_Rg_copyRegisters_34 ?_
  refine j_put X fp_Rg_22_Nt i (k_ltN hi hn) (x_Nt hi) (Nat.le_of_ble_eq_true rfl) rfl rfl d_Rg_copyRegisters_37 (j_w (x_putNt_4 hi) ?_)
  refine x_gen (fun S9 e10 => ?_)
  skip
  replace hF := hF.trans (px_let_eq e10)
  refine j_aload_n X d_Rg_copyRegisters_40 0 rfl ?_
  refine j_aload_n X d_Rg_copyRegisters_41 1 rfl ?_
  refine j_get X fd_Rg_25_St j (k_lt hj hn) (x_St hj) rfl d_Rg_copyRegisters_42 ?_
  refine j_put X fp_Rg_25_Nt i (k_ltN hi hn) (x_Nt hi) (Nat.le_of_ble_eq_true rfl) rfl rfl d_Rg_copyRegisters_45 (j_w (x_putNt_5 hi) ?_)
  refine x_gen (fun S11 e12 => ?_)
  skip
  replace hF := hF.trans (px_let_eq e12)
  refine j_aload_n X d_Rg_copyRegisters_48 0 rfl ?_
  refine j_aload_n X d_Rg_copyRegisters_49 1 rfl ?_
  refine j_get X fd_Rg_28_St j (k_lt hj hn) (x_St hj) rfl d_Rg_copyRegisters_50 ?_
  refine j_put X fp_Rg_28_Nt i (k_ltN hi hn) (x_Nt hi) (Nat.le_of_ble_eq_true rfl) rfl rfl d_Rg_copyRegisters_53 (j_w (x_putNt_6 hi) ?_)
  refine x_gen (fun S13 e14 => ?_)
  skip
  replace hF := hF.trans (px_let_eq e14)
  exact j_vret X hr hk rfl (by rw [hF]) d_Rg_copyRegisters_56
def f_St_copyState (S : xS) (i : Nat) (j : Nat) : Int32 × xS := px_let ((f_Rg_copySS S i j).2) (fun S1 : xS => px_let (sR S1 (i + 1) (va_cpy (gR S1 (j + 1)) (gR S1 (i + 1)) 0 0 56)) (fun S3 : xS => ((0 : Int32), S3)))
abbrev rm_St_copyState : Room := { frames := 1, cells := 0, slots := 0, locals := 70 }
set_option maxHeartbeats 4000000 in
set_option maxRecDepth 100000 in
theorem c_St_copyState (l : Launch) (D : va_G) (aC : Nat → ClassId) (ad : Nat → Nat) (n : Nat) (hn : 124 ≤ n) (c0 : Nat → va_E) (S : xS) (i : Nat) (j : Nat) (hi : kSt i) (hj : kSt j)  : px_M l y_St_copyState (Cond.code y_St_copyState b_St_copyState 2 none :: WS) rm_St_copyState GG D CLS (TYS aC) [.ref (ad i), .ref (ad j)] ad (xe aC ad S c0) n none (xe aC ad (f_St_copyState S i j).2 c0) := by
  obtain ⟨F, hF⟩ : ∃ F, F = f_St_copyState S i j := ⟨_, rfl⟩
  rw [← hF]
  unfold f_St_copyState at hF
  refine px_start GG_k (by decide) (Nat.le_of_ble_eq_true rfl) ?_
  intro p e s m args below meth cd X hr hk
  refine j_L (L' := [(0, .ref (ad i)), (1, .ref (ad j))]) rfl ?_
  refine j_aload_n X d_St_copyState_0 0 rfl ?_
  refine j_aload_n X d_St_copyState_1 1 rfl ?_
  refine j_callU (st := []) X i (k_lt hi hn) hY_Rg_copyRegisters (c_Rg_copySS l D aC ad n hn c0 S i j hi hj ) ⟨mw_332, mw_333, mw_334, mw_262, rfl, by decide, by decide, by decide +kernel⟩ (x_St hi) rfl rfl rfl (Nat.le_of_ble_eq_true rfl) d_St_copyState_2 rfl rfl ⟨by decide, by decide⟩ ⟨Nat.zero_le _, Nat.zero_le _⟩ (j_st (st' := []) rfl ?_)
  refine x_gen (fun S1 e2 => ?_)
  skip
  replace hF := hF.trans (px_let_eq e2)
  refine j_aload_n X d_St_copyState_5 1 rfl ?_
  refine j_get X fd_St_18_St j (k_lt hj hn) (x_St hj) rfl d_St_copyState_6 ?_
  refine j_iconst X (v := 0) d_St_copyState_9 (by decide) ?_
  refine j_aload_n X d_St_copyState_10 0 rfl ?_
  refine j_get X fd_St_18_St i (k_lt hi hn) (x_St hi) rfl d_St_copyState_11 ?_
  refine j_iconst X (v := 0) d_St_copyState_14 (by decide) ?_
  refine j_bipush X (v := 56) d_St_copyState_15 (by decide) ?_
  refine x_copy X ⟨mw_335, mw_337, mw_336, mw_15⟩ (j + 1) (i + 1) (k_lt1 hj hn) (k_lt1 hi hn) (x_mem hj) (x_mem hi) rfl d_St_copyState_17 (by decide) (Nat.le_of_ble_eq_true rfl) (j_w (x_ast_mem hi) ?_)
  refine x_gen (fun S3 e4 => ?_)
  skip
  replace hF := hF.trans (px_let_eq e4)
  exact j_vret X hr hk rfl (by rw [hF]) d_St_copyState_20
def f_Nt_begin (S : xS) (i : Nat) (j : Nat) : Int32 × xS := px_let ((f_Rg_copyNS S i j).2) (fun S1 : xS => px_let (sI S1 i 9 0) (fun S3 : xS => ((0 : Int32), S3)))
abbrev rm_Nt_begin : Room := { frames := 1, cells := 0, slots := 0, locals := 21 }
set_option maxHeartbeats 4000000 in
set_option maxRecDepth 100000 in
theorem c_Nt_begin (l : Launch) (D : va_G) (aC : Nat → ClassId) (ad : Nat → Nat) (n : Nat) (hn : 124 ≤ n) (c0 : Nat → va_E) (S : xS) (i : Nat) (j : Nat) (hi : kNt i) (hj : kSt j)  : px_M l y_Nt_begin (Cond.code y_Nt_begin b_Nt_begin 2 none :: WS) rm_Nt_begin GG D CLS (TYS aC) [.ref (ad i), .ref (ad j)] ad (xe aC ad S c0) n none (xe aC ad (f_Nt_begin S i j).2 c0) := by
  obtain ⟨F, hF⟩ : ∃ F, F = f_Nt_begin S i j := ⟨_, rfl⟩
  rw [← hF]
  unfold f_Nt_begin at hF
  refine px_start GG_k (by decide) (Nat.le_of_ble_eq_true rfl) ?_
  intro p e s m args below meth cd X hr hk
  refine j_L (L' := [(0, .ref (ad i)), (1, .ref (ad j))]) rfl ?_
  refine j_aload_n X d_Nt_begin_0 0 rfl ?_
  refine j_aload_n X d_Nt_begin_1 1 rfl ?_
  refine j_callU (st := []) X i (k_ltN hi hn) hY_Rg_copyRegisters (c_Rg_copyNS l D aC ad n hn c0 S i j hi hj ) ⟨mw_258, mw_259, mw_261, mw_262, rfl, by decide, by decide, by decide +kernel⟩ (x_Nt hi) rfl rfl rfl (Nat.le_of_ble_eq_true rfl) d_Nt_begin_2 rfl rfl ⟨by decide, by decide⟩ ⟨Nat.zero_le _, Nat.zero_le _⟩ (j_st (st' := []) rfl ?_)
  refine x_gen (fun S1 e2 => ?_)
  skip
  replace hF := hF.trans (px_let_eq e2)
  refine j_aload_n X d_Nt_begin_5 0 rfl ?_
  refine j_iconst X (v := 0) d_Nt_begin_6 (by decide) ?_
  refine j_put X fp_Nt_20_Nt i (k_ltN hi hn) (x_Nt hi) (Nat.le_of_ble_eq_true rfl) rfl rfl d_Nt_begin_7 (j_w (x_putNt_9 hi) ?_)
  refine x_gen (fun S3 e4 => ?_)
  skip
  replace hF := hF.trans (px_let_eq e4)
  exact j_vret X hr hk rfl (by rw [hF]) d_Nt_begin_10
def f_Un_begin (S : xS) (j : Nat) : Nat × xS := px_let (sI S 6 1 (((gI S 6 1) + 1) - ((gI S 6 1) + 1) / 32 * 32)) (fun S1 : xS => px_let (if 32 < (gI S1 6 2) + 1 then 32 else (gI S1 6 2) + 1) (fun r3 : Int32 => px_let (sI S1 6 2 r3) (fun S5 : xS => px_let ((f_Nt_begin S5 (iN (gI S5 6 1).toNatClampNeg) j).2) (fun S8 : xS => ((gI S8 6 1).toNatClampNeg, S8)))))
def p_Un_begin (S : xS) (j : Nat) : Prop := (∀ S1 : xS, S1 = sI S 6 1 (((gI S 6 1) + 1) - ((gI S 6 1) + 1) / 32 * 32) → (∀ r3 : Int32, r3 = (if 32 < (gI S1 6 2) + 1 then 32 else (gI S1 6 2) + 1) → (∀ S5 : xS, S5 = sI S1 6 2 r3 → (vp_in (gI S5 6 1) 32) ∧ ((∀ S8 : xS, S8 = (f_Nt_begin S5 (iN (gI S5 6 1).toNatClampNeg) j).2 → (vp_in (gI S8 6 1) 32) ∧ (True))))))
abbrev rm_Un_begin : Room := { frames := 2, cells := 0, slots := 0, locals := 42 }
set_option maxHeartbeats 4000000 in
set_option maxRecDepth 100000 in
theorem c_Un_begin (l : Launch) (D : va_G) (aC : Nat → ClassId) (ad : Nat → Nat) (n : Nat) (hn : 124 ≤ n) (c0 : Nat → va_E) (S : xS) (j : Nat) (hj : kSt j) (hp : p_Un_begin S j) : px_M l y_Un_begin (Cond.code y_Un_begin b_Un_begin 2 (some (.object "ReplayMachine$Note")) :: WS) rm_Un_begin GG D CLS (TYS aC) [.ref (ad 6), .ref (ad j)] ad (xe aC ad S c0) n (some (.ref (ad (iN (f_Un_begin S j).1)))) (xe aC ad (f_Un_begin S j).2 c0) := by
  obtain ⟨F, hF⟩ : ∃ F, F = f_Un_begin S j := ⟨_, rfl⟩
  rw [← hF]
  unfold f_Un_begin at hF
  refine px_start GG_k (by decide) (Nat.le_of_ble_eq_true rfl) ?_
  intro p e s m args below meth cd X hr hk
  refine j_L (L' := [(0, .ref (ad 6)), (1, .ref (ad j))]) rfl ?_
  unfold p_Un_begin at hp
  refine j_aload_n X d_Un_begin_0 0 rfl ?_
  refine j_aload_n X d_Un_begin_1 0 rfl ?_
  refine j_get X fd_Un_18_Un 6 (by omega) x_Un rfl d_Un_begin_2 ?_
  refine j_iconst X (v := 1) d_Un_begin_5 (by decide) ?_
  refine j_iadd X d_Un_begin_6 ?_
  refine j_bipush X (v := 32) d_Un_begin_7 (by decide) ?_
  refine j_irem X d_Un_begin_9 (by decide) ?_
  refine j_put X fp_Un_18_Un 6 (by omega) x_Un (Nat.le_of_ble_eq_true rfl) rfl rfl d_Un_begin_10 (j_w (x_putUn_1) ?_)
  refine x_gen (fun S1 e2 => ?_)
  replace hp := hp S1 e2
  replace hF := hF.trans (px_let_eq e2)
  refine j_aload_n X d_Un_begin_13 0 rfl ?_
  refine j_aload_n X d_Un_begin_14 0 rfl ?_
  refine j_get X fd_Un_22_Un 6 (by omega) x_Un rfl d_Un_begin_15 ?_
  refine j_iconst X (v := 1) d_Un_begin_18 (by decide) ?_
  refine j_iadd X d_Un_begin_19 ?_
  refine j_bipush X (v := 32) d_Un_begin_20 (by decide) ?_
  refine x_mmin X ⟨mw_251, mw_252, mw_14, mw_253⟩ d_Un_begin_22 (by decide) (Nat.le_of_ble_eq_true rfl) (Nat.zero_le _) (Nat.zero_le _) ?_
  refine j_topi (fun r3 e4 => ?_)
  replace hp := hp r3 e4
  replace hF := hF.trans (px_let_eq e4)
  refine j_put X fp_Un_22_Un 6 (by omega) x_Un (Nat.le_of_ble_eq_true rfl) rfl rfl d_Un_begin_25 (j_w (x_putUn_2) ?_)
  refine x_gen (fun S5 e6 => ?_)
  replace hp := hp S5 e6
  replace hF := hF.trans (px_let_eq e6)
  refine j_aload_n X d_Un_begin_28 0 rfl ?_
  refine j_get X fd_Un_11_Un 6 (by omega) x_Un rfl d_Un_begin_29 ?_
  refine j_aload_n X d_Un_begin_32 0 rfl ?_
  refine j_get X fd_Un_18_Un 6 (by omega) x_Un rfl d_Un_begin_33 ?_
  obtain ⟨o7, hp⟩ := hp
  refine x_aald_notes X hn o7 d_Un_begin_36 rfl ?_
  refine j_aload_n X d_Un_begin_37 1 rfl ?_
  refine j_callV (st := []) X (iN (gI S5 6 1).toNatClampNeg) (k_ltN (k_N _) hn) hY_Nt_begin (c_Nt_begin l D aC ad n hn c0 S5 (iN (gI S5 6 1).toNatClampNeg) j (k_N _) hj ) mw_254 hI_Nt_begin hS_Nt_begin (x_Nt (k_N _)) rfl rfl rfl (Nat.le_of_ble_eq_true rfl) d_Un_begin_38 rfl rfl ⟨by decide, by decide⟩ ⟨Nat.zero_le _, Nat.zero_le _⟩ (j_st (st' := []) rfl ?_)
  refine x_gen (fun S8 e9 => ?_)
  replace hp := hp S8 e9
  replace hF := hF.trans (px_let_eq e9)
  refine j_aload_n X d_Un_begin_41 0 rfl ?_
  refine j_get X fd_Un_11_Un 6 (by omega) x_Un rfl d_Un_begin_42 ?_
  refine j_aload_n X d_Un_begin_45 0 rfl ?_
  refine j_get X fd_Un_18_Un 6 (by omega) x_Un rfl d_Un_begin_46 ?_
  obtain ⟨o10, hp⟩ := hp
  refine x_aald_notes X hn o10 d_Un_begin_49 rfl ?_
  exact j_aret X hr hk (by rw [hF]) (by rw [hF]) d_Un_begin_50
