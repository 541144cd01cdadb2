def f_Cp_isMultiple (S : xS) (t : Int32) : Int32 := if (gI S 104 2) ≤ 0 then 0 else if (t - t / (gI S 104 2) * (gI S 104 2)) = 0 then 1 else 0
def p_Cp_isMultiple (S : xS) (t : Int32) : Prop := ((gI S 104 2) ≤ 0 → True) ∧ (¬ (gI S 104 2) ≤ 0 → (¬ (gI S 104 2) = 0) ∧ (((t - t / (gI S 104 2) * (gI S 104 2)) = 0 → True) ∧ (¬ (t - t / (gI S 104 2) * (gI S 104 2)) = 0 → True)))
abbrev rm_Cp_isMultiple : Room := { frames := 0, cells := 0, slots := 0, locals := 0 }
set_option maxHeartbeats 4000000 in
set_option maxRecDepth 100000 in
theorem c_Cp_isMultiple (l : Launch) (D : va_G) (aC : Nat → ClassId) (ad : Nat → Nat) (n : Nat) (hn : 124 ≤ n) (c0 : Nat → va_E) (S : xS) (t : Int32)  (hp : p_Cp_isMultiple S t) : px_M l y_Cp_isMultiple (Cond.code y_Cp_isMultiple b_Cp_isMultiple 2 (some .boolean) :: WS) rm_Cp_isMultiple GG D CLS (TYS aC) [.ref (ad 104), .int t] ad (xe aC ad S c0) n (some (.int (f_Cp_isMultiple S t))) (xe aC ad S c0) := by
  obtain ⟨F, hF⟩ : ∃ F, F = f_Cp_isMultiple S t := ⟨_, rfl⟩
  rw [← hF]
  unfold f_Cp_isMultiple at hF
  refine px_start GG_k (by decide) (Nat.le_of_ble_eq_true rfl) ?_
  intro p e s m args below meth cd X hr hk
  refine j_L (L' := [(0, .ref (ad 104)), (1, .int t)]) rfl ?_
  unfold p_Cp_isMultiple at hp
  refine j_aload_n X d_Cp_isMultiple_0 0 rfl ?_
  refine j_get X fd_Cp_24_Cp 104 (by omega) x_Cp rfl d_Cp_isMultiple_1 ?_
  refine j_if_le X (tgt := 20) d_Cp_isMultiple_4 (by decide) (fun h1 => ?_) (fun h1 => ?_)
  · replace hp := hp.1 h1
    replace hF := hF.trans (if_pos h1)
    refine j_iconst X (v := 0) d_Cp_isMultiple_20 (by decide) ?_
    exact j_zret X hr hk rfl (by rw [hF]) rfl d_Cp_isMultiple_21
  · replace hp := hp.2 h1
    replace hF := hF.trans (if_neg h1)
    refine j_iload_n X d_Cp_isMultiple_7 1 rfl ?_
    refine j_aload_n X d_Cp_isMultiple_8 0 rfl ?_
    refine j_get X fd_Cp_24_Cp 104 (by omega) x_Cp rfl d_Cp_isMultiple_9 ?_
    obtain ⟨o2, hp⟩ := hp
    refine j_irem X d_Cp_isMultiple_12 o2 ?_
    refine j_if_ne X (tgt := 20) d_Cp_isMultiple_13 (by decide) (fun h3 => ?_) (fun h3 => ?_)
    · replace hp := hp.2 h3
      replace hF := hF.trans (if_neg h3)
      refine j_iconst X (v := 0) d_Cp_isMultiple_20 (by decide) ?_
      exact j_zret X hr hk rfl (by rw [hF]) rfl d_Cp_isMultiple_21
    · replace hp := hp.1 h3
      replace hF := hF.trans (if_pos h3)
      refine j_iconst X (v := 1) d_Cp_isMultiple_16 (by decide) ?_
      refine j_goto X (tgt := 21) d_Cp_isMultiple_17 (by decide) ?_
      exact j_zret X hr hk rfl (by rw [hF]) rfl d_Cp_isMultiple_21
def f_RM_markB (S : xS) (i : Int32) (w : Int32) : Int32 × xS := if (gR S 122 i.toNatClampNeg) = w then px_let (sR S 122 (upd (gR S 122) i.toNatClampNeg (vp_nar .boolean w))) (fun S3 : xS => (0, S3)) else px_let (sR S 122 (upd (gR S 122) i.toNatClampNeg (vp_nar .boolean w))) (fun S6 : xS => (1, S6))
def p_RM_markB (S : xS) (i : Int32) (w : Int32) : Prop := (vp_in i 64) ∧ (((gR S 122 i.toNatClampNeg) = w → (vp_in i 64) ∧ ((∀ S3 : xS, S3 = sR S 122 (upd (gR S 122) i.toNatClampNeg (vp_nar .boolean w)) → True))) ∧ (¬ (gR S 122 i.toNatClampNeg) = w → (vp_in i 64) ∧ ((∀ S6 : xS, S6 = sR S 122 (upd (gR S 122) i.toNatClampNeg (vp_nar .boolean w)) → True))))
abbrev rm_RM_markB : Room := { frames := 0, cells := 0, slots := 0, locals := 0 }
set_option maxHeartbeats 4000000 in
set_option maxRecDepth 100000 in
theorem c_RM_markB (l : Launch) (D : va_G) (aC : Nat → ClassId) (ad : Nat → Nat) (n : Nat) (hn : 124 ≤ n) (c0 : Nat → va_E) (S : xS) (i : Int32) (w : Int32)  (hp : p_RM_markB S i w) : px_M l y_RM_mark (Cond.code y_RM_mark b_RM_mark 4 (some .boolean) :: WS) rm_RM_markB GG D CLS (TYS aC) [.ref (ad 122), .int i, .int w] ad (xe aC ad S c0) n (some (.int (f_RM_markB S i w).1)) (xe aC ad (f_RM_markB S i w).2 c0) := by
  obtain ⟨F, hF⟩ : ∃ F, F = f_RM_markB S i w := ⟨_, rfl⟩
  rw [← hF]
  unfold f_RM_markB at hF
  refine px_start GG_k (by decide) (Nat.le_of_ble_eq_true rfl) ?_
  intro p e s m args below meth cd X hr hk
  refine j_L (L' := [(0, .ref (ad 122)), (1, .int i), (2, .int w)]) rfl ?_
  unfold p_RM_markB at hp
  refine j_aload_n X d_RM_mark_0 0 rfl ?_
  refine j_iload_n X d_RM_mark_1 1 rfl ?_
  obtain ⟨o1, hp⟩ := hp
  refine j_zald X 122 1 (by omega) x_brk rfl o1 d_RM_mark_2 ?_
  refine j_iload_n X d_RM_mark_3 2 rfl ?_
  refine j_icmp_eq X (tgt := 11) d_RM_mark_4 (by decide) (fun h2 => ?_) (fun h2 => ?_)
  · replace hp := hp.1 h2
    replace hF := hF.trans (if_pos h2)
    refine j_iconst X (v := 0) d_RM_mark_11 (by decide) ?_
    refine j_istore_n X d_RM_mark_12 [(3, .int 0), (0, .ref (ad 122)), (1, .int i), (2, .int w)] (by decide) rfl ?_
    refine j_aload_n X d_RM_mark_13 1 rfl ?_
    refine j_iload_n X d_RM_mark_14 2 rfl ?_
    refine j_iload_n X d_RM_mark_15 3 rfl ?_
    obtain ⟨o5, hp⟩ := hp
    refine j_zast X 122 1 (by omega) x_brk rfl o5 d_RM_mark_16 (j_w (x_ast_brk) ?_)
    refine x_gen (fun S3 e4 => ?_)
    replace hp := hp S3 e4
    replace hF := hF.trans (px_let_eq e4)
    refine j_iload_n X d_RM_mark_17 0 rfl ?_
    exact j_zret X hr hk rfl (by rw [hF]) (by rw [hF]) d_RM_mark_18
  · replace hp := hp.2 h2
    replace hF := hF.trans (if_neg h2)
    refine j_iconst X (v := 1) d_RM_mark_7 (by decide) ?_
    refine j_goto X (tgt := 12) d_RM_mark_8 (by decide) ?_
    refine j_istore_n X d_RM_mark_12 [(3, .int 1), (0, .ref (ad 122)), (1, .int i), (2, .int w)] (by decide) rfl ?_
    refine j_aload_n X d_RM_mark_13 1 rfl ?_
    refine j_iload_n X d_RM_mark_14 2 rfl ?_
    refine j_iload_n X d_RM_mark_15 3 rfl ?_
    obtain ⟨o8, hp⟩ := hp
    refine j_zast X 122 1 (by omega) x_brk rfl o8 d_RM_mark_16 (j_w (x_ast_brk) ?_)
    refine x_gen (fun S6 e7 => ?_)
    replace hp := hp S6 e7
    replace hF := hF.trans (px_let_eq e7)
    refine j_iload_n X d_RM_mark_17 0 rfl ?_
    exact j_zret X hr hk rfl (by rw [hF]) (by rw [hF]) d_RM_mark_18
def f_RM_markW (S : xS) (i : Int32) (w : Int32) : Int32 × xS := if (gR S 123 i.toNatClampNeg) = w then px_let (sR S 123 (upd (gR S 123) i.toNatClampNeg (vp_nar .boolean w))) (fun S3 : xS => (0, S3)) else px_let (sR S 123 (upd (gR S 123) i.toNatClampNeg (vp_nar .boolean w))) (fun S6 : xS => (1, S6))
def p_RM_markW (S : xS) (i : Int32) (w : Int32) : Prop := (vp_in i 32) ∧ (((gR S 123 i.toNatClampNeg) = w → (vp_in i 32) ∧ ((∀ S3 : xS, S3 = sR S 123 (upd (gR S 123) i.toNatClampNeg (vp_nar .boolean w)) → True))) ∧ (¬ (gR S 123 i.toNatClampNeg) = w → (vp_in i 32) ∧ ((∀ S6 : xS, S6 = sR S 123 (upd (gR S 123) i.toNatClampNeg (vp_nar .boolean w)) → True))))
abbrev rm_RM_markW : Room := { frames := 0, cells := 0, slots := 0, locals := 0 }
set_option maxHeartbeats 4000000 in
set_option maxRecDepth 100000 in
theorem c_RM_markW (l : Launch) (D : va_G) (aC : Nat → ClassId) (ad : Nat → Nat) (n : Nat) (hn : 124 ≤ n) (c0 : Nat → va_E) (S : xS) (i : Int32) (w : Int32)  (hp : p_RM_markW S i w) : px_M l y_RM_mark (Cond.code y_RM_mark b_RM_mark 4 (some .boolean) :: WS) rm_RM_markW GG D CLS (TYS aC) [.ref (ad 123), .int i, .int w] ad (xe aC ad S c0) n (some (.int (f_RM_markW S i w).1)) (xe aC ad (f_RM_markW S i w).2 c0) := by
  obtain ⟨F, hF⟩ : ∃ F, F = f_RM_markW S i w := ⟨_, rfl⟩
  rw [← hF]
  unfold f_RM_markW at hF
  refine px_start GG_k (by decide) (Nat.le_of_ble_eq_true rfl) ?_
  intro p e s m args below meth cd X hr hk
  refine j_L (L' := [(0, .ref (ad 123)), (1, .int i), (2, .int w)]) rfl ?_
  unfold p_RM_markW at hp
  refine j_aload_n X d_RM_mark_0 0 rfl ?_
  refine j_iload_n X d_RM_mark_1 1 rfl ?_
  obtain ⟨o1, hp⟩ := hp
  refine j_zald X 123 1 (by omega) x_wat rfl o1 d_RM_mark_2 ?_
  refine j_iload_n X d_RM_mark_3 2 rfl ?_
  refine j_icmp_eq X (tgt := 11) d_RM_mark_4 (by decide) (fun h2 => ?_) (fun h2 => ?_)
  · replace hp := hp.1 h2
    replace hF := hF.trans (if_pos h2)
    refine j_iconst X (v := 0) d_RM_mark_11 (by decide) ?_
    refine j_istore_n X d_RM_mark_12 [(3, .int 0), (0, .ref (ad 123)), (1, .int i), (2, .int w)] (by decide) rfl ?_
    refine j_aload_n X d_RM_mark_13 1 rfl ?_
    refine j_iload_n X d_RM_mark_14 2 rfl ?_
    refine j_iload_n X d_RM_mark_15 3 rfl ?_
    obtain ⟨o5, hp⟩ := hp
    refine j_zast X 123 1 (by omega) x_wat rfl o5 d_RM_mark_16 (j_w (x_ast_wat) ?_)
    refine x_gen (fun S3 e4 => ?_)
    replace hp := hp S3 e4
    replace hF := hF.trans (px_let_eq e4)
    refine j_iload_n X d_RM_mark_17 0 rfl ?_
    exact j_zret X hr hk rfl (by rw [hF]) (by rw [hF]) d_RM_mark_18
  · replace hp := hp.2 h2
    replace hF := hF.trans (if_neg h2)
    refine j_iconst X (v := 1) d_RM_mark_7 (by decide) ?_
    refine j_goto X (tgt := 12) d_RM_mark_8 (by decide) ?_
    refine j_istore_n X d_RM_mark_12 [(3, .int 1), (0, .ref (ad 123)), (1, .int i), (2, .int w)] (by decide) rfl ?_
    refine j_aload_n X d_RM_mark_13 1 rfl ?_
    refine j_iload_n X d_RM_mark_14 2 rfl ?_
    refine j_iload_n X d_RM_mark_15 3 rfl ?_
    obtain ⟨o8, hp⟩ := hp
    refine j_zast X 123 1 (by omega) x_wat rfl o8 d_RM_mark_16 (j_w (x_ast_wat) ?_)
    refine x_gen (fun S6 e7 => ?_)
    replace hp := hp S6 e7
    replace hF := hF.trans (px_let_eq e7)
    refine j_iload_n X d_RM_mark_17 0 rfl ?_
    exact j_zret X hr hk rfl (by rw [hF]) (by rw [hF]) d_RM_mark_18
theorem nb_RM_markB {S : xS} {i w : Int32} : narrow .boolean (.int (f_RM_markB S i w).1) = .int (f_RM_markB S i w).1 := by
  unfold f_RM_markB
  simp only [px_let]
  split
  · exact (by decide : narrow .boolean (.int 0) = .int 0)
  · exact (by decide : narrow .boolean (.int 1) = .int 1)
theorem nb_RM_markW {S : xS} {i w : Int32} : narrow .boolean (.int (f_RM_markW S i w).1) = .int (f_RM_markW S i w).1 := by
  unfold f_RM_markW
  simp only [px_let]
  split
  · exact (by decide : narrow .boolean (.int 0) = .int 0)
  · exact (by decide : narrow .boolean (.int 1) = .int 1)
def f_RM_stopHere (S : xS)  : Int32 := if (gI S 4 0) = 0 then 0 else px_let (f_RM_within (gI S 4 1) 64) (fun r2 : Int32 => if r2 = 0 then px_let (f_RM_within (gI S 4 6) 32) (fun r5 : Int32 => if r5 = 0 then 0 else if (gR S 123 (gI S 4 6).toNatClampNeg) = 0 then 0 else 10) else if (gR S 122 (gI S 4 1).toNatClampNeg) = 0 then px_let (f_RM_within (gI S 4 6) 32) (fun r12 : Int32 => if r12 = 0 then 0 else if (gR S 123 (gI S 4 6).toNatClampNeg) = 0 then 0 else 10) else 9)
def p_RM_stopHere (S : xS)  : Prop := ((gI S 4 0) = 0 → True) ∧ (¬ (gI S 4 0) = 0 → (∀ r2 : Int32, r2 = (f_RM_within (gI S 4 1) 64) → (r2 = 0 → (∀ r5 : Int32, r5 = (f_RM_within (gI S 4 6) 32) → (r5 = 0 → True) ∧ (¬ r5 = 0 → (vp_in (gI S 4 6) 32) ∧ (((gR S 123 (gI S 4 6).toNatClampNeg) = 0 → True) ∧ (¬ (gR S 123 (gI S 4 6).toNatClampNeg) = 0 → True))))) ∧ (¬ r2 = 0 → (vp_in (gI S 4 1) 64) ∧ (((gR S 122 (gI S 4 1).toNatClampNeg) = 0 → (∀ r12 : Int32, r12 = (f_RM_within (gI S 4 6) 32) → (r12 = 0 → True) ∧ (¬ r12 = 0 → (vp_in (gI S 4 6) 32) ∧ (((gR S 123 (gI S 4 6).toNatClampNeg) = 0 → True) ∧ (¬ (gR S 123 (gI S 4 6).toNatClampNeg) = 0 → True))))) ∧ (¬ (gR S 122 (gI S 4 1).toNatClampNeg) = 0 → True)))))
abbrev rm_RM_stopHere : Room := { frames := 1, cells := 0, slots := 0, locals := 21 }
set_option maxHeartbeats 4000000 in
set_option maxRecDepth 100000 in
theorem c_RM_stopHere (l : Launch) (D : va_G) (aC : Nat → ClassId) (ad : Nat → Nat) (n : Nat) (hn : 124 ≤ n) (c0 : Nat → va_E) (S : xS)   (hp : p_RM_stopHere S ) : px_M l y_RM_stopHere (Cond.code y_RM_stopHere b_RM_stopHere 2 (some .int) :: WS) rm_RM_stopHere GG D CLS (TYS aC) [.ref (ad 0)] ad (xe aC ad S c0) n (some (.int (f_RM_stopHere S))) (xe aC ad S c0) := by
  obtain ⟨F, hF⟩ : ∃ F, F = f_RM_stopHere S := ⟨_, rfl⟩
  rw [← hF]
  unfold f_RM_stopHere at hF
  refine px_start GG_k (by decide) (Nat.le_of_ble_eq_true rfl) ?_
  intro p e s m args below meth cd X hr hk
  refine j_L (L' := [(0, .ref (ad 0))]) rfl ?_
  unfold p_RM_stopHere at hp
  refine j_aload_n X d_RM_stopHere_0 0 rfl ?_
  refine j_get X fd_RM_14_RM 0 (by omega) x_RM rfl d_RM_stopHere_1 ?_
  refine j_get X fd_RM_79_Ma 1 (by omega) x_Ma rfl d_RM_stopHere_4 ?_
  refine j_astore_n X d_RM_stopHere_7 [(1, .ref (ad 4)), (0, .ref (ad 0))] (by decide) rfl ?_
  refine j_aload_n X d_RM_stopHere_8 0 rfl ?_
  refine j_get X fd_RM_83_St 4 (k_lt k_4 hn) (x_St k_4) rfl d_RM_stopHere_9 ?_
  refine j_if_ne X (tgt := 17) d_RM_stopHere_12 (by decide) (fun h1 => ?_) (fun h1 => ?_)
  · replace hp := hp.2 h1
    replace hF := hF.trans (if_neg h1)
    refine j_aload_n X d_RM_stopHere_17 0 rfl ?_
    refine j_get X fd_RM_99_St 4 (k_lt k_4 hn) (x_St k_4) rfl d_RM_stopHere_18 ?_
    refine j_bipush X (v := 64) d_RM_stopHere_21 (by decide) ?_
    refine j_callP (st := []) X hY_RM_within (c_RM_within l (gI S 4 1) 64 ) mw_342 hT_RM_within rfl rfl (Nat.le_of_ble_eq_true rfl) d_RM_stopHere_23 rfl rfl ⟨by decide, by decide⟩ ⟨Nat.zero_le _, Nat.zero_le _⟩ (j_st (st' := [.int (f_RM_within (gI S 4 1) 64)]) rfl ?_)
    refine j_topi (fun r2 e3 => ?_)
    replace hp := hp r2 e3
    replace hF := hF.trans (px_let_eq e3)
    refine j_if_eq X (tgt := 44) d_RM_stopHere_26 (by decide) (fun h4 => ?_) (fun h4 => ?_)
    · replace hp := hp.1 h4
      replace hF := hF.trans (if_pos h4)
      refine j_aload_n X d_RM_stopHere_44 0 rfl ?_
      refine j_get X fd_RM_153_St 4 (k_lt k_4 hn) (x_St k_4) rfl d_RM_stopHere_45 ?_
      refine j_bipush X (v := 32) d_RM_stopHere_48 (by decide) ?_
      refine j_callP (st := []) X hY_RM_within (c_RM_within l (gI S 4 6) 32 ) mw_342 hT_RM_within rfl rfl (Nat.le_of_ble_eq_true rfl) d_RM_stopHere_50 rfl rfl ⟨by decide, by decide⟩ ⟨Nat.zero_le _, Nat.zero_le _⟩ (j_st (st' := [.int (f_RM_within (gI S 4 6) 32)]) rfl ?_)
      refine j_topi (fun r5 e6 => ?_)
      replace hp := hp r5 e6
      replace hF := hF.trans (px_let_eq e6)
      refine j_if_eq X (tgt := 73) d_RM_stopHere_53 (by decide) (fun h7 => ?_) (fun h7 => ?_)
      · replace hp := hp.1 h7
        replace hF := hF.trans (if_pos h7)
        refine j_iconst X (v := 0) d_RM_stopHere_73 (by decide) ?_
        exact j_iret X hr hk (by rw [hF]) rfl d_RM_stopHere_74
      · replace hp := hp.2 h7
        replace hF := hF.trans (if_neg h7)
        refine j_aload_n X d_RM_stopHere_56 1 rfl ?_
        refine j_get X fd_RM_29_RM 0 (by omega) x_RM rfl d_RM_stopHere_57 ?_
        refine j_aload_n X d_RM_stopHere_60 0 rfl ?_
        refine j_get X fd_RM_153_St 4 (k_lt k_4 hn) (x_St k_4) rfl d_RM_stopHere_61 ?_
        obtain ⟨o8, hp⟩ := hp
        refine j_zald X 123 1 (by omega) x_wat rfl o8 d_RM_stopHere_64 ?_
        refine j_if_eq X (tgt := 73) d_RM_stopHere_65 (by decide) (fun h9 => ?_) (fun h9 => ?_)
        · replace hp := hp.1 h9
          replace hF := hF.trans (if_pos h9)
          refine j_iconst X (v := 0) d_RM_stopHere_73 (by decide) ?_
          exact j_iret X hr hk (by rw [hF]) rfl d_RM_stopHere_74
        · replace hp := hp.2 h9
          replace hF := hF.trans (if_neg h9)
          refine j_bipush X (v := 10) d_RM_stopHere_68 (by decide) ?_
          refine j_goto X (tgt := 74) d_RM_stopHere_70 (by decide) ?_
          exact j_iret X hr hk (by rw [hF]) rfl d_RM_stopHere_74
    · replace hp := hp.2 h4
      replace hF := hF.trans (if_neg h4)
      refine j_aload_n X d_RM_stopHere_29 1 rfl ?_
      refine j_get X fd_RM_25_RM 0 (by omega) x_RM rfl d_RM_stopHere_30 ?_
      refine j_aload_n X d_RM_stopHere_33 0 rfl ?_
      refine j_get X fd_RM_99_St 4 (k_lt k_4 hn) (x_St k_4) rfl d_RM_stopHere_34 ?_
      obtain ⟨o10, hp⟩ := hp
      refine j_zald X 122 1 (by omega) x_brk rfl o10 d_RM_stopHere_37 ?_
      refine j_if_eq X (tgt := 44) d_RM_stopHere_38 (by decide) (fun h11 => ?_) (fun h11 => ?_)
      · replace hp := hp.1 h11
        replace hF := hF.trans (if_pos h11)
        refine j_aload_n X d_RM_stopHere_44 0 rfl ?_
        refine j_get X fd_RM_153_St 4 (k_lt k_4 hn) (x_St k_4) rfl d_RM_stopHere_45 ?_
        refine j_bipush X (v := 32) d_RM_stopHere_48 (by decide) ?_
        refine j_callP (st := []) X hY_RM_within (c_RM_within l (gI S 4 6) 32 ) mw_342 hT_RM_within rfl rfl (Nat.le_of_ble_eq_true rfl) d_RM_stopHere_50 rfl rfl ⟨by decide, by decide⟩ ⟨Nat.zero_le _, Nat.zero_le _⟩ (j_st (st' := [.int (f_RM_within (gI S 4 6) 32)]) rfl ?_)
        refine j_topi (fun r12 e13 => ?_)
        replace hp := hp r12 e13
        replace hF := hF.trans (px_let_eq e13)
        refine j_if_eq X (tgt := 73) d_RM_stopHere_53 (by decide) (fun h14 => ?_) (fun h14 => ?_)
        · replace hp := hp.1 h14
          replace hF := hF.trans (if_pos h14)
          refine j_iconst X (v := 0) d_RM_stopHere_73 (by decide) ?_
          exact j_iret X hr hk (by rw [hF]) rfl d_RM_stopHere_74
        · replace hp := hp.2 h14
          replace hF := hF.trans (if_neg h14)
          refine j_aload_n X d_RM_stopHere_56 1 rfl ?_
          refine j_get X fd_RM_29_RM 0 (by omega) x_RM rfl d_RM_stopHere_57 ?_
          refine j_aload_n X d_RM_stopHere_60 0 rfl ?_
          refine j_get X fd_RM_153_St 4 (k_lt k_4 hn) (x_St k_4) rfl d_RM_stopHere_61 ?_
          obtain ⟨o15, hp⟩ := hp
          refine j_zald X 123 1 (by omega) x_wat rfl o15 d_RM_stopHere_64 ?_
          refine j_if_eq X (tgt := 73) d_RM_stopHere_65 (by decide) (fun h16 => ?_) (fun h16 => ?_)
          · replace hp := hp.1 h16
            replace hF := hF.trans (if_pos h16)
            refine j_iconst X (v := 0) d_RM_stopHere_73 (by decide) ?_
            exact j_iret X hr hk (by rw [hF]) rfl d_RM_stopHere_74
          · replace hp := hp.2 h16
            replace hF := hF.trans (if_neg h16)
            refine j_bipush X (v := 10) d_RM_stopHere_68 (by decide) ?_
            refine j_goto X (tgt := 74) d_RM_stopHere_70 (by decide) ?_
            exact j_iret X hr hk (by rw [hF]) rfl d_RM_stopHere_74
      · replace hp := hp.2 h11
        replace hF := hF.trans (if_neg h11)
        refine j_bipush X (v := 9) d_RM_stopHere_41 (by decide) ?_
        exact j_iret X hr hk (by rw [hF]) rfl d_RM_stopHere_43
  · replace hp := hp.1 h1
    replace hF := hF.trans (if_pos h1)
    refine j_iconst X (v := 0) d_RM_stopHere_15 (by decide) ?_
    exact j_iret X hr hk (by rw [hF]) rfl d_RM_stopHere_16
def f_RM_input (S : xS) (v : Int32) : Int32 × xS := px_let ((f_Ma_addInput S v).2) (fun S2 : xS => px_let ((f_Ma_addInput S v).1) (fun r4 : Int32 => (r4, S2)))
def p_RM_input (S : xS) (v : Int32) : Prop := (p_Ma_addInput S v) ∧ ((∀ S2 : xS, S2 = (f_Ma_addInput S v).2 → (∀ r4 : Int32, r4 = ((f_Ma_addInput S v).1) → True)))
abbrev rm_RM_input : Room := { frames := 1, cells := 0, slots := 0, locals := 21 }
set_option maxHeartbeats 4000000 in
set_option maxRecDepth 100000 in
theorem c_RM_input (l : Launch) (D : va_G) (aC : Nat → ClassId) (ad : Nat → Nat) (n : Nat) (hn : 124 ≤ n) (c0 : Nat → va_E) (S : xS) (v : Int32)  (hp : p_RM_input S v) : px_M l y_RM_input (Cond.code y_RM_input b_RM_input 2 (some .int) :: WS) rm_RM_input GG D CLS (TYS aC) [.ref (ad 0), .int v] ad (xe aC ad S c0) n (some (.int (f_RM_input S v).1)) (xe aC ad (f_RM_input S v).2 c0) := by
  obtain ⟨F, hF⟩ : ∃ F, F = f_RM_input S v := ⟨_, rfl⟩
  rw [← hF]
  unfold f_RM_input at hF
  refine px_start GG_k (by decide) (Nat.le_of_ble_eq_true rfl) ?_
  intro p e s m args below meth cd X hr hk
  refine j_L (L' := [(0, .ref (ad 0)), (1, .int v)]) rfl ?_
  unfold p_RM_input at hp
  refine j_aload_n X d_RM_input_0 0 rfl ?_
  refine j_get X fd_RM_14_RM 0 (by omega) x_RM rfl d_RM_input_1 ?_
  refine j_iload_n X d_RM_input_4 1 rfl ?_
  obtain ⟨o1, hp⟩ := hp
  refine j_callV (st := []) X 1 (by omega) hY_Ma_addInput (c_Ma_addInput l D aC ad n hn c0 S v  o1) mw_203 hI_Ma_addInput hS_Ma_addInput x_Ma rfl rfl rfl (Nat.le_of_ble_eq_true rfl) d_RM_input_5 rfl rfl ⟨by decide, by decide⟩ ⟨Nat.zero_le _, Nat.zero_le _⟩ (j_st (st' := [.int ((f_Ma_addInput S v).1)]) rfl ?_)
  refine x_gen (fun S2 e3 => ?_)
  replace hp := hp S2 e3
  replace hF := hF.trans (px_let_eq e3)
  refine j_topi (fun r4 e5 => ?_)
  replace hp := hp r4 e5
  replace hF := hF.trans (px_let_eq e5)
  exact j_iret X hr hk (by rw [hF]) (by rw [hF]) d_RM_input_8
def f_RM_cell (S : xS) (a : Int32) : Int32 := px_let (f_RM_within a 32) (fun r1 : Int32 => if r1 = 0 then 0 else gR S (4 + 1) a.toNatClampNeg)
def p_RM_cell (S : xS) (a : Int32) : Prop := (∀ r1 : Int32, r1 = (f_RM_within a 32) → (r1 = 0 → True) ∧ (¬ r1 = 0 → (vp_in a 56) ∧ (True)))
abbrev rm_RM_cell : Room := { frames := 1, cells := 0, slots := 0, locals := 21 }
set_option maxHeartbeats 4000000 in
set_option maxRecDepth 100000 in
theorem c_RM_cell (l : Launch) (D : va_G) (aC : Nat → ClassId) (ad : Nat → Nat) (n : Nat) (hn : 124 ≤ n) (c0 : Nat → va_E) (S : xS) (a : Int32)  (hp : p_RM_cell S a) : px_M l y_RM_cell (Cond.code y_RM_cell b_RM_cell 2 (some .int) :: WS) rm_RM_cell GG D CLS (TYS aC) [.ref (ad 0), .int a] ad (xe aC ad S c0) n (some (.int (f_RM_cell S a))) (xe aC ad S c0) := by
  obtain ⟨F, hF⟩ : ∃ F, F = f_RM_cell S a := ⟨_, rfl⟩
  rw [← hF]
  unfold f_RM_cell at hF
  refine px_start GG_k (by decide) (Nat.le_of_ble_eq_true rfl) ?_
  intro p e s m args below meth cd X hr hk
  refine j_L (L' := [(0, .ref (ad 0)), (1, .int a)]) rfl ?_
  unfold p_RM_cell at hp
  refine j_iload_n X d_RM_cell_0 1 rfl ?_
  refine j_bipush X (v := 32) d_RM_cell_1 (by decide) ?_
  refine j_callP (st := []) X hY_RM_within (c_RM_within l a 32 ) mw_342 hT_RM_within rfl rfl (Nat.le_of_ble_eq_true rfl) d_RM_cell_3 rfl rfl ⟨by decide, by decide⟩ ⟨Nat.zero_le _, Nat.zero_le _⟩ (j_st (st' := [.int (f_RM_within a 32)]) rfl ?_)
  refine j_topi (fun r1 e2 => ?_)
  replace hp := hp r1 e2
  replace hF := hF.trans (px_let_eq e2)
  refine j_if_eq X (tgt := 24) d_RM_cell_6 (by decide) (fun h3 => ?_) (fun h3 => ?_)
  · replace hp := hp.1 h3
    replace hF := hF.trans (if_pos h3)
    refine j_iconst X (v := 0) d_RM_cell_24 (by decide) ?_
    exact j_iret X hr hk (by rw [hF]) rfl d_RM_cell_25
  · replace hp := hp.2 h3
    replace hF := hF.trans (if_neg h3)
    refine j_aload_n X d_RM_cell_9 0 rfl ?_
    refine j_get X fd_RM_14_RM 0 (by omega) x_RM rfl d_RM_cell_10 ?_
    refine j_get X fd_RM_79_Ma 1 (by omega) x_Ma rfl d_RM_cell_13 ?_
    refine j_get X fd_RM_129_St 4 (k_lt k_4 hn) (x_St k_4) rfl d_RM_cell_16 ?_
    refine j_iload_n X d_RM_cell_19 1 rfl ?_
    obtain ⟨o4, hp⟩ := hp
    refine j_iald X (4 + 1) 0 (k_lt1 k_4 hn) (x_mem k_4) rfl o4 d_RM_cell_20 ?_
    refine j_goto X (tgt := 25) d_RM_cell_21 (by decide) ?_
    exact j_iret X hr hk (by rw [hF]) rfl d_RM_cell_25
