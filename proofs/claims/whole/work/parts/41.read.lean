def f_St_number (S : xS) (i : Nat) (k : Int32) : Int32 := px_let (f_RM_within k 24) (fun r1 : Int32 => if r1 = 0 then 0 else gR S (i + 1) (32 + k).toNatClampNeg)
def p_St_number (S : xS) (i : Nat) (k : Int32) : Prop := (∀ r1 : Int32, r1 = (f_RM_within k 24) → (r1 = 0 → True) ∧ (¬ r1 = 0 → (vp_in (32 + k) 56) ∧ (True)))
abbrev rm_St_number : Room := { frames := 1, cells := 0, slots := 0, locals := 21 }
set_option maxHeartbeats 4000000 in
set_option maxRecDepth 100000 in
theorem c_St_number (l : Launch) (D : va_G) (aC : Nat → ClassId) (ad : Nat → Nat) (n : Nat) (hn : 124 ≤ n) (c0 : Nat → va_E) (S : xS) (i : Nat) (k : Int32) (hi : kSt i) (hp : p_St_number S i k) : px_M l y_St_number (Cond.code y_St_number b_St_number 2 (some .int) :: WS) rm_St_number GG D CLS (TYS aC) [.ref (ad i), .int k] ad (xe aC ad S c0) n (some (.int (f_St_number S i k))) (xe aC ad S c0) := by
  obtain ⟨F, hF⟩ : ∃ F, F = f_St_number S i k := ⟨_, rfl⟩
  rw [← hF]
  unfold f_St_number at hF
  refine px_start GG_k (by decide) (Nat.le_of_ble_eq_true rfl) ?_
  intro p e s m args below meth cd X hr hk
  refine j_L (L' := [(0, .ref (ad i)), (1, .int k)]) rfl ?_
  unfold p_St_number at hp
  refine j_iload_n X d_St_number_0 1 rfl ?_
  refine j_bipush X (v := 24) d_St_number_1 (by decide) ?_
  refine j_callPN (st := []) X hY_RM_within (c_RM_within l k 24 ) X.2.2.2.2.2.2.2.1 hT_RM_within rfl rfl (Nat.le_of_ble_eq_true rfl) d_St_number_3 rfl rfl ⟨by decide, by decide⟩ ⟨Nat.zero_le _, Nat.zero_le _⟩ (j_st (st' := [.int (f_RM_within k 24)]) rfl ?_)
  refine j_topi (fun r1 e2 => ?_)
  replace hp := hp r1 e2
  replace hF := hF.trans (px_let_eq e2)
  refine j_if_eq X (tgt := 21) d_St_number_6 (by decide) (fun h3 => ?_) (fun h3 => ?_)
  · replace hp := hp.1 h3
    replace hF := hF.trans (if_pos h3)
    refine j_iconst X (v := 0) d_St_number_21 (by decide) ?_
    exact j_iret X hr hk (by rw [hF]) rfl d_St_number_22
  · replace hp := hp.2 h3
    replace hF := hF.trans (if_neg h3)
    refine j_aload_n X d_St_number_9 0 rfl ?_
    refine j_get X fd_St_18_St i (k_lt hi hn) (x_St hi) rfl d_St_number_10 ?_
    refine j_bipush X (v := 32) d_St_number_13 (by decide) ?_
    refine j_iload_n X d_St_number_15 1 rfl ?_
    refine j_iadd X d_St_number_16 ?_
    obtain ⟨o4, hp⟩ := hp
    refine j_iald X (i + 1) 0 (k_lt1 hi hn) (x_mem hi) rfl o4 d_St_number_17 ?_
    refine j_goto X (tgt := 22) d_St_number_18 (by decide) ?_
    exact j_iret X hr hk (by rw [hF]) rfl d_St_number_22
def f_Ma_argumentPlace (S : xS) (k : Int32) : Int32 := ((gI S 4 2) - 3) - k
abbrev rm_Ma_argumentPlace : Room := { frames := 0, cells := 0, slots := 0, locals := 0 }
set_option maxHeartbeats 4000000 in
set_option maxRecDepth 100000 in
theorem c_Ma_argumentPlace (l : Launch) (D : va_G) (aC : Nat → ClassId) (ad : Nat → Nat) (n : Nat) (hn : 124 ≤ n) (c0 : Nat → va_E) (S : xS) (k : Int32)   : px_M l y_Ma_argumentPlace (Cond.code y_Ma_argumentPlace b_Ma_argumentPlace 2 (some .int) :: WS) rm_Ma_argumentPlace GG D CLS (TYS aC) [.ref (ad 1), .int k] ad (xe aC ad S c0) n (some (.int (f_Ma_argumentPlace S k))) (xe aC ad S c0) := by
  obtain ⟨F, hF⟩ : ∃ F, F = f_Ma_argumentPlace S k := ⟨_, rfl⟩
  rw [← hF]
  unfold f_Ma_argumentPlace at hF
  refine px_start GG_k (by decide) (Nat.le_of_ble_eq_true rfl) ?_
  intro p e s m args below meth cd X hr hk
  refine j_L (L' := [(0, .ref (ad 1)), (1, .int k)]) rfl ?_
  refine j_aload_n X d_Ma_argumentPlace_0 0 rfl ?_
  refine j_get X fd_Ma_23_Ma 1 (by omega) x_Ma rfl d_Ma_argumentPlace_1 ?_
  refine j_get X fd_Ma_69_St 4 (k_lt k_4 hn) (x_St k_4) rfl d_Ma_argumentPlace_4 ?_
  refine j_iconst X (v := 3) d_Ma_argumentPlace_7 (by decide) ?_
  refine j_isub X d_Ma_argumentPlace_8 ?_
  refine j_iload_n X d_Ma_argumentPlace_9 1 rfl ?_
  refine j_isub X d_Ma_argumentPlace_10 ?_
  exact j_iret X hr hk (by rw [hF]) rfl d_Ma_argumentPlace_11
def f_Ma_fromTop (S : xS) (k : Int32) : Int32 := px_let (f_St_number S 4 (((gI S 4 5) - 1) - k)) (fun r2 : Int32 => r2)
def p_Ma_fromTop (S : xS) (k : Int32) : Prop := (p_St_number S 4 (((gI S 4 5) - 1) - k)) ∧ ((∀ r2 : Int32, r2 = (f_St_number S 4 (((gI S 4 5) - 1) - k)) → True))
abbrev rm_Ma_fromTop : Room := { frames := 2, cells := 0, slots := 0, locals := 42 }
set_option maxHeartbeats 4000000 in
set_option maxRecDepth 100000 in
theorem c_Ma_fromTop (l : Launch) (D : va_G) (aC : Nat → ClassId) (ad : Nat → Nat) (n : Nat) (hn : 124 ≤ n) (c0 : Nat → va_E) (S : xS) (k : Int32)  (hp : p_Ma_fromTop S k) : px_M l y_Ma_fromTop (Cond.code y_Ma_fromTop b_Ma_fromTop 2 (some .int) :: WS) rm_Ma_fromTop GG D CLS (TYS aC) [.ref (ad 1), .int k] ad (xe aC ad S c0) n (some (.int (f_Ma_fromTop S k))) (xe aC ad S c0) := by
  obtain ⟨F, hF⟩ : ∃ F, F = f_Ma_fromTop S k := ⟨_, rfl⟩
  rw [← hF]
  unfold f_Ma_fromTop at hF
  refine px_start GG_k (by decide) (Nat.le_of_ble_eq_true rfl) ?_
  intro p e s m args below meth cd X hr hk
  refine j_L (L' := [(0, .ref (ad 1)), (1, .int k)]) rfl ?_
  unfold p_Ma_fromTop at hp
  refine j_aload_n X d_Ma_fromTop_0 0 rfl ?_
  refine j_get X fd_Ma_23_Ma 1 (by omega) x_Ma rfl d_Ma_fromTop_1 ?_
  refine j_aload_n X d_Ma_fromTop_4 0 rfl ?_
  refine j_get X fd_Ma_23_Ma 1 (by omega) x_Ma rfl d_Ma_fromTop_5 ?_
  refine j_get X fd_Ma_63_St 4 (k_lt k_4 hn) (x_St k_4) rfl d_Ma_fromTop_8 ?_
  refine j_iconst X (v := 1) d_Ma_fromTop_11 (by decide) ?_
  refine j_isub X d_Ma_fromTop_12 ?_
  refine j_iload_n X d_Ma_fromTop_13 1 rfl ?_
  refine j_isub X d_Ma_fromTop_14 ?_
  obtain ⟨o1, hp⟩ := hp
  refine j_callV (st := []) X 4 (k_lt k_4 hn) hY_St_number (c_St_number l D aC ad n hn c0 S 4 (((gI S 4 5) - 1) - k) k_4 o1) mw_236 hI_St_number hS_St_number (x_St k_4) rfl rfl rfl (Nat.le_of_ble_eq_true rfl) d_Ma_fromTop_15 rfl rfl ⟨by decide, by decide⟩ ⟨Nat.zero_le _, Nat.zero_le _⟩ (j_st (st' := [.int (f_St_number S 4 (((gI S 4 5) - 1) - k))]) rfl ?_)
  refine j_topi (fun r2 e3 => ?_)
  replace hp := hp r2 e3
  replace hF := hF.trans (px_let_eq e3)
  exact j_iret X hr hk (by rw [hF]) rfl d_Ma_fromTop_18
def f_Ma_hasTooFew (S : xS) (o : Int32) (k : Int32) : Int32 := if o = 16 then if (gI S 4 2) < 2 then 1 else if (gI S 4 2) < (gI S 4 5) then 0 else 1 else if o = 17 then px_let (f_Ma_argumentPlace S k) (fun r5 : Int32 => px_let (f_RM_within r5 (gI S 4 5)) (fun r7 : Int32 => if r7 = 0 then 1 else 0)) else if (tNeeds o.toNatClampNeg) ≤ (gI S 4 5) then 0 else 1
def p_Ma_hasTooFew (S : xS) (o : Int32) (k : Int32) : Prop := (o = 16 → ((gI S 4 2) < 2 → True) ∧ (¬ (gI S 4 2) < 2 → ((gI S 4 2) < (gI S 4 5) → True) ∧ (¬ (gI S 4 2) < (gI S 4 5) → True))) ∧ (¬ o = 16 → (o = 17 → (∀ r5 : Int32, r5 = (f_Ma_argumentPlace S k) → (∀ r7 : Int32, r7 = (f_RM_within r5 (gI S 4 5)) → (r7 = 0 → True) ∧ (¬ r7 = 0 → True)))) ∧ (¬ o = 17 → (vp_in o 21) ∧ (((tNeeds o.toNatClampNeg) ≤ (gI S 4 5) → True) ∧ (¬ (tNeeds o.toNatClampNeg) ≤ (gI S 4 5) → True))))
abbrev rm_Ma_hasTooFew : Room := { frames := 1, cells := 0, slots := 0, locals := 21 }
set_option maxHeartbeats 4000000 in
set_option maxRecDepth 100000 in
theorem c_Ma_hasTooFew (l : Launch) (D : va_G) (aC : Nat → ClassId) (ad : Nat → Nat) (n : Nat) (hn : 124 ≤ n) (c0 : Nat → va_E) (S : xS) (o : Int32) (k : Int32)  (hp : p_Ma_hasTooFew S o k) : px_M l y_Ma_hasTooFew (Cond.code y_Ma_hasTooFew b_Ma_hasTooFew 3 (some .boolean) :: WS) rm_Ma_hasTooFew GG D CLS (TYS aC) [.ref (ad 1), .int o, .int k] ad (xe aC ad S c0) n (some (.int (f_Ma_hasTooFew S o k))) (xe aC ad S c0) := by
  obtain ⟨F, hF⟩ : ∃ F, F = f_Ma_hasTooFew S o k := ⟨_, rfl⟩
  rw [← hF]
  unfold f_Ma_hasTooFew at hF
  refine px_start GG_k (by decide) (Nat.le_of_ble_eq_true rfl) ?_
  intro p e s m args below meth cd X hr hk
  obtain ⟨tn, hZn, hTn⟩ := X.2.2.2.2.2.2.2.2.1
  obtain ⟨tg, hZg, hTg⟩ := X.2.2.2.2.2.2.2.2.2.1
  refine j_L (L' := [(0, .ref (ad 1)), (1, .int o), (2, .int k)]) rfl ?_
  unfold p_Ma_hasTooFew at hp
  refine j_iload_n X d_Ma_hasTooFew_0 1 rfl ?_
  refine j_bipush X (v := 16) d_Ma_hasTooFew_1 (by decide) ?_
  refine j_icmp_ne X (tgt := 40) d_Ma_hasTooFew_3 (by decide) (fun h1 => ?_) (fun h1 => ?_)
  · replace hp := hp.2 h1
    replace hF := hF.trans (if_neg h1)
    refine j_iload_n X d_Ma_hasTooFew_40 1 rfl ?_
    refine j_bipush X (v := 17) d_Ma_hasTooFew_41 (by decide) ?_
    refine j_icmp_ne X (tgt := 70) d_Ma_hasTooFew_43 (by decide) (fun h4 => ?_) (fun h4 => ?_)
    · replace hp := hp.2 h4
      replace hF := hF.trans (if_neg h4)
      refine j_aload_n X d_Ma_hasTooFew_70 0 rfl ?_
      refine j_get X fd_Ma_23_Ma 1 (by omega) x_Ma rfl d_Ma_hasTooFew_71 ?_
      refine j_get X fd_Ma_63_St 4 (k_lt k_4 hn) (x_St k_4) rfl d_Ma_hasTooFew_74 ?_
      refine j_gets X hZn mw_230 d_Ma_hasTooFew_77 ?_
      refine j_iload_n X d_Ma_hasTooFew_80 1 rfl ?_
      obtain ⟨o10, hp⟩ := hp
      refine j_ti X hTn o10 d_Ma_hasTooFew_81 ?_
      refine j_icmp_ge X (tgt := 89) d_Ma_hasTooFew_82 (by decide) (fun h11 => ?_) (fun h11 => ?_)
      · replace hp := hp.1 h11
        replace hF := hF.trans (if_pos h11)
        refine j_iconst X (v := 0) d_Ma_hasTooFew_89 (by decide) ?_
        exact j_zret X hr hk rfl (by rw [hF]) rfl d_Ma_hasTooFew_90
      · replace hp := hp.2 h11
        replace hF := hF.trans (if_neg h11)
        refine j_iconst X (v := 1) d_Ma_hasTooFew_85 (by decide) ?_
        refine j_goto X (tgt := 90) d_Ma_hasTooFew_86 (by decide) ?_
        exact j_zret X hr hk rfl (by rw [hF]) rfl d_Ma_hasTooFew_90
    · replace hp := hp.1 h4
      replace hF := hF.trans (if_pos h4)
      refine j_aload_n X d_Ma_hasTooFew_46 0 rfl ?_
      refine j_iload_n X d_Ma_hasTooFew_47 2 rfl ?_
      refine j_callV (st := []) X 1 (by omega) hY_Ma_argumentPlace (c_Ma_argumentPlace l D aC ad n hn c0 S k  ) mw_226 hI_Ma_argumentPlace hS_Ma_argumentPlace x_Ma rfl rfl rfl (Nat.le_of_ble_eq_true rfl) d_Ma_hasTooFew_48 rfl rfl ⟨by decide, by decide⟩ ⟨Nat.zero_le _, Nat.zero_le _⟩ (j_st (st' := [.int (f_Ma_argumentPlace S k)]) rfl ?_)
      refine j_topi (fun r5 e6 => ?_)
      replace hp := hp r5 e6
      replace hF := hF.trans (px_let_eq e6)
      refine j_aload_n X d_Ma_hasTooFew_51 0 rfl ?_
      refine j_get X fd_Ma_23_Ma 1 (by omega) x_Ma rfl d_Ma_hasTooFew_52 ?_
      refine j_get X fd_Ma_63_St 4 (k_lt k_4 hn) (x_St k_4) rfl d_Ma_hasTooFew_55 ?_
      refine j_callPN (st := []) X hY_RM_within (c_RM_within l r5 (gI S 4 5) ) X.2.2.2.2.2.2.1 hT_RM_within rfl rfl (Nat.le_of_ble_eq_true rfl) d_Ma_hasTooFew_58 rfl rfl ⟨by decide, by decide⟩ ⟨Nat.zero_le _, Nat.zero_le _⟩ (j_st (st' := [.int (f_RM_within r5 (gI S 4 5))]) rfl ?_)
      refine j_topi (fun r7 e8 => ?_)
      replace hp := hp r7 e8
      replace hF := hF.trans (px_let_eq e8)
      refine j_if_ne X (tgt := 68) d_Ma_hasTooFew_61 (by decide) (fun h9 => ?_) (fun h9 => ?_)
      · replace hp := hp.2 h9
        replace hF := hF.trans (if_neg h9)
        refine j_iconst X (v := 0) d_Ma_hasTooFew_68 (by decide) ?_
        exact j_zret X hr hk rfl (by rw [hF]) rfl d_Ma_hasTooFew_69
      · replace hp := hp.1 h9
        replace hF := hF.trans (if_pos h9)
        refine j_iconst X (v := 1) d_Ma_hasTooFew_64 (by decide) ?_
        refine j_goto X (tgt := 69) d_Ma_hasTooFew_65 (by decide) ?_
        exact j_zret X hr hk rfl (by rw [hF]) rfl d_Ma_hasTooFew_69
  · replace hp := hp.1 h1
    replace hF := hF.trans (if_pos h1)
    refine j_aload_n X d_Ma_hasTooFew_6 0 rfl ?_
    refine j_get X fd_Ma_23_Ma 1 (by omega) x_Ma rfl d_Ma_hasTooFew_7 ?_
    refine j_get X fd_Ma_69_St 4 (k_lt k_4 hn) (x_St k_4) rfl d_Ma_hasTooFew_10 ?_
    refine j_iconst X (v := 2) d_Ma_hasTooFew_13 (by decide) ?_
    refine j_icmp_lt X (tgt := 34) d_Ma_hasTooFew_14 (by decide) (fun h2 => ?_) (fun h2 => ?_)
    · replace hp := hp.1 h2
      replace hF := hF.trans (if_pos h2)
      refine j_iconst X (v := 1) d_Ma_hasTooFew_34 (by decide) ?_
      refine j_goto X (tgt := 39) d_Ma_hasTooFew_35 (by decide) ?_
      exact j_zret X hr hk rfl (by rw [hF]) rfl d_Ma_hasTooFew_39
    · replace hp := hp.2 h2
      replace hF := hF.trans (if_neg h2)
      refine j_aload_n X d_Ma_hasTooFew_17 0 rfl ?_
      refine j_get X fd_Ma_23_Ma 1 (by omega) x_Ma rfl d_Ma_hasTooFew_18 ?_
      refine j_get X fd_Ma_69_St 4 (k_lt k_4 hn) (x_St k_4) rfl d_Ma_hasTooFew_21 ?_
      refine j_aload_n X d_Ma_hasTooFew_24 0 rfl ?_
      refine j_get X fd_Ma_23_Ma 1 (by omega) x_Ma rfl d_Ma_hasTooFew_25 ?_
      refine j_get X fd_Ma_63_St 4 (k_lt k_4 hn) (x_St k_4) rfl d_Ma_hasTooFew_28 ?_
      refine j_icmp_lt X (tgt := 38) d_Ma_hasTooFew_31 (by decide) (fun h3 => ?_) (fun h3 => ?_)
      · replace hp := hp.1 h3
        replace hF := hF.trans (if_pos h3)
        refine j_iconst X (v := 0) d_Ma_hasTooFew_38 (by decide) ?_
        exact j_zret X hr hk rfl (by rw [hF]) rfl d_Ma_hasTooFew_39
      · replace hp := hp.2 h3
        replace hF := hF.trans (if_neg h3)
        refine j_iconst X (v := 1) d_Ma_hasTooFew_34 (by decide) ?_
        refine j_goto X (tgt := 39) d_Ma_hasTooFew_35 (by decide) ?_
        exact j_zret X hr hk rfl (by rw [hF]) rfl d_Ma_hasTooFew_39
def f_Ma_obstacle (S : xS)  : Int32 := px_let (f_RM_within (gI S 4 1) 64) (fun r1 : Int32 => if r1 = 0 then 4 else if ((gR S 2 (gI S 4 1).toNatClampNeg) &&& 31) ≤ 20 then if ((gR S 2 (gI S 4 1).toNatClampNeg) &&& 31) = 0 then 1 else px_let (f_Ma_hasTooFew S ((gR S 2 (gI S 4 1).toNatClampNeg) &&& 31) ((gR S 2 (gI S 4 1).toNatClampNeg) >>> ((5 : Int32) &&& 31))) (fun r9 : Int32 => if r9 = 0 then if ((gR S 2 (gI S 4 1).toNatClampNeg) &&& 31) = 10 then px_let (f_Ma_fromTop S 0) (fun r14 : Int32 => px_let (f_RM_within r14 32) (fun r16 : Int32 => if r16 = 0 then 4 else if ((gR S 2 (gI S 4 1).toNatClampNeg) &&& 31) = 8 then px_let (f_Ma_fromTop S 0) (fun r21 : Int32 => if r21 = 0 then 6 else if ((gR S 2 (gI S 4 1).toNatClampNeg) &&& 31) = 19 then if 1 ≤ ((gR S 2 (gI S 4 1).toNatClampNeg) >>> ((5 : Int32) &&& 31)) then if ((gR S 2 (gI S 4 1).toNatClampNeg) &&& 31) = 18 then if (gI S 4 4) < (gI S 1 4) then if ((gI S 4 5) + (tGrows ((gR S 2 (gI S 4 1).toNatClampNeg) &&& 31).toNatClampNeg)) ≤ 24 then 0 else 3 else 7 else if ((gI S 4 5) + (tGrows ((gR S 2 (gI S 4 1).toNatClampNeg) &&& 31).toNatClampNeg)) ≤ 24 then 0 else 3 else 6 else if ((gR S 2 (gI S 4 1).toNatClampNeg) &&& 31) = 18 then if (gI S 4 4) < (gI S 1 4) then if ((gI S 4 5) + (tGrows ((gR S 2 (gI S 4 1).toNatClampNeg) &&& 31).toNatClampNeg)) ≤ 24 then 0 else 3 else 7 else if ((gI S 4 5) + (tGrows ((gR S 2 (gI S 4 1).toNatClampNeg) &&& 31).toNatClampNeg)) ≤ 24 then 0 else 3) else if ((gR S 2 (gI S 4 1).toNatClampNeg) &&& 31) = 19 then if 1 ≤ ((gR S 2 (gI S 4 1).toNatClampNeg) >>> ((5 : Int32) &&& 31)) then if ((gR S 2 (gI S 4 1).toNatClampNeg) &&& 31) = 18 then if (gI S 4 4) < (gI S 1 4) then if ((gI S 4 5) + (tGrows ((gR S 2 (gI S 4 1).toNatClampNeg) &&& 31).toNatClampNeg)) ≤ 24 then 0 else 3 else 7 else if ((gI S 4 5) + (tGrows ((gR S 2 (gI S 4 1).toNatClampNeg) &&& 31).toNatClampNeg)) ≤ 24 then 0 else 3 else 6 else if ((gR S 2 (gI S 4 1).toNatClampNeg) &&& 31) = 18 then if (gI S 4 4) < (gI S 1 4) then if ((gI S 4 5) + (tGrows ((gR S 2 (gI S 4 1).toNatClampNeg) &&& 31).toNatClampNeg)) ≤ 24 then 0 else 3 else 7 else if ((gI S 4 5) + (tGrows ((gR S 2 (gI S 4 1).toNatClampNeg) &&& 31).toNatClampNeg)) ≤ 24 then 0 else 3)) else if ((gR S 2 (gI S 4 1).toNatClampNeg) &&& 31) = 11 then px_let (f_Ma_fromTop S 0) (fun r54 : Int32 => px_let (f_RM_within r54 32) (fun r56 : Int32 => if r56 = 0 then 4 else if ((gR S 2 (gI S 4 1).toNatClampNeg) &&& 31) = 8 then px_let (f_Ma_fromTop S 0) (fun r61 : Int32 => if r61 = 0 then 6 else if ((gR S 2 (gI S 4 1).toNatClampNeg) &&& 31) = 19 then if 1 ≤ ((gR S 2 (gI S 4 1).toNatClampNeg) >>> ((5 : Int32) &&& 31)) then if ((gR S 2 (gI S 4 1).toNatClampNeg) &&& 31) = 18 then if (gI S 4 4) < (gI S 1 4) then if ((gI S 4 5) + (tGrows ((gR S 2 (gI S 4 1).toNatClampNeg) &&& 31).toNatClampNeg)) ≤ 24 then 0 else 3 else 7 else if ((gI S 4 5) + (tGrows ((gR S 2 (gI S 4 1).toNatClampNeg) &&& 31).toNatClampNeg)) ≤ 24 then 0 else 3 else 6 else if ((gR S 2 (gI S 4 1).toNatClampNeg) &&& 31) = 18 then if (gI S 4 4) < (gI S 1 4) then if ((gI S 4 5) + (tGrows ((gR S 2 (gI S 4 1).toNatClampNeg) &&& 31).toNatClampNeg)) ≤ 24 then 0 else 3 else 7 else if ((gI S 4 5) + (tGrows ((gR S 2 (gI S 4 1).toNatClampNeg) &&& 31).toNatClampNeg)) ≤ 24 then 0 else 3) else if ((gR S 2 (gI S 4 1).toNatClampNeg) &&& 31) = 19 then if 1 ≤ ((gR S 2 (gI S 4 1).toNatClampNeg) >>> ((5 : Int32) &&& 31)) then if ((gR S 2 (gI S 4 1).toNatClampNeg) &&& 31) = 18 then if (gI S 4 4) < (gI S 1 4) then if ((gI S 4 5) + (tGrows ((gR S 2 (gI S 4 1).toNatClampNeg) &&& 31).toNatClampNeg)) ≤ 24 then 0 else 3 else 7 else if ((gI S 4 5) + (tGrows ((gR S 2 (gI S 4 1).toNatClampNeg) &&& 31).toNatClampNeg)) ≤ 24 then 0 else 3 else 6 else if ((gR S 2 (gI S 4 1).toNatClampNeg) &&& 31) = 18 then if (gI S 4 4) < (gI S 1 4) then if ((gI S 4 5) + (tGrows ((gR S 2 (gI S 4 1).toNatClampNeg) &&& 31).toNatClampNeg)) ≤ 24 then 0 else 3 else 7 else if ((gI S 4 5) + (tGrows ((gR S 2 (gI S 4 1).toNatClampNeg) &&& 31).toNatClampNeg)) ≤ 24 then 0 else 3)) else if ((gR S 2 (gI S 4 1).toNatClampNeg) &&& 31) = 8 then px_let (f_Ma_fromTop S 0) (fun r94 : Int32 => if r94 = 0 then 6 else if ((gR S 2 (gI S 4 1).toNatClampNeg) &&& 31) = 19 then if 1 ≤ ((gR S 2 (gI S 4 1).toNatClampNeg) >>> ((5 : Int32) &&& 31)) then if ((gR S 2 (gI S 4 1).toNatClampNeg) &&& 31) = 18 then if (gI S 4 4) < (gI S 1 4) then if ((gI S 4 5) + (tGrows ((gR S 2 (gI S 4 1).toNatClampNeg) &&& 31).toNatClampNeg)) ≤ 24 then 0 else 3 else 7 else if ((gI S 4 5) + (tGrows ((gR S 2 (gI S 4 1).toNatClampNeg) &&& 31).toNatClampNeg)) ≤ 24 then 0 else 3 else 6 else if ((gR S 2 (gI S 4 1).toNatClampNeg) &&& 31) = 18 then if (gI S 4 4) < (gI S 1 4) then if ((gI S 4 5) + (tGrows ((gR S 2 (gI S 4 1).toNatClampNeg) &&& 31).toNatClampNeg)) ≤ 24 then 0 else 3 else 7 else if ((gI S 4 5) + (tGrows ((gR S 2 (gI S 4 1).toNatClampNeg) &&& 31).toNatClampNeg)) ≤ 24 then 0 else 3) else if ((gR S 2 (gI S 4 1).toNatClampNeg) &&& 31) = 19 then if 1 ≤ ((gR S 2 (gI S 4 1).toNatClampNeg) >>> ((5 : Int32) &&& 31)) then if ((gR S 2 (gI S 4 1).toNatClampNeg) &&& 31) = 18 then if (gI S 4 4) < (gI S 1 4) then if ((gI S 4 5) + (tGrows ((gR S 2 (gI S 4 1).toNatClampNeg) &&& 31).toNatClampNeg)) ≤ 24 then 0 else 3 else 7 else if ((gI S 4 5) + (tGrows ((gR S 2 (gI S 4 1).toNatClampNeg) &&& 31).toNatClampNeg)) ≤ 24 then 0 else 3 else 6 else if ((gR S 2 (gI S 4 1).toNatClampNeg) &&& 31) = 18 then if (gI S 4 4) < (gI S 1 4) then if ((gI S 4 5) + (tGrows ((gR S 2 (gI S 4 1).toNatClampNeg) &&& 31).toNatClampNeg)) ≤ 24 then 0 else 3 else 7 else if ((gI S 4 5) + (tGrows ((gR S 2 (gI S 4 1).toNatClampNeg) &&& 31).toNatClampNeg)) ≤ 24 then 0 else 3 else 2) else 5)
def p_Ma_obstacle (S : xS)  : Prop := (∀ r1 : Int32, r1 = (f_RM_within (gI S 4 1) 64) → (r1 = 0 → True) ∧ (¬ r1 = 0 → (vp_in (gI S 4 1) 64) ∧ ((vp_in (gI S 4 1) 64) ∧ ((((gR S 2 (gI S 4 1).toNatClampNeg) &&& 31) ≤ 20 → (((gR S 2 (gI S 4 1).toNatClampNeg) &&& 31) = 0 → True) ∧ (¬ ((gR S 2 (gI S 4 1).toNatClampNeg) &&& 31) = 0 → (p_Ma_hasTooFew S ((gR S 2 (gI S 4 1).toNatClampNeg) &&& 31) ((gR S 2 (gI S 4 1).toNatClampNeg) >>> ((5 : Int32) &&& 31))) ∧ ((∀ r9 : Int32, r9 = (f_Ma_hasTooFew S ((gR S 2 (gI S 4 1).toNatClampNeg) &&& 31) ((gR S 2 (gI S 4 1).toNatClampNeg) >>> ((5 : Int32) &&& 31))) → (r9 = 0 → (((gR S 2 (gI S 4 1).toNatClampNeg) &&& 31) = 10 → (p_Ma_fromTop S 0) ∧ ((∀ r14 : Int32, r14 = (f_Ma_fromTop S 0) → (∀ r16 : Int32, r16 = (f_RM_within r14 32) → (r16 = 0 → True) ∧ (¬ r16 = 0 → (((gR S 2 (gI S 4 1).toNatClampNeg) &&& 31) = 8 → (p_Ma_fromTop S 0) ∧ ((∀ r21 : Int32, r21 = (f_Ma_fromTop S 0) → (r21 = 0 → True) ∧ (¬ r21 = 0 → (((gR S 2 (gI S 4 1).toNatClampNeg) &&& 31) = 19 → (1 ≤ ((gR S 2 (gI S 4 1).toNatClampNeg) >>> ((5 : Int32) &&& 31)) → (((gR S 2 (gI S 4 1).toNatClampNeg) &&& 31) = 18 → ((gI S 4 4) < (gI S 1 4) → (vp_in ((gR S 2 (gI S 4 1).toNatClampNeg) &&& 31) 21) ∧ ((((gI S 4 5) + (tGrows ((gR S 2 (gI S 4 1).toNatClampNeg) &&& 31).toNatClampNeg)) ≤ 24 → True) ∧ (¬ ((gI S 4 5) + (tGrows ((gR S 2 (gI S 4 1).toNatClampNeg) &&& 31).toNatClampNeg)) ≤ 24 → True))) ∧ (¬ (gI S 4 4) < (gI S 1 4) → True)) ∧ (¬ ((gR S 2 (gI S 4 1).toNatClampNeg) &&& 31) = 18 → (vp_in ((gR S 2 (gI S 4 1).toNatClampNeg) &&& 31) 21) ∧ ((((gI S 4 5) + (tGrows ((gR S 2 (gI S 4 1).toNatClampNeg) &&& 31).toNatClampNeg)) ≤ 24 → True) ∧ (¬ ((gI S 4 5) + (tGrows ((gR S 2 (gI S 4 1).toNatClampNeg) &&& 31).toNatClampNeg)) ≤ 24 → True)))) ∧ (¬ 1 ≤ ((gR S 2 (gI S 4 1).toNatClampNeg) >>> ((5 : Int32) &&& 31)) → True)) ∧ (¬ ((gR S 2 (gI S 4 1).toNatClampNeg) &&& 31) = 19 → (((gR S 2 (gI S 4 1).toNatClampNeg) &&& 31) = 18 → ((gI S 4 4) < (gI S 1 4) → (vp_in ((gR S 2 (gI S 4 1).toNatClampNeg) &&& 31) 21) ∧ ((((gI S 4 5) + (tGrows ((gR S 2 (gI S 4 1).toNatClampNeg) &&& 31).toNatClampNeg)) ≤ 24 → True) ∧ (¬ ((gI S 4 5) + (tGrows ((gR S 2 (gI S 4 1).toNatClampNeg) &&& 31).toNatClampNeg)) ≤ 24 → True))) ∧ (¬ (gI S 4 4) < (gI S 1 4) → True)) ∧ (¬ ((gR S 2 (gI S 4 1).toNatClampNeg) &&& 31) = 18 → (vp_in ((gR S 2 (gI S 4 1).toNatClampNeg) &&& 31) 21) ∧ ((((gI S 4 5) + (tGrows ((gR S 2 (gI S 4 1).toNatClampNeg) &&& 31).toNatClampNeg)) ≤ 24 → True) ∧ (¬ ((gI S 4 5) + (tGrows ((gR S 2 (gI S 4 1).toNatClampNeg) &&& 31).toNatClampNeg)) ≤ 24 → True)))))))) ∧ (¬ ((gR S 2 (gI S 4 1).toNatClampNeg) &&& 31) = 8 → (((gR S 2 (gI S 4 1).toNatClampNeg) &&& 31) = 19 → (1 ≤ ((gR S 2 (gI S 4 1).toNatClampNeg) >>> ((5 : Int32) &&& 31)) → (((gR S 2 (gI S 4 1).toNatClampNeg) &&& 31) = 18 → ((gI S 4 4) < (gI S 1 4) → (vp_in ((gR S 2 (gI S 4 1).toNatClampNeg) &&& 31) 21) ∧ ((((gI S 4 5) + (tGrows ((gR S 2 (gI S 4 1).toNatClampNeg) &&& 31).toNatClampNeg)) ≤ 24 → True) ∧ (¬ ((gI S 4 5) + (tGrows ((gR S 2 (gI S 4 1).toNatClampNeg) &&& 31).toNatClampNeg)) ≤ 24 → True))) ∧ (¬ (gI S 4 4) < (gI S 1 4) → True)) ∧ (¬ ((gR S 2 (gI S 4 1).toNatClampNeg) &&& 31) = 18 → (vp_in ((gR S 2 (gI S 4 1).toNatClampNeg) &&& 31) 21) ∧ ((((gI S 4 5) + (tGrows ((gR S 2 (gI S 4 1).toNatClampNeg) &&& 31).toNatClampNeg)) ≤ 24 → True) ∧ (¬ ((gI S 4 5) + (tGrows ((gR S 2 (gI S 4 1).toNatClampNeg) &&& 31).toNatClampNeg)) ≤ 24 → True)))) ∧ (¬ 1 ≤ ((gR S 2 (gI S 4 1).toNatClampNeg) >>> ((5 : Int32) &&& 31)) → True)) ∧ (¬ ((gR S 2 (gI S 4 1).toNatClampNeg) &&& 31) = 19 → (((gR S 2 (gI S 4 1).toNatClampNeg) &&& 31) = 18 → ((gI S 4 4) < (gI S 1 4) → (vp_in ((gR S 2 (gI S 4 1).toNatClampNeg) &&& 31) 21) ∧ ((((gI S 4 5) + (tGrows ((gR S 2 (gI S 4 1).toNatClampNeg) &&& 31).toNatClampNeg)) ≤ 24 → True) ∧ (¬ ((gI S 4 5) + (tGrows ((gR S 2 (gI S 4 1).toNatClampNeg) &&& 31).toNatClampNeg)) ≤ 24 → True))) ∧ (¬ (gI S 4 4) < (gI S 1 4) → True)) ∧ (¬ ((gR S 2 (gI S 4 1).toNatClampNeg) &&& 31) = 18 → (vp_in ((gR S 2 (gI S 4 1).toNatClampNeg) &&& 31) 21) ∧ ((((gI S 4 5) + (tGrows ((gR S 2 (gI S 4 1).toNatClampNeg) &&& 31).toNatClampNeg)) ≤ 24 → True) ∧ (¬ ((gI S 4 5) + (tGrows ((gR S 2 (gI S 4 1).toNatClampNeg) &&& 31).toNatClampNeg)) ≤ 24 → True)))))))))) ∧ (¬ ((gR S 2 (gI S 4 1).toNatClampNeg) &&& 31) = 10 → (((gR S 2 (gI S 4 1).toNatClampNeg) &&& 31) = 11 → (p_Ma_fromTop S 0) ∧ ((∀ r54 : Int32, r54 = (f_Ma_fromTop S 0) → (∀ r56 : Int32, r56 = (f_RM_within r54 32) → (r56 = 0 → True) ∧ (¬ r56 = 0 → (((gR S 2 (gI S 4 1).toNatClampNeg) &&& 31) = 8 → (p_Ma_fromTop S 0) ∧ ((∀ r61 : Int32, r61 = (f_Ma_fromTop S 0) → (r61 = 0 → True) ∧ (¬ r61 = 0 → (((gR S 2 (gI S 4 1).toNatClampNeg) &&& 31) = 19 → (1 ≤ ((gR S 2 (gI S 4 1).toNatClampNeg) >>> ((5 : Int32) &&& 31)) → (((gR S 2 (gI S 4 1).toNatClampNeg) &&& 31) = 18 → ((gI S 4 4) < (gI S 1 4) → (vp_in ((gR S 2 (gI S 4 1).toNatClampNeg) &&& 31) 21) ∧ ((((gI S 4 5) + (tGrows ((gR S 2 (gI S 4 1).toNatClampNeg) &&& 31).toNatClampNeg)) ≤ 24 → True) ∧ (¬ ((gI S 4 5) + (tGrows ((gR S 2 (gI S 4 1).toNatClampNeg) &&& 31).toNatClampNeg)) ≤ 24 → True))) ∧ (¬ (gI S 4 4) < (gI S 1 4) → True)) ∧ (¬ ((gR S 2 (gI S 4 1).toNatClampNeg) &&& 31) = 18 → (vp_in ((gR S 2 (gI S 4 1).toNatClampNeg) &&& 31) 21) ∧ ((((gI S 4 5) + (tGrows ((gR S 2 (gI S 4 1).toNatClampNeg) &&& 31).toNatClampNeg)) ≤ 24 → True) ∧ (¬ ((gI S 4 5) + (tGrows ((gR S 2 (gI S 4 1).toNatClampNeg) &&& 31).toNatClampNeg)) ≤ 24 → True)))) ∧ (¬ 1 ≤ ((gR S 2 (gI S 4 1).toNatClampNeg) >>> ((5 : Int32) &&& 31)) → True)) ∧ (¬ ((gR S 2 (gI S 4 1).toNatClampNeg) &&& 31) = 19 → (((gR S 2 (gI S 4 1).toNatClampNeg) &&& 31) = 18 → ((gI S 4 4) < (gI S 1 4) → (vp_in ((gR S 2 (gI S 4 1).toNatClampNeg) &&& 31) 21) ∧ ((((gI S 4 5) + (tGrows ((gR S 2 (gI S 4 1).toNatClampNeg) &&& 31).toNatClampNeg)) ≤ 24 → True) ∧ (¬ ((gI S 4 5) + (tGrows ((gR S 2 (gI S 4 1).toNatClampNeg) &&& 31).toNatClampNeg)) ≤ 24 → True))) ∧ (¬ (gI S 4 4) < (gI S 1 4) → True)) ∧ (¬ ((gR S 2 (gI S 4 1).toNatClampNeg) &&& 31) = 18 → (vp_in ((gR S 2 (gI S 4 1).toNatClampNeg) &&& 31) 21) ∧ ((((gI S 4 5) + (tGrows ((gR S 2 (gI S 4 1).toNatClampNeg) &&& 31).toNatClampNeg)) ≤ 24 → True) ∧ (¬ ((gI S 4 5) + (tGrows ((gR S 2 (gI S 4 1).toNatClampNeg) &&& 31).toNatClampNeg)) ≤ 24 → True)))))))) ∧ (¬ ((gR S 2 (gI S 4 1).toNatClampNeg) &&& 31) = 8 → (((gR S 2 (gI S 4 1).toNatClampNeg) &&& 31) = 19 → (1 ≤ ((gR S 2 (gI S 4 1).toNatClampNeg) >>> ((5 : Int32) &&& 31)) → (((gR S 2 (gI S 4 1).toNatClampNeg) &&& 31) = 18 → ((gI S 4 4) < (gI S 1 4) → (vp_in ((gR S 2 (gI S 4 1).toNatClampNeg) &&& 31) 21) ∧ ((((gI S 4 5) + (tGrows ((gR S 2 (gI S 4 1).toNatClampNeg) &&& 31).toNatClampNeg)) ≤ 24 → True) ∧ (¬ ((gI S 4 5) + (tGrows ((gR S 2 (gI S 4 1).toNatClampNeg) &&& 31).toNatClampNeg)) ≤ 24 → True))) ∧ (¬ (gI S 4 4) < (gI S 1 4) → True)) ∧ (¬ ((gR S 2 (gI S 4 1).toNatClampNeg) &&& 31) = 18 → (vp_in ((gR S 2 (gI S 4 1).toNatClampNeg) &&& 31) 21) ∧ ((((gI S 4 5) + (tGrows ((gR S 2 (gI S 4 1).toNatClampNeg) &&& 31).toNatClampNeg)) ≤ 24 → True) ∧ (¬ ((gI S 4 5) + (tGrows ((gR S 2 (gI S 4 1).toNatClampNeg) &&& 31).toNatClampNeg)) ≤ 24 → True)))) ∧ (¬ 1 ≤ ((gR S 2 (gI S 4 1).toNatClampNeg) >>> ((5 : Int32) &&& 31)) → True)) ∧ (¬ ((gR S 2 (gI S 4 1).toNatClampNeg) &&& 31) = 19 → (((gR S 2 (gI S 4 1).toNatClampNeg) &&& 31) = 18 → ((gI S 4 4) < (gI S 1 4) → (vp_in ((gR S 2 (gI S 4 1).toNatClampNeg) &&& 31) 21) ∧ ((((gI S 4 5) + (tGrows ((gR S 2 (gI S 4 1).toNatClampNeg) &&& 31).toNatClampNeg)) ≤ 24 → True) ∧ (¬ ((gI S 4 5) + (tGrows ((gR S 2 (gI S 4 1).toNatClampNeg) &&& 31).toNatClampNeg)) ≤ 24 → True))) ∧ (¬ (gI S 4 4) < (gI S 1 4) → True)) ∧ (¬ ((gR S 2 (gI S 4 1).toNatClampNeg) &&& 31) = 18 → (vp_in ((gR S 2 (gI S 4 1).toNatClampNeg) &&& 31) 21) ∧ ((((gI S 4 5) + (tGrows ((gR S 2 (gI S 4 1).toNatClampNeg) &&& 31).toNatClampNeg)) ≤ 24 → True) ∧ (¬ ((gI S 4 5) + (tGrows ((gR S 2 (gI S 4 1).toNatClampNeg) &&& 31).toNatClampNeg)) ≤ 24 → True)))))))))) ∧ (¬ ((gR S 2 (gI S 4 1).toNatClampNeg) &&& 31) = 11 → (((gR S 2 (gI S 4 1).toNatClampNeg) &&& 31) = 8 → (p_Ma_fromTop S 0) ∧ ((∀ r94 : Int32, r94 = (f_Ma_fromTop S 0) → (r94 = 0 → True) ∧ (¬ r94 = 0 → (((gR S 2 (gI S 4 1).toNatClampNeg) &&& 31) = 19 → (1 ≤ ((gR S 2 (gI S 4 1).toNatClampNeg) >>> ((5 : Int32) &&& 31)) → (((gR S 2 (gI S 4 1).toNatClampNeg) &&& 31) = 18 → ((gI S 4 4) < (gI S 1 4) → (vp_in ((gR S 2 (gI S 4 1).toNatClampNeg) &&& 31) 21) ∧ ((((gI S 4 5) + (tGrows ((gR S 2 (gI S 4 1).toNatClampNeg) &&& 31).toNatClampNeg)) ≤ 24 → True) ∧ (¬ ((gI S 4 5) + (tGrows ((gR S 2 (gI S 4 1).toNatClampNeg) &&& 31).toNatClampNeg)) ≤ 24 → True))) ∧ (¬ (gI S 4 4) < (gI S 1 4) → True)) ∧ (¬ ((gR S 2 (gI S 4 1).toNatClampNeg) &&& 31) = 18 → (vp_in ((gR S 2 (gI S 4 1).toNatClampNeg) &&& 31) 21) ∧ ((((gI S 4 5) + (tGrows ((gR S 2 (gI S 4 1).toNatClampNeg) &&& 31).toNatClampNeg)) ≤ 24 → True) ∧ (¬ ((gI S 4 5) + (tGrows ((gR S 2 (gI S 4 1).toNatClampNeg) &&& 31).toNatClampNeg)) ≤ 24 → True)))) ∧ (¬ 1 ≤ ((gR S 2 (gI S 4 1).toNatClampNeg) >>> ((5 : Int32) &&& 31)) → True)) ∧ (¬ ((gR S 2 (gI S 4 1).toNatClampNeg) &&& 31) = 19 → (((gR S 2 (gI S 4 1).toNatClampNeg) &&& 31) = 18 → ((gI S 4 4) < (gI S 1 4) → (vp_in ((gR S 2 (gI S 4 1).toNatClampNeg) &&& 31) 21) ∧ ((((gI S 4 5) + (tGrows ((gR S 2 (gI S 4 1).toNatClampNeg) &&& 31).toNatClampNeg)) ≤ 24 → True) ∧ (¬ ((gI S 4 5) + (tGrows ((gR S 2 (gI S 4 1).toNatClampNeg) &&& 31).toNatClampNeg)) ≤ 24 → True))) ∧ (¬ (gI S 4 4) < (gI S 1 4) → True)) ∧ (¬ ((gR S 2 (gI S 4 1).toNatClampNeg) &&& 31) = 18 → (vp_in ((gR S 2 (gI S 4 1).toNatClampNeg) &&& 31) 21) ∧ ((((gI S 4 5) + (tGrows ((gR S 2 (gI S 4 1).toNatClampNeg) &&& 31).toNatClampNeg)) ≤ 24 → True) ∧ (¬ ((gI S 4 5) + (tGrows ((gR S 2 (gI S 4 1).toNatClampNeg) &&& 31).toNatClampNeg)) ≤ 24 → True)))))))) ∧ (¬ ((gR S 2 (gI S 4 1).toNatClampNeg) &&& 31) = 8 → (((gR S 2 (gI S 4 1).toNatClampNeg) &&& 31) = 19 → (1 ≤ ((gR S 2 (gI S 4 1).toNatClampNeg) >>> ((5 : Int32) &&& 31)) → (((gR S 2 (gI S 4 1).toNatClampNeg) &&& 31) = 18 → ((gI S 4 4) < (gI S 1 4) → (vp_in ((gR S 2 (gI S 4 1).toNatClampNeg) &&& 31) 21) ∧ ((((gI S 4 5) + (tGrows ((gR S 2 (gI S 4 1).toNatClampNeg) &&& 31).toNatClampNeg)) ≤ 24 → True) ∧ (¬ ((gI S 4 5) + (tGrows ((gR S 2 (gI S 4 1).toNatClampNeg) &&& 31).toNatClampNeg)) ≤ 24 → True))) ∧ (¬ (gI S 4 4) < (gI S 1 4) → True)) ∧ (¬ ((gR S 2 (gI S 4 1).toNatClampNeg) &&& 31) = 18 → (vp_in ((gR S 2 (gI S 4 1).toNatClampNeg) &&& 31) 21) ∧ ((((gI S 4 5) + (tGrows ((gR S 2 (gI S 4 1).toNatClampNeg) &&& 31).toNatClampNeg)) ≤ 24 → True) ∧ (¬ ((gI S 4 5) + (tGrows ((gR S 2 (gI S 4 1).toNatClampNeg) &&& 31).toNatClampNeg)) ≤ 24 → True)))) ∧ (¬ 1 ≤ ((gR S 2 (gI S 4 1).toNatClampNeg) >>> ((5 : Int32) &&& 31)) → True)) ∧ (¬ ((gR S 2 (gI S 4 1).toNatClampNeg) &&& 31) = 19 → (((gR S 2 (gI S 4 1).toNatClampNeg) &&& 31) = 18 → ((gI S 4 4) < (gI S 1 4) → (vp_in ((gR S 2 (gI S 4 1).toNatClampNeg) &&& 31) 21) ∧ ((((gI S 4 5) + (tGrows ((gR S 2 (gI S 4 1).toNatClampNeg) &&& 31).toNatClampNeg)) ≤ 24 → True) ∧ (¬ ((gI S 4 5) + (tGrows ((gR S 2 (gI S 4 1).toNatClampNeg) &&& 31).toNatClampNeg)) ≤ 24 → True))) ∧ (¬ (gI S 4 4) < (gI S 1 4) → True)) ∧ (¬ ((gR S 2 (gI S 4 1).toNatClampNeg) &&& 31) = 18 → (vp_in ((gR S 2 (gI S 4 1).toNatClampNeg) &&& 31) 21) ∧ ((((gI S 4 5) + (tGrows ((gR S 2 (gI S 4 1).toNatClampNeg) &&& 31).toNatClampNeg)) ≤ 24 → True) ∧ (¬ ((gI S 4 5) + (tGrows ((gR S 2 (gI S 4 1).toNatClampNeg) &&& 31).toNatClampNeg)) ≤ 24 → True)))))))) ∧ (¬ r9 = 0 → True))))) ∧ (¬ ((gR S 2 (gI S 4 1).toNatClampNeg) &&& 31) ≤ 20 → True)))))
abbrev rm_Ma_obstacle : Room := { frames := 3, cells := 0, slots := 0, locals := 63 }
set_option maxHeartbeats 4000000 in
set_option maxRecDepth 100000 in
theorem c_Ma_obstacle (l : Launch) (D : va_G) (aC : Nat → ClassId) (ad : Nat → Nat) (n : Nat) (hn : 124 ≤ n) (c0 : Nat → va_E) (S : xS)   (hp : p_Ma_obstacle S ) : px_M l y_Ma_obstacle (Cond.code y_Ma_obstacle b_Ma_obstacle 3 (some .int) :: WS) rm_Ma_obstacle GG D CLS (TYS aC) [.ref (ad 1)] ad (xe aC ad S c0) n (some (.int (f_Ma_obstacle S))) (xe aC ad S c0) := by
  obtain ⟨F, hF⟩ : ∃ F, F = f_Ma_obstacle S := ⟨_, rfl⟩
  rw [← hF]
  unfold f_Ma_obstacle at hF
  refine px_start GG_k (by decide) (Nat.le_of_ble_eq_true rfl) ?_
  intro p e s m args below meth cd X hr hk
  obtain ⟨tn, hZn, hTn⟩ := X.2.2.2.2.2.2.2.2.1
  obtain ⟨tg, hZg, hTg⟩ := X.2.2.2.2.2.2.2.2.2.1
  refine j_L (L' := [(0, .ref (ad 1))]) rfl ?_
  unfold p_Ma_obstacle at hp
  refine j_aload_n X d_Ma_obstacle_0 0 rfl ?_
  refine j_get X fd_Ma_23_Ma 1 (by omega) x_Ma rfl d_Ma_obstacle_1 ?_
  refine j_get X fd_Ma_46_St 4 (k_lt k_4 hn) (x_St k_4) rfl d_Ma_obstacle_4 ?_
  refine j_bipush X (v := 64) d_Ma_obstacle_7 (by decide) ?_
  refine j_callPN (st := []) X hY_RM_within (c_RM_within l (gI S 4 1) 64 ) X.2.2.2.2.2.2.1 hT_RM_within rfl rfl (Nat.le_of_ble_eq_true rfl) d_Ma_obstacle_9 rfl rfl ⟨by decide, by decide⟩ ⟨Nat.zero_le _, Nat.zero_le _⟩ (j_st (st' := [.int (f_RM_within (gI S 4 1) 64)]) rfl ?_)
  refine j_topi (fun r1 e2 => ?_)
  replace hp := hp r1 e2
  replace hF := hF.trans (px_let_eq e2)
  refine j_if_ne X (tgt := 17) d_Ma_obstacle_12 (by decide) (fun h3 => ?_) (fun h3 => ?_)
  · replace hp := hp.2 h3
    replace hF := hF.trans (if_neg h3)
    refine j_aload_n X d_Ma_obstacle_17 0 rfl ?_
    refine j_get X fd_Ma_9_Ma 1 (by omega) x_Ma rfl d_Ma_obstacle_18 ?_
    refine j_aload_n X d_Ma_obstacle_21 0 rfl ?_
    refine j_get X fd_Ma_23_Ma 1 (by omega) x_Ma rfl d_Ma_obstacle_22 ?_
    refine j_get X fd_Ma_46_St 4 (k_lt k_4 hn) (x_St k_4) rfl d_Ma_obstacle_25 ?_
    obtain ⟨o4, hp⟩ := hp
    refine j_iald X 2 0 (by omega) x_code rfl o4 d_Ma_obstacle_28 ?_
    refine j_bipush X (v := 31) d_Ma_obstacle_29 (by decide) ?_
    refine j_iand X d_Ma_obstacle_31 ?_
    refine j_istore_n X d_Ma_obstacle_32 [(1, .int ((gR S 2 (gI S 4 1).toNatClampNeg) &&& 31)), (0, .ref (ad 1))] (by decide) rfl ?_
    refine j_aload_n X d_Ma_obstacle_33 1 rfl ?_
    refine j_get X fd_Ma_9_Ma 1 (by omega) x_Ma rfl d_Ma_obstacle_34 ?_
    refine j_aload_n X d_Ma_obstacle_37 1 rfl ?_
    refine j_get X fd_Ma_23_Ma 1 (by omega) x_Ma rfl d_Ma_obstacle_38 ?_
    refine j_get X fd_Ma_46_St 4 (k_lt k_4 hn) (x_St k_4) rfl d_Ma_obstacle_41 ?_
    obtain ⟨o5, hp⟩ := hp
    refine j_iald X 2 0 (by omega) x_code rfl o5 d_Ma_obstacle_44 ?_
    refine j_iconst X (v := 5) d_Ma_obstacle_45 (by decide) ?_
    refine j_ishr X d_Ma_obstacle_46 ?_
    refine j_istore_n X d_Ma_obstacle_47 [(2, .int ((gR S 2 (gI S 4 1).toNatClampNeg) >>> ((5 : Int32) &&& 31))), (1, .int ((gR S 2 (gI S 4 1).toNatClampNeg) &&& 31)), (0, .ref (ad 1))] (by decide) rfl ?_
    refine j_iload_n X d_Ma_obstacle_48 1 rfl ?_
    refine j_bipush X (v := 20) d_Ma_obstacle_49 (by decide) ?_
    refine j_icmp_le X (tgt := 56) d_Ma_obstacle_51 (by decide) (fun h6 => ?_) (fun h6 => ?_)
    · replace hp := hp.1 h6
      replace hF := hF.trans (if_pos h6)
      refine j_iload_n X d_Ma_obstacle_56 1 rfl ?_
      refine j_if_ne X (tgt := 62) d_Ma_obstacle_57 (by decide) (fun h7 => ?_) (fun h7 => ?_)
      · replace hp := hp.2 h7
        replace hF := hF.trans (if_neg h7)
        refine j_aload_n X d_Ma_obstacle_62 2 rfl ?_
        refine j_iload_n X d_Ma_obstacle_63 1 rfl ?_
        refine j_iload_n X d_Ma_obstacle_64 0 rfl ?_
        obtain ⟨o8, hp⟩ := hp
        refine j_callV (st := []) X 1 (by omega) hY_Ma_hasTooFew (c_Ma_hasTooFew l D aC ad n hn c0 S ((gR S 2 (gI S 4 1).toNatClampNeg) &&& 31) ((gR S 2 (gI S 4 1).toNatClampNeg) >>> ((5 : Int32) &&& 31))  o8) mw_222 hI_Ma_hasTooFew hS_Ma_hasTooFew x_Ma rfl rfl rfl (Nat.le_of_ble_eq_true rfl) d_Ma_obstacle_65 rfl rfl ⟨by decide, by decide⟩ ⟨Nat.zero_le _, Nat.zero_le _⟩ (j_st (st' := [.int (f_Ma_hasTooFew S ((gR S 2 (gI S 4 1).toNatClampNeg) &&& 31) ((gR S 2 (gI S 4 1).toNatClampNeg) >>> ((5 : Int32) &&& 31)))]) rfl ?_)
        refine j_topi (fun r9 e10 => ?_)
        replace hp := hp r9 e10
        replace hF := hF.trans (px_let_eq e10)
        refine j_if_eq X (tgt := 73) d_Ma_obstacle_68 (by decide) (fun h11 => ?_) (fun h11 => ?_)
        · replace hp := hp.1 h11
          replace hF := hF.trans (if_pos h11)
          refine j_iload_n X d_Ma_obstacle_73 1 rfl ?_
          refine j_bipush X (v := 10) d_Ma_obstacle_74 (by decide) ?_
          refine j_icmp_eq X (tgt := 85) d_Ma_obstacle_76 (by decide) (fun h12 => ?_) (fun h12 => ?_)
          · replace hp := hp.1 h12
            replace hF := hF.trans (if_pos h12)
            refine j_aload_n X d_Ma_obstacle_85 2 rfl ?_
            refine j_iconst X (v := 0) d_Ma_obstacle_86 (by decide) ?_
            obtain ⟨o13, hp⟩ := hp
            refine j_callV (st := []) X 1 (by omega) hY_Ma_fromTop (c_Ma_fromTop l D aC ad n hn c0 S 0  o13) mw_232 hI_Ma_fromTop hS_Ma_fromTop x_Ma rfl rfl rfl (Nat.le_of_ble_eq_true rfl) d_Ma_obstacle_87 rfl rfl ⟨by decide, by decide⟩ ⟨Nat.zero_le _, Nat.zero_le _⟩ (j_st (st' := [.int (f_Ma_fromTop S 0)]) rfl ?_)
            refine j_topi (fun r14 e15 => ?_)
            replace hp := hp r14 e15
            replace hF := hF.trans (px_let_eq e15)
            refine j_bipush X (v := 32) d_Ma_obstacle_90 (by decide) ?_
            refine j_callPN (st := []) X hY_RM_within (c_RM_within l r14 32 ) X.2.2.2.2.2.2.1 hT_RM_within rfl rfl (Nat.le_of_ble_eq_true rfl) d_Ma_obstacle_92 rfl rfl ⟨by decide, by decide⟩ ⟨Nat.zero_le _, Nat.zero_le _⟩ (j_st (st' := [.int (f_RM_within r14 32)]) rfl ?_)
            refine j_topi (fun r16 e17 => ?_)
            replace hp := hp r16 e17
            replace hF := hF.trans (px_let_eq e17)
            refine j_if_ne X (tgt := 100) d_Ma_obstacle_95 (by decide) (fun h18 => ?_) (fun h18 => ?_)
            · replace hp := hp.2 h18
              replace hF := hF.trans (if_neg h18)
              refine j_iload_n X d_Ma_obstacle_100 1 rfl ?_
              refine j_bipush X (v := 8) d_Ma_obstacle_101 (by decide) ?_
              refine j_icmp_ne X (tgt := 114) d_Ma_obstacle_103 (by decide) (fun h19 => ?_) (fun h19 => ?_)
              · replace hp := hp.2 h19
                replace hF := hF.trans (if_neg h19)
                refine j_iload_n X d_Ma_obstacle_114 1 rfl ?_
                refine j_bipush X (v := 19) d_Ma_obstacle_115 (by decide) ?_
                refine j_icmp_ne X (tgt := 128) d_Ma_obstacle_117 (by decide) (fun h38 => ?_) (fun h38 => ?_)
                · replace hp := hp.2 h38
                  replace hF := hF.trans (if_neg h38)
                  refine j_iload_n X d_Ma_obstacle_128 1 rfl ?_
                  refine j_bipush X (v := 18) d_Ma_obstacle_129 (by decide) ?_
                  refine j_icmp_ne X (tgt := 151) d_Ma_obstacle_131 (by decide) (fun h46 => ?_) (fun h46 => ?_)
                  · replace hp := hp.2 h46
                    replace hF := hF.trans (if_neg h46)
                    refine j_aload_n X d_Ma_obstacle_151 2 rfl ?_
                    refine j_get X fd_Ma_23_Ma 1 (by omega) x_Ma rfl d_Ma_obstacle_152 ?_
                    refine j_get X fd_Ma_63_St 4 (k_lt k_4 hn) (x_St k_4) rfl d_Ma_obstacle_155 ?_
                    refine j_gets X hZg mw_241 d_Ma_obstacle_158 ?_
                    refine j_iload_n X d_Ma_obstacle_161 1 rfl ?_
                    obtain ⟨o50, hp⟩ := hp
                    refine j_ti X hTg o50 d_Ma_obstacle_162 ?_
                    refine j_iadd X d_Ma_obstacle_163 ?_
                    refine j_bipush X (v := 24) d_Ma_obstacle_164 (by decide) ?_
                    refine j_icmp_le X (tgt := 173) d_Ma_obstacle_166 (by decide) (fun h51 => ?_) (fun h51 => ?_)
                    · replace hp := hp.1 h51
                      replace hF := hF.trans (if_pos h51)
                      refine j_iconst X (v := 0) d_Ma_obstacle_173 (by decide) ?_
                      exact j_iret X hr hk (by rw [hF]) rfl d_Ma_obstacle_174
                    · replace hp := hp.2 h51
                      replace hF := hF.trans (if_neg h51)
                      refine j_iconst X (v := 3) d_Ma_obstacle_169 (by decide) ?_
                      refine j_goto X (tgt := 174) d_Ma_obstacle_170 (by decide) ?_
                      exact j_iret X hr hk (by rw [hF]) rfl d_Ma_obstacle_174
                  · replace hp := hp.1 h46
                    replace hF := hF.trans (if_pos h46)
                    refine j_aload_n X d_Ma_obstacle_134 2 rfl ?_
                    refine j_get X fd_Ma_23_Ma 1 (by omega) x_Ma rfl d_Ma_obstacle_135 ?_
                    refine j_get X fd_Ma_60_St 4 (k_lt k_4 hn) (x_St k_4) rfl d_Ma_obstacle_138 ?_
                    refine j_aload_n X d_Ma_obstacle_141 2 rfl ?_
                    refine j_get X fd_Ma_42_Ma 1 (by omega) x_Ma rfl d_Ma_obstacle_142 ?_
                    refine j_icmp_lt X (tgt := 151) d_Ma_obstacle_145 (by decide) (fun h47 => ?_) (fun h47 => ?_)
                    · replace hp := hp.1 h47
                      replace hF := hF.trans (if_pos h47)
                      refine j_aload_n X d_Ma_obstacle_151 2 rfl ?_
                      refine j_get X fd_Ma_23_Ma 1 (by omega) x_Ma rfl d_Ma_obstacle_152 ?_
                      refine j_get X fd_Ma_63_St 4 (k_lt k_4 hn) (x_St k_4) rfl d_Ma_obstacle_155 ?_
                      refine j_gets X hZg mw_241 d_Ma_obstacle_158 ?_
                      refine j_iload_n X d_Ma_obstacle_161 1 rfl ?_
                      obtain ⟨o48, hp⟩ := hp
                      refine j_ti X hTg o48 d_Ma_obstacle_162 ?_
                      refine j_iadd X d_Ma_obstacle_163 ?_
                      refine j_bipush X (v := 24) d_Ma_obstacle_164 (by decide) ?_
                      refine j_icmp_le X (tgt := 173) d_Ma_obstacle_166 (by decide) (fun h49 => ?_) (fun h49 => ?_)
                      · replace hp := hp.1 h49
                        replace hF := hF.trans (if_pos h49)
                        refine j_iconst X (v := 0) d_Ma_obstacle_173 (by decide) ?_
                        exact j_iret X hr hk (by rw [hF]) rfl d_Ma_obstacle_174
                      · replace hp := hp.2 h49
                        replace hF := hF.trans (if_neg h49)
                        refine j_iconst X (v := 3) d_Ma_obstacle_169 (by decide) ?_
                        refine j_goto X (tgt := 174) d_Ma_obstacle_170 (by decide) ?_
                        exact j_iret X hr hk (by rw [hF]) rfl d_Ma_obstacle_174
                    · replace hp := hp.2 h47
                      replace hF := hF.trans (if_neg h47)
                      refine j_bipush X (v := 7) d_Ma_obstacle_148 (by decide) ?_
                      exact j_iret X hr hk (by rw [hF]) rfl d_Ma_obstacle_150
                · replace hp := hp.1 h38
                  replace hF := hF.trans (if_pos h38)
                  refine j_iload_n X d_Ma_obstacle_120 0 rfl ?_
                  refine j_iconst X (v := 1) d_Ma_obstacle_121 (by decide) ?_
                  refine j_icmp_ge X (tgt := 128) d_Ma_obstacle_122 (by decide) (fun h39 => ?_) (fun h39 => ?_)
                  · replace hp := hp.1 h39
                    replace hF := hF.trans (if_pos h39)
                    refine j_iload_n X d_Ma_obstacle_128 1 rfl ?_
                    refine j_bipush X (v := 18) d_Ma_obstacle_129 (by decide) ?_
                    refine j_icmp_ne X (tgt := 151) d_Ma_obstacle_131 (by decide) (fun h40 => ?_) (fun h40 => ?_)
                    · replace hp := hp.2 h40
                      replace hF := hF.trans (if_neg h40)
                      refine j_aload_n X d_Ma_obstacle_151 2 rfl ?_
                      refine j_get X fd_Ma_23_Ma 1 (by omega) x_Ma rfl d_Ma_obstacle_152 ?_
                      refine j_get X fd_Ma_63_St 4 (k_lt k_4 hn) (x_St k_4) rfl d_Ma_obstacle_155 ?_
                      refine j_gets X hZg mw_241 d_Ma_obstacle_158 ?_
                      refine j_iload_n X d_Ma_obstacle_161 1 rfl ?_
                      obtain ⟨o44, hp⟩ := hp
                      refine j_ti X hTg o44 d_Ma_obstacle_162 ?_
                      refine j_iadd X d_Ma_obstacle_163 ?_
                      refine j_bipush X (v := 24) d_Ma_obstacle_164 (by decide) ?_
                      refine j_icmp_le X (tgt := 173) d_Ma_obstacle_166 (by decide) (fun h45 => ?_) (fun h45 => ?_)
                      · replace hp := hp.1 h45
                        replace hF := hF.trans (if_pos h45)
                        refine j_iconst X (v := 0) d_Ma_obstacle_173 (by decide) ?_
                        exact j_iret X hr hk (by rw [hF]) rfl d_Ma_obstacle_174
                      · replace hp := hp.2 h45
                        replace hF := hF.trans (if_neg h45)
                        refine j_iconst X (v := 3) d_Ma_obstacle_169 (by decide) ?_
                        refine j_goto X (tgt := 174) d_Ma_obstacle_170 (by decide) ?_
                        exact j_iret X hr hk (by rw [hF]) rfl d_Ma_obstacle_174
                    · replace hp := hp.1 h40
                      replace hF := hF.trans (if_pos h40)
                      refine j_aload_n X d_Ma_obstacle_134 2 rfl ?_
                      refine j_get X fd_Ma_23_Ma 1 (by omega) x_Ma rfl d_Ma_obstacle_135 ?_
                      refine j_get X fd_Ma_60_St 4 (k_lt k_4 hn) (x_St k_4) rfl d_Ma_obstacle_138 ?_
                      refine j_aload_n X d_Ma_obstacle_141 2 rfl ?_
                      refine j_get X fd_Ma_42_Ma 1 (by omega) x_Ma rfl d_Ma_obstacle_142 ?_
                      refine j_icmp_lt X (tgt := 151) d_Ma_obstacle_145 (by decide) (fun h41 => ?_) (fun h41 => ?_)
                      · replace hp := hp.1 h41
                        replace hF := hF.trans (if_pos h41)
                        refine j_aload_n X d_Ma_obstacle_151 2 rfl ?_
                        refine j_get X fd_Ma_23_Ma 1 (by omega) x_Ma rfl d_Ma_obstacle_152 ?_
                        refine j_get X fd_Ma_63_St 4 (k_lt k_4 hn) (x_St k_4) rfl d_Ma_obstacle_155 ?_
                        refine j_gets X hZg mw_241 d_Ma_obstacle_158 ?_
                        refine j_iload_n X d_Ma_obstacle_161 1 rfl ?_
                        obtain ⟨o42, hp⟩ := hp
                        refine j_ti X hTg o42 d_Ma_obstacle_162 ?_
                        refine j_iadd X d_Ma_obstacle_163 ?_
                        refine j_bipush X (v := 24) d_Ma_obstacle_164 (by decide) ?_
                        refine j_icmp_le X (tgt := 173) d_Ma_obstacle_166 (by decide) (fun h43 => ?_) (fun h43 => ?_)
                        · replace hp := hp.1 h43
                          replace hF := hF.trans (if_pos h43)
                          refine j_iconst X (v := 0) d_Ma_obstacle_173 (by decide) ?_
                          exact j_iret X hr hk (by rw [hF]) rfl d_Ma_obstacle_174
                        · replace hp := hp.2 h43
                          replace hF := hF.trans (if_neg h43)
                          refine j_iconst X (v := 3) d_Ma_obstacle_169 (by decide) ?_
                          refine j_goto X (tgt := 174) d_Ma_obstacle_170 (by decide) ?_
                          exact j_iret X hr hk (by rw [hF]) rfl d_Ma_obstacle_174
                      · replace hp := hp.2 h41
                        replace hF := hF.trans (if_neg h41)
                        refine j_bipush X (v := 7) d_Ma_obstacle_148 (by decide) ?_
                        exact j_iret X hr hk (by rw [hF]) rfl d_Ma_obstacle_150
                  · replace hp := hp.2 h39
                    replace hF := hF.trans (if_neg h39)
                    refine j_bipush X (v := 6) d_Ma_obstacle_125 (by decide) ?_
                    exact j_iret X hr hk (by rw [hF]) rfl d_Ma_obstacle_127
              · replace hp := hp.1 h19
                replace hF := hF.trans (if_pos h19)
                refine j_aload_n X d_Ma_obstacle_106 2 rfl ?_
                refine j_iconst X (v := 0) d_Ma_obstacle_107 (by decide) ?_
                obtain ⟨o20, hp⟩ := hp
                refine j_callV (st := []) X 1 (by omega) hY_Ma_fromTop (c_Ma_fromTop l D aC ad n hn c0 S 0  o20) mw_232 hI_Ma_fromTop hS_Ma_fromTop x_Ma rfl rfl rfl (Nat.le_of_ble_eq_true rfl) d_Ma_obstacle_108 rfl rfl ⟨by decide, by decide⟩ ⟨Nat.zero_le _, Nat.zero_le _⟩ (j_st (st' := [.int (f_Ma_fromTop S 0)]) rfl ?_)
                refine j_topi (fun r21 e22 => ?_)
                replace hp := hp r21 e22
                replace hF := hF.trans (px_let_eq e22)
                refine j_if_eq X (tgt := 125) d_Ma_obstacle_111 (by decide) (fun h23 => ?_) (fun h23 => ?_)
                · replace hp := hp.1 h23
                  replace hF := hF.trans (if_pos h23)
                  refine j_bipush X (v := 6) d_Ma_obstacle_125 (by decide) ?_
                  exact j_iret X hr hk (by rw [hF]) rfl d_Ma_obstacle_127
                · replace hp := hp.2 h23
                  replace hF := hF.trans (if_neg h23)
                  refine j_iload_n X d_Ma_obstacle_114 1 rfl ?_
                  refine j_bipush X (v := 19) d_Ma_obstacle_115 (by decide) ?_
                  refine j_icmp_ne X (tgt := 128) d_Ma_obstacle_117 (by decide) (fun h24 => ?_) (fun h24 => ?_)
                  · replace hp := hp.2 h24
                    replace hF := hF.trans (if_neg h24)
                    refine j_iload_n X d_Ma_obstacle_128 1 rfl ?_
                    refine j_bipush X (v := 18) d_Ma_obstacle_129 (by decide) ?_
                    refine j_icmp_ne X (tgt := 151) d_Ma_obstacle_131 (by decide) (fun h32 => ?_) (fun h32 => ?_)
                    · replace hp := hp.2 h32
                      replace hF := hF.trans (if_neg h32)
                      refine j_aload_n X d_Ma_obstacle_151 2 rfl ?_
                      refine j_get X fd_Ma_23_Ma 1 (by omega) x_Ma rfl d_Ma_obstacle_152 ?_
                      refine j_get X fd_Ma_63_St 4 (k_lt k_4 hn) (x_St k_4) rfl d_Ma_obstacle_155 ?_
                      refine j_gets X hZg mw_241 d_Ma_obstacle_158 ?_
                      refine j_iload_n X d_Ma_obstacle_161 1 rfl ?_
                      obtain ⟨o36, hp⟩ := hp
                      refine j_ti X hTg o36 d_Ma_obstacle_162 ?_
                      refine j_iadd X d_Ma_obstacle_163 ?_
                      refine j_bipush X (v := 24) d_Ma_obstacle_164 (by decide) ?_
                      refine j_icmp_le X (tgt := 173) d_Ma_obstacle_166 (by decide) (fun h37 => ?_) (fun h37 => ?_)
                      · replace hp := hp.1 h37
                        replace hF := hF.trans (if_pos h37)
                        refine j_iconst X (v := 0) d_Ma_obstacle_173 (by decide) ?_
                        exact j_iret X hr hk (by rw [hF]) rfl d_Ma_obstacle_174
                      · replace hp := hp.2 h37
                        replace hF := hF.trans (if_neg h37)
                        refine j_iconst X (v := 3) d_Ma_obstacle_169 (by decide) ?_
                        refine j_goto X (tgt := 174) d_Ma_obstacle_170 (by decide) ?_
                        exact j_iret X hr hk (by rw [hF]) rfl d_Ma_obstacle_174
                    · replace hp := hp.1 h32
                      replace hF := hF.trans (if_pos h32)
                      refine j_aload_n X d_Ma_obstacle_134 2 rfl ?_
                      refine j_get X fd_Ma_23_Ma 1 (by omega) x_Ma rfl d_Ma_obstacle_135 ?_
                      refine j_get X fd_Ma_60_St 4 (k_lt k_4 hn) (x_St k_4) rfl d_Ma_obstacle_138 ?_
                      refine j_aload_n X d_Ma_obstacle_141 2 rfl ?_
                      refine j_get X fd_Ma_42_Ma 1 (by omega) x_Ma rfl d_Ma_obstacle_142 ?_
                      refine j_icmp_lt X (tgt := 151) d_Ma_obstacle_145 (by decide) (fun h33 => ?_) (fun h33 => ?_)
                      · replace hp := hp.1 h33
                        replace hF := hF.trans (if_pos h33)
                        refine j_aload_n X d_Ma_obstacle_151 2 rfl ?_
                        refine j_get X fd_Ma_23_Ma 1 (by omega) x_Ma rfl d_Ma_obstacle_152 ?_
                        refine j_get X fd_Ma_63_St 4 (k_lt k_4 hn) (x_St k_4) rfl d_Ma_obstacle_155 ?_
                        refine j_gets X hZg mw_241 d_Ma_obstacle_158 ?_
                        refine j_iload_n X d_Ma_obstacle_161 1 rfl ?_
                        obtain ⟨o34, hp⟩ := hp
                        refine j_ti X hTg o34 d_Ma_obstacle_162 ?_
                        refine j_iadd X d_Ma_obstacle_163 ?_
                        refine j_bipush X (v := 24) d_Ma_obstacle_164 (by decide) ?_
                        refine j_icmp_le X (tgt := 173) d_Ma_obstacle_166 (by decide) (fun h35 => ?_) (fun h35 => ?_)
                        · replace hp := hp.1 h35
                          replace hF := hF.trans (if_pos h35)
                          refine j_iconst X (v := 0) d_Ma_obstacle_173 (by decide) ?_
                          exact j_iret X hr hk (by rw [hF]) rfl d_Ma_obstacle_174
                        · replace hp := hp.2 h35
                          replace hF := hF.trans (if_neg h35)
                          refine j_iconst X (v := 3) d_Ma_obstacle_169 (by decide) ?_
                          refine j_goto X (tgt := 174) d_Ma_obstacle_170 (by decide) ?_
                          exact j_iret X hr hk (by rw [hF]) rfl d_Ma_obstacle_174
                      · replace hp := hp.2 h33
                        replace hF := hF.trans (if_neg h33)
                        refine j_bipush X (v := 7) d_Ma_obstacle_148 (by decide) ?_
                        exact j_iret X hr hk (by rw [hF]) rfl d_Ma_obstacle_150
                  · replace hp := hp.1 h24
                    replace hF := hF.trans (if_pos h24)
                    refine j_iload_n X d_Ma_obstacle_120 0 rfl ?_
                    refine j_iconst X (v := 1) d_Ma_obstacle_121 (by decide) ?_
                    refine j_icmp_ge X (tgt := 128) d_Ma_obstacle_122 (by decide) (fun h25 => ?_) (fun h25 => ?_)
                    · replace hp := hp.1 h25
                      replace hF := hF.trans (if_pos h25)
                      refine j_iload_n X d_Ma_obstacle_128 1 rfl ?_
                      refine j_bipush X (v := 18) d_Ma_obstacle_129 (by decide) ?_
                      refine j_icmp_ne X (tgt := 151) d_Ma_obstacle_131 (by decide) (fun h26 => ?_) (fun h26 => ?_)
                      · replace hp := hp.2 h26
                        replace hF := hF.trans (if_neg h26)
                        refine j_aload_n X d_Ma_obstacle_151 2 rfl ?_
                        refine j_get X fd_Ma_23_Ma 1 (by omega) x_Ma rfl d_Ma_obstacle_152 ?_
                        refine j_get X fd_Ma_63_St 4 (k_lt k_4 hn) (x_St k_4) rfl d_Ma_obstacle_155 ?_
                        refine j_gets X hZg mw_241 d_Ma_obstacle_158 ?_
                        refine j_iload_n X d_Ma_obstacle_161 1 rfl ?_
                        obtain ⟨o30, hp⟩ := hp
                        refine j_ti X hTg o30 d_Ma_obstacle_162 ?_
                        refine j_iadd X d_Ma_obstacle_163 ?_
                        refine j_bipush X (v := 24) d_Ma_obstacle_164 (by decide) ?_
                        refine j_icmp_le X (tgt := 173) d_Ma_obstacle_166 (by decide) (fun h31 => ?_) (fun h31 => ?_)
                        · replace hp := hp.1 h31
                          replace hF := hF.trans (if_pos h31)
                          refine j_iconst X (v := 0) d_Ma_obstacle_173 (by decide) ?_
                          exact j_iret X hr hk (by rw [hF]) rfl d_Ma_obstacle_174
                        · replace hp := hp.2 h31
                          replace hF := hF.trans (if_neg h31)
                          refine j_iconst X (v := 3) d_Ma_obstacle_169 (by decide) ?_
                          refine j_goto X (tgt := 174) d_Ma_obstacle_170 (by decide) ?_
                          exact j_iret X hr hk (by rw [hF]) rfl d_Ma_obstacle_174
                      · replace hp := hp.1 h26
                        replace hF := hF.trans (if_pos h26)
                        refine j_aload_n X d_Ma_obstacle_134 2 rfl ?_
                        refine j_get X fd_Ma_23_Ma 1 (by omega) x_Ma rfl d_Ma_obstacle_135 ?_
                        refine j_get X fd_Ma_60_St 4 (k_lt k_4 hn) (x_St k_4) rfl d_Ma_obstacle_138 ?_
                        refine j_aload_n X d_Ma_obstacle_141 2 rfl ?_
                        refine j_get X fd_Ma_42_Ma 1 (by omega) x_Ma rfl d_Ma_obstacle_142 ?_
                        refine j_icmp_lt X (tgt := 151) d_Ma_obstacle_145 (by decide) (fun h27 => ?_) (fun h27 => ?_)
                        · replace hp := hp.1 h27
                          replace hF := hF.trans (if_pos h27)
                          refine j_aload_n X d_Ma_obstacle_151 2 rfl ?_
                          refine j_get X fd_Ma_23_Ma 1 (by omega) x_Ma rfl d_Ma_obstacle_152 ?_
                          refine j_get X fd_Ma_63_St 4 (k_lt k_4 hn) (x_St k_4) rfl d_Ma_obstacle_155 ?_
                          refine j_gets X hZg mw_241 d_Ma_obstacle_158 ?_
                          refine j_iload_n X d_Ma_obstacle_161 1 rfl ?_
                          obtain ⟨o28, hp⟩ := hp
                          refine j_ti X hTg o28 d_Ma_obstacle_162 ?_
                          refine j_iadd X d_Ma_obstacle_163 ?_
                          refine j_bipush X (v := 24) d_Ma_obstacle_164 (by decide) ?_
                          refine j_icmp_le X (tgt := 173) d_Ma_obstacle_166 (by decide) (fun h29 => ?_) (fun h29 => ?_)
                          · replace hp := hp.1 h29
                            replace hF := hF.trans (if_pos h29)
                            refine j_iconst X (v := 0) d_Ma_obstacle_173 (by decide) ?_
                            exact j_iret X hr hk (by rw [hF]) rfl d_Ma_obstacle_174
                          · replace hp := hp.2 h29
                            replace hF := hF.trans (if_neg h29)
                            refine j_iconst X (v := 3) d_Ma_obstacle_169 (by decide) ?_
                            refine j_goto X (tgt := 174) d_Ma_obstacle_170 (by decide) ?_
                            exact j_iret X hr hk (by rw [hF]) rfl d_Ma_obstacle_174
                        · replace hp := hp.2 h27
                          replace hF := hF.trans (if_neg h27)
                          refine j_bipush X (v := 7) d_Ma_obstacle_148 (by decide) ?_
                          exact j_iret X hr hk (by rw [hF]) rfl d_Ma_obstacle_150
                    · replace hp := hp.2 h25
                      replace hF := hF.trans (if_neg h25)
                      refine j_bipush X (v := 6) d_Ma_obstacle_125 (by decide) ?_
                      exact j_iret X hr hk (by rw [hF]) rfl d_Ma_obstacle_127
            · replace hp := hp.1 h18
              replace hF := hF.trans (if_pos h18)
              refine j_iconst X (v := 4) d_Ma_obstacle_98 (by decide) ?_
              exact j_iret X hr hk (by rw [hF]) rfl d_Ma_obstacle_99
          · replace hp := hp.2 h12
            replace hF := hF.trans (if_neg h12)
            refine j_iload_n X d_Ma_obstacle_79 1 rfl ?_
            refine j_bipush X (v := 11) d_Ma_obstacle_80 (by decide) ?_
            refine j_icmp_ne X (tgt := 100) d_Ma_obstacle_82 (by decide) (fun h52 => ?_) (fun h52 => ?_)
            · replace hp := hp.2 h52
              replace hF := hF.trans (if_neg h52)
              refine j_iload_n X d_Ma_obstacle_100 1 rfl ?_
              refine j_bipush X (v := 8) d_Ma_obstacle_101 (by decide) ?_
              refine j_icmp_ne X (tgt := 114) d_Ma_obstacle_103 (by decide) (fun h92 => ?_) (fun h92 => ?_)
              · replace hp := hp.2 h92
                replace hF := hF.trans (if_neg h92)
                refine j_iload_n X d_Ma_obstacle_114 1 rfl ?_
                refine j_bipush X (v := 19) d_Ma_obstacle_115 (by decide) ?_
                refine j_icmp_ne X (tgt := 128) d_Ma_obstacle_117 (by decide) (fun h111 => ?_) (fun h111 => ?_)
                · replace hp := hp.2 h111
                  replace hF := hF.trans (if_neg h111)
                  refine j_iload_n X d_Ma_obstacle_128 1 rfl ?_
                  refine j_bipush X (v := 18) d_Ma_obstacle_129 (by decide) ?_
                  refine j_icmp_ne X (tgt := 151) d_Ma_obstacle_131 (by decide) (fun h119 => ?_) (fun h119 => ?_)
                  · replace hp := hp.2 h119
                    replace hF := hF.trans (if_neg h119)
                    refine j_aload_n X d_Ma_obstacle_151 2 rfl ?_
                    refine j_get X fd_Ma_23_Ma 1 (by omega) x_Ma rfl d_Ma_obstacle_152 ?_
                    refine j_get X fd_Ma_63_St 4 (k_lt k_4 hn) (x_St k_4) rfl d_Ma_obstacle_155 ?_
                    refine j_gets X hZg mw_241 d_Ma_obstacle_158 ?_
                    refine j_iload_n X d_Ma_obstacle_161 1 rfl ?_
                    obtain ⟨o123, hp⟩ := hp
                    refine j_ti X hTg o123 d_Ma_obstacle_162 ?_
                    refine j_iadd X d_Ma_obstacle_163 ?_
                    refine j_bipush X (v := 24) d_Ma_obstacle_164 (by decide) ?_
                    refine j_icmp_le X (tgt := 173) d_Ma_obstacle_166 (by decide) (fun h124 => ?_) (fun h124 => ?_)
                    · replace hp := hp.1 h124
                      replace hF := hF.trans (if_pos h124)
                      refine j_iconst X (v := 0) d_Ma_obstacle_173 (by decide) ?_
                      exact j_iret X hr hk (by rw [hF]) rfl d_Ma_obstacle_174
                    · replace hp := hp.2 h124
                      replace hF := hF.trans (if_neg h124)
                      refine j_iconst X (v := 3) d_Ma_obstacle_169 (by decide) ?_
                      refine j_goto X (tgt := 174) d_Ma_obstacle_170 (by decide) ?_
                      exact j_iret X hr hk (by rw [hF]) rfl d_Ma_obstacle_174
                  · replace hp := hp.1 h119
                    replace hF := hF.trans (if_pos h119)
                    refine j_aload_n X d_Ma_obstacle_134 2 rfl ?_
                    refine j_get X fd_Ma_23_Ma 1 (by omega) x_Ma rfl d_Ma_obstacle_135 ?_
                    refine j_get X fd_Ma_60_St 4 (k_lt k_4 hn) (x_St k_4) rfl d_Ma_obstacle_138 ?_
                    refine j_aload_n X d_Ma_obstacle_141 2 rfl ?_
                    refine j_get X fd_Ma_42_Ma 1 (by omega) x_Ma rfl d_Ma_obstacle_142 ?_
                    refine j_icmp_lt X (tgt := 151) d_Ma_obstacle_145 (by decide) (fun h120 => ?_) (fun h120 => ?_)
                    · replace hp := hp.1 h120
                      replace hF := hF.trans (if_pos h120)
                      refine j_aload_n X d_Ma_obstacle_151 2 rfl ?_
                      refine j_get X fd_Ma_23_Ma 1 (by omega) x_Ma rfl d_Ma_obstacle_152 ?_
                      refine j_get X fd_Ma_63_St 4 (k_lt k_4 hn) (x_St k_4) rfl d_Ma_obstacle_155 ?_
                      refine j_gets X hZg mw_241 d_Ma_obstacle_158 ?_
                      refine j_iload_n X d_Ma_obstacle_161 1 rfl ?_
                      obtain ⟨o121, hp⟩ := hp
                      refine j_ti X hTg o121 d_Ma_obstacle_162 ?_
                      refine j_iadd X d_Ma_obstacle_163 ?_
                      refine j_bipush X (v := 24) d_Ma_obstacle_164 (by decide) ?_
                      refine j_icmp_le X (tgt := 173) d_Ma_obstacle_166 (by decide) (fun h122 => ?_) (fun h122 => ?_)
                      · replace hp := hp.1 h122
                        replace hF := hF.trans (if_pos h122)
                        refine j_iconst X (v := 0) d_Ma_obstacle_173 (by decide) ?_
                        exact j_iret X hr hk (by rw [hF]) rfl d_Ma_obstacle_174
                      · replace hp := hp.2 h122
                        replace hF := hF.trans (if_neg h122)
                        refine j_iconst X (v := 3) d_Ma_obstacle_169 (by decide) ?_
                        refine j_goto X (tgt := 174) d_Ma_obstacle_170 (by decide) ?_
                        exact j_iret X hr hk (by rw [hF]) rfl d_Ma_obstacle_174
                    · replace hp := hp.2 h120
                      replace hF := hF.trans (if_neg h120)
                      refine j_bipush X (v := 7) d_Ma_obstacle_148 (by decide) ?_
                      exact j_iret X hr hk (by rw [hF]) rfl d_Ma_obstacle_150
                · replace hp := hp.1 h111
                  replace hF := hF.trans (if_pos h111)
                  refine j_iload_n X d_Ma_obstacle_120 0 rfl ?_
                  refine j_iconst X (v := 1) d_Ma_obstacle_121 (by decide) ?_
                  refine j_icmp_ge X (tgt := 128) d_Ma_obstacle_122 (by decide) (fun h112 => ?_) (fun h112 => ?_)
                  · replace hp := hp.1 h112
                    replace hF := hF.trans (if_pos h112)
                    refine j_iload_n X d_Ma_obstacle_128 1 rfl ?_
                    refine j_bipush X (v := 18) d_Ma_obstacle_129 (by decide) ?_
                    refine j_icmp_ne X (tgt := 151) d_Ma_obstacle_131 (by decide) (fun h113 => ?_) (fun h113 => ?_)
                    · replace hp := hp.2 h113
                      replace hF := hF.trans (if_neg h113)
                      refine j_aload_n X d_Ma_obstacle_151 2 rfl ?_
                      refine j_get X fd_Ma_23_Ma 1 (by omega) x_Ma rfl d_Ma_obstacle_152 ?_
                      refine j_get X fd_Ma_63_St 4 (k_lt k_4 hn) (x_St k_4) rfl d_Ma_obstacle_155 ?_
                      refine j_gets X hZg mw_241 d_Ma_obstacle_158 ?_
                      refine j_iload_n X d_Ma_obstacle_161 1 rfl ?_
                      obtain ⟨o117, hp⟩ := hp
                      refine j_ti X hTg o117 d_Ma_obstacle_162 ?_
                      refine j_iadd X d_Ma_obstacle_163 ?_
                      refine j_bipush X (v := 24) d_Ma_obstacle_164 (by decide) ?_
                      refine j_icmp_le X (tgt := 173) d_Ma_obstacle_166 (by decide) (fun h118 => ?_) (fun h118 => ?_)
                      · replace hp := hp.1 h118
                        replace hF := hF.trans (if_pos h118)
                        refine j_iconst X (v := 0) d_Ma_obstacle_173 (by decide) ?_
                        exact j_iret X hr hk (by rw [hF]) rfl d_Ma_obstacle_174
                      · replace hp := hp.2 h118
                        replace hF := hF.trans (if_neg h118)
                        refine j_iconst X (v := 3) d_Ma_obstacle_169 (by decide) ?_
                        refine j_goto X (tgt := 174) d_Ma_obstacle_170 (by decide) ?_
                        exact j_iret X hr hk (by rw [hF]) rfl d_Ma_obstacle_174
                    · replace hp := hp.1 h113
                      replace hF := hF.trans (if_pos h113)
                      refine j_aload_n X d_Ma_obstacle_134 2 rfl ?_
                      refine j_get X fd_Ma_23_Ma 1 (by omega) x_Ma rfl d_Ma_obstacle_135 ?_
                      refine j_get X fd_Ma_60_St 4 (k_lt k_4 hn) (x_St k_4) rfl d_Ma_obstacle_138 ?_
                      refine j_aload_n X d_Ma_obstacle_141 2 rfl ?_
                      refine j_get X fd_Ma_42_Ma 1 (by omega) x_Ma rfl d_Ma_obstacle_142 ?_
                      refine j_icmp_lt X (tgt := 151) d_Ma_obstacle_145 (by decide) (fun h114 => ?_) (fun h114 => ?_)
                      · replace hp := hp.1 h114
                        replace hF := hF.trans (if_pos h114)
                        refine j_aload_n X d_Ma_obstacle_151 2 rfl ?_
                        refine j_get X fd_Ma_23_Ma 1 (by omega) x_Ma rfl d_Ma_obstacle_152 ?_
                        refine j_get X fd_Ma_63_St 4 (k_lt k_4 hn) (x_St k_4) rfl d_Ma_obstacle_155 ?_
                        refine j_gets X hZg mw_241 d_Ma_obstacle_158 ?_
                        refine j_iload_n X d_Ma_obstacle_161 1 rfl ?_
                        obtain ⟨o115, hp⟩ := hp
                        refine j_ti X hTg o115 d_Ma_obstacle_162 ?_
                        refine j_iadd X d_Ma_obstacle_163 ?_
                        refine j_bipush X (v := 24) d_Ma_obstacle_164 (by decide) ?_
                        refine j_icmp_le X (tgt := 173) d_Ma_obstacle_166 (by decide) (fun h116 => ?_) (fun h116 => ?_)
                        · replace hp := hp.1 h116
                          replace hF := hF.trans (if_pos h116)
                          refine j_iconst X (v := 0) d_Ma_obstacle_173 (by decide) ?_
                          exact j_iret X hr hk (by rw [hF]) rfl d_Ma_obstacle_174
                        · replace hp := hp.2 h116
                          replace hF := hF.trans (if_neg h116)
                          refine j_iconst X (v := 3) d_Ma_obstacle_169 (by decide) ?_
                          refine j_goto X (tgt := 174) d_Ma_obstacle_170 (by decide) ?_
                          exact j_iret X hr hk (by rw [hF]) rfl d_Ma_obstacle_174
                      · replace hp := hp.2 h114
                        replace hF := hF.trans (if_neg h114)
                        refine j_bipush X (v := 7) d_Ma_obstacle_148 (by decide) ?_
                        exact j_iret X hr hk (by rw [hF]) rfl d_Ma_obstacle_150
                  · replace hp := hp.2 h112
                    replace hF := hF.trans (if_neg h112)
                    refine j_bipush X (v := 6) d_Ma_obstacle_125 (by decide) ?_
                    exact j_iret X hr hk (by rw [hF]) rfl d_Ma_obstacle_127
              · replace hp := hp.1 h92
                replace hF := hF.trans (if_pos h92)
                refine j_aload_n X d_Ma_obstacle_106 2 rfl ?_
                refine j_iconst X (v := 0) d_Ma_obstacle_107 (by decide) ?_
                obtain ⟨o93, hp⟩ := hp
                refine j_callV (st := []) X 1 (by omega) hY_Ma_fromTop (c_Ma_fromTop l D aC ad n hn c0 S 0  o93) mw_232 hI_Ma_fromTop hS_Ma_fromTop x_Ma rfl rfl rfl (Nat.le_of_ble_eq_true rfl) d_Ma_obstacle_108 rfl rfl ⟨by decide, by decide⟩ ⟨Nat.zero_le _, Nat.zero_le _⟩ (j_st (st' := [.int (f_Ma_fromTop S 0)]) rfl ?_)
                refine j_topi (fun r94 e95 => ?_)
                replace hp := hp r94 e95
                replace hF := hF.trans (px_let_eq e95)
                refine j_if_eq X (tgt := 125) d_Ma_obstacle_111 (by decide) (fun h96 => ?_) (fun h96 => ?_)
                · replace hp := hp.1 h96
                  replace hF := hF.trans (if_pos h96)
                  refine j_bipush X (v := 6) d_Ma_obstacle_125 (by decide) ?_
                  exact j_iret X hr hk (by rw [hF]) rfl d_Ma_obstacle_127
                · replace hp := hp.2 h96
                  replace hF := hF.trans (if_neg h96)
                  refine j_iload_n X d_Ma_obstacle_114 1 rfl ?_
                  refine j_bipush X (v := 19) d_Ma_obstacle_115 (by decide) ?_
                  refine j_icmp_ne X (tgt := 128) d_Ma_obstacle_117 (by decide) (fun h97 => ?_) (fun h97 => ?_)
                  · replace hp := hp.2 h97
                    replace hF := hF.trans (if_neg h97)
                    refine j_iload_n X d_Ma_obstacle_128 1 rfl ?_
                    refine j_bipush X (v := 18) d_Ma_obstacle_129 (by decide) ?_
                    refine j_icmp_ne X (tgt := 151) d_Ma_obstacle_131 (by decide) (fun h105 => ?_) (fun h105 => ?_)
                    · replace hp := hp.2 h105
                      replace hF := hF.trans (if_neg h105)
                      refine j_aload_n X d_Ma_obstacle_151 2 rfl ?_
                      refine j_get X fd_Ma_23_Ma 1 (by omega) x_Ma rfl d_Ma_obstacle_152 ?_
                      refine j_get X fd_Ma_63_St 4 (k_lt k_4 hn) (x_St k_4) rfl d_Ma_obstacle_155 ?_
                      refine j_gets X hZg mw_241 d_Ma_obstacle_158 ?_
                      refine j_iload_n X d_Ma_obstacle_161 1 rfl ?_
                      obtain ⟨o109, hp⟩ := hp
                      refine j_ti X hTg o109 d_Ma_obstacle_162 ?_
                      refine j_iadd X d_Ma_obstacle_163 ?_
                      refine j_bipush X (v := 24) d_Ma_obstacle_164 (by decide) ?_
                      refine j_icmp_le X (tgt := 173) d_Ma_obstacle_166 (by decide) (fun h110 => ?_) (fun h110 => ?_)
                      · replace hp := hp.1 h110
                        replace hF := hF.trans (if_pos h110)
                        refine j_iconst X (v := 0) d_Ma_obstacle_173 (by decide) ?_
                        exact j_iret X hr hk (by rw [hF]) rfl d_Ma_obstacle_174
                      · replace hp := hp.2 h110
                        replace hF := hF.trans (if_neg h110)
                        refine j_iconst X (v := 3) d_Ma_obstacle_169 (by decide) ?_
                        refine j_goto X (tgt := 174) d_Ma_obstacle_170 (by decide) ?_
                        exact j_iret X hr hk (by rw [hF]) rfl d_Ma_obstacle_174
                    · replace hp := hp.1 h105
                      replace hF := hF.trans (if_pos h105)
                      refine j_aload_n X d_Ma_obstacle_134 2 rfl ?_
                      refine j_get X fd_Ma_23_Ma 1 (by omega) x_Ma rfl d_Ma_obstacle_135 ?_
                      refine j_get X fd_Ma_60_St 4 (k_lt k_4 hn) (x_St k_4) rfl d_Ma_obstacle_138 ?_
                      refine j_aload_n X d_Ma_obstacle_141 2 rfl ?_
                      refine j_get X fd_Ma_42_Ma 1 (by omega) x_Ma rfl d_Ma_obstacle_142 ?_
                      refine j_icmp_lt X (tgt := 151) d_Ma_obstacle_145 (by decide) (fun h106 => ?_) (fun h106 => ?_)
                      · replace hp := hp.1 h106
                        replace hF := hF.trans (if_pos h106)
                        refine j_aload_n X d_Ma_obstacle_151 2 rfl ?_
                        refine j_get X fd_Ma_23_Ma 1 (by omega) x_Ma rfl d_Ma_obstacle_152 ?_
                        refine j_get X fd_Ma_63_St 4 (k_lt k_4 hn) (x_St k_4) rfl d_Ma_obstacle_155 ?_
                        refine j_gets X hZg mw_241 d_Ma_obstacle_158 ?_
                        refine j_iload_n X d_Ma_obstacle_161 1 rfl ?_
                        obtain ⟨o107, hp⟩ := hp
                        refine j_ti X hTg o107 d_Ma_obstacle_162 ?_
                        refine j_iadd X d_Ma_obstacle_163 ?_
                        refine j_bipush X (v := 24) d_Ma_obstacle_164 (by decide) ?_
                        refine j_icmp_le X (tgt := 173) d_Ma_obstacle_166 (by decide) (fun h108 => ?_) (fun h108 => ?_)
                        · replace hp := hp.1 h108
                          replace hF := hF.trans (if_pos h108)
                          refine j_iconst X (v := 0) d_Ma_obstacle_173 (by decide) ?_
                          exact j_iret X hr hk (by rw [hF]) rfl d_Ma_obstacle_174
                        · replace hp := hp.2 h108
                          replace hF := hF.trans (if_neg h108)
                          refine j_iconst X (v := 3) d_Ma_obstacle_169 (by decide) ?_
                          refine j_goto X (tgt := 174) d_Ma_obstacle_170 (by decide) ?_
                          exact j_iret X hr hk (by rw [hF]) rfl d_Ma_obstacle_174
                      · replace hp := hp.2 h106
                        replace hF := hF.trans (if_neg h106)
                        refine j_bipush X (v := 7) d_Ma_obstacle_148 (by decide) ?_
                        exact j_iret X hr hk (by rw [hF]) rfl d_Ma_obstacle_150
                  · replace hp := hp.1 h97
                    replace hF := hF.trans (if_pos h97)
                    refine j_iload_n X d_Ma_obstacle_120 0 rfl ?_
                    refine j_iconst X (v := 1) d_Ma_obstacle_121 (by decide) ?_
                    refine j_icmp_ge X (tgt := 128) d_Ma_obstacle_122 (by decide) (fun h98 => ?_) (fun h98 => ?_)
                    · replace hp := hp.1 h98
                      replace hF := hF.trans (if_pos h98)
                      refine j_iload_n X d_Ma_obstacle_128 1 rfl ?_
                      refine j_bipush X (v := 18) d_Ma_obstacle_129 (by decide) ?_
                      refine j_icmp_ne X (tgt := 151) d_Ma_obstacle_131 (by decide) (fun h99 => ?_) (fun h99 => ?_)
                      · replace hp := hp.2 h99
                        replace hF := hF.trans (if_neg h99)
                        refine j_aload_n X d_Ma_obstacle_151 2 rfl ?_
                        refine j_get X fd_Ma_23_Ma 1 (by omega) x_Ma rfl d_Ma_obstacle_152 ?_
                        refine j_get X fd_Ma_63_St 4 (k_lt k_4 hn) (x_St k_4) rfl d_Ma_obstacle_155 ?_
                        refine j_gets X hZg mw_241 d_Ma_obstacle_158 ?_
                        refine j_iload_n X d_Ma_obstacle_161 1 rfl ?_
                        obtain ⟨o103, hp⟩ := hp
                        refine j_ti X hTg o103 d_Ma_obstacle_162 ?_
                        refine j_iadd X d_Ma_obstacle_163 ?_
                        refine j_bipush X (v := 24) d_Ma_obstacle_164 (by decide) ?_
                        refine j_icmp_le X (tgt := 173) d_Ma_obstacle_166 (by decide) (fun h104 => ?_) (fun h104 => ?_)
                        · replace hp := hp.1 h104
                          replace hF := hF.trans (if_pos h104)
                          refine j_iconst X (v := 0) d_Ma_obstacle_173 (by decide) ?_
                          exact j_iret X hr hk (by rw [hF]) rfl d_Ma_obstacle_174
                        · replace hp := hp.2 h104
                          replace hF := hF.trans (if_neg h104)
                          refine j_iconst X (v := 3) d_Ma_obstacle_169 (by decide) ?_
                          refine j_goto X (tgt := 174) d_Ma_obstacle_170 (by decide) ?_
                          exact j_iret X hr hk (by rw [hF]) rfl d_Ma_obstacle_174
                      · replace hp := hp.1 h99
                        replace hF := hF.trans (if_pos h99)
                        refine j_aload_n X d_Ma_obstacle_134 2 rfl ?_
                        refine j_get X fd_Ma_23_Ma 1 (by omega) x_Ma rfl d_Ma_obstacle_135 ?_
                        refine j_get X fd_Ma_60_St 4 (k_lt k_4 hn) (x_St k_4) rfl d_Ma_obstacle_138 ?_
                        refine j_aload_n X d_Ma_obstacle_141 2 rfl ?_
                        refine j_get X fd_Ma_42_Ma 1 (by omega) x_Ma rfl d_Ma_obstacle_142 ?_
                        refine j_icmp_lt X (tgt := 151) d_Ma_obstacle_145 (by decide) (fun h100 => ?_) (fun h100 => ?_)
                        · replace hp := hp.1 h100
                          replace hF := hF.trans (if_pos h100)
                          refine j_aload_n X d_Ma_obstacle_151 2 rfl ?_
                          refine j_get X fd_Ma_23_Ma 1 (by omega) x_Ma rfl d_Ma_obstacle_152 ?_
                          refine j_get X fd_Ma_63_St 4 (k_lt k_4 hn) (x_St k_4) rfl d_Ma_obstacle_155 ?_
                          refine j_gets X hZg mw_241 d_Ma_obstacle_158 ?_
                          refine j_iload_n X d_Ma_obstacle_161 1 rfl ?_
                          obtain ⟨o101, hp⟩ := hp
                          refine j_ti X hTg o101 d_Ma_obstacle_162 ?_
                          refine j_iadd X d_Ma_obstacle_163 ?_
                          refine j_bipush X (v := 24) d_Ma_obstacle_164 (by decide) ?_
                          refine j_icmp_le X (tgt := 173) d_Ma_obstacle_166 (by decide) (fun h102 => ?_) (fun h102 => ?_)
                          · replace hp := hp.1 h102
                            replace hF := hF.trans (if_pos h102)
                            refine j_iconst X (v := 0) d_Ma_obstacle_173 (by decide) ?_
                            exact j_iret X hr hk (by rw [hF]) rfl d_Ma_obstacle_174
                          · replace hp := hp.2 h102
                            replace hF := hF.trans (if_neg h102)
                            refine j_iconst X (v := 3) d_Ma_obstacle_169 (by decide) ?_
                            refine j_goto X (tgt := 174) d_Ma_obstacle_170 (by decide) ?_
                            exact j_iret X hr hk (by rw [hF]) rfl d_Ma_obstacle_174
                        · replace hp := hp.2 h100
                          replace hF := hF.trans (if_neg h100)
                          refine j_bipush X (v := 7) d_Ma_obstacle_148 (by decide) ?_
                          exact j_iret X hr hk (by rw [hF]) rfl d_Ma_obstacle_150
                    · replace hp := hp.2 h98
                      replace hF := hF.trans (if_neg h98)
                      refine j_bipush X (v := 6) d_Ma_obstacle_125 (by decide) ?_
                      exact j_iret X hr hk (by rw [hF]) rfl d_Ma_obstacle_127
            · replace hp := hp.1 h52
              replace hF := hF.trans (if_pos h52)
              refine j_aload_n X d_Ma_obstacle_85 2 rfl ?_
              refine j_iconst X (v := 0) d_Ma_obstacle_86 (by decide) ?_
              obtain ⟨o53, hp⟩ := hp
              refine j_callV (st := []) X 1 (by omega) hY_Ma_fromTop (c_Ma_fromTop l D aC ad n hn c0 S 0  o53) mw_232 hI_Ma_fromTop hS_Ma_fromTop x_Ma rfl rfl rfl (Nat.le_of_ble_eq_true rfl) d_Ma_obstacle_87 rfl rfl ⟨by decide, by decide⟩ ⟨Nat.zero_le _, Nat.zero_le _⟩ (j_st (st' := [.int (f_Ma_fromTop S 0)]) rfl ?_)
              refine j_topi (fun r54 e55 => ?_)
              replace hp := hp r54 e55
              replace hF := hF.trans (px_let_eq e55)
              refine j_bipush X (v := 32) d_Ma_obstacle_90 (by decide) ?_
              refine j_callPN (st := []) X hY_RM_within (c_RM_within l r54 32 ) X.2.2.2.2.2.2.1 hT_RM_within rfl rfl (Nat.le_of_ble_eq_true rfl) d_Ma_obstacle_92 rfl rfl ⟨by decide, by decide⟩ ⟨Nat.zero_le _, Nat.zero_le _⟩ (j_st (st' := [.int (f_RM_within r54 32)]) rfl ?_)
              refine j_topi (fun r56 e57 => ?_)
              replace hp := hp r56 e57
              replace hF := hF.trans (px_let_eq e57)
              refine j_if_ne X (tgt := 100) d_Ma_obstacle_95 (by decide) (fun h58 => ?_) (fun h58 => ?_)
              · replace hp := hp.2 h58
                replace hF := hF.trans (if_neg h58)
                refine j_iload_n X d_Ma_obstacle_100 1 rfl ?_
                refine j_bipush X (v := 8) d_Ma_obstacle_101 (by decide) ?_
                refine j_icmp_ne X (tgt := 114) d_Ma_obstacle_103 (by decide) (fun h59 => ?_) (fun h59 => ?_)
                · replace hp := hp.2 h59
                  replace hF := hF.trans (if_neg h59)
                  refine j_iload_n X d_Ma_obstacle_114 1 rfl ?_
                  refine j_bipush X (v := 19) d_Ma_obstacle_115 (by decide) ?_
                  refine j_icmp_ne X (tgt := 128) d_Ma_obstacle_117 (by decide) (fun h78 => ?_) (fun h78 => ?_)
                  · replace hp := hp.2 h78
                    replace hF := hF.trans (if_neg h78)
                    refine j_iload_n X d_Ma_obstacle_128 1 rfl ?_
                    refine j_bipush X (v := 18) d_Ma_obstacle_129 (by decide) ?_
                    refine j_icmp_ne X (tgt := 151) d_Ma_obstacle_131 (by decide) (fun h86 => ?_) (fun h86 => ?_)
                    · replace hp := hp.2 h86
                      replace hF := hF.trans (if_neg h86)
                      refine j_aload_n X d_Ma_obstacle_151 2 rfl ?_
                      refine j_get X fd_Ma_23_Ma 1 (by omega) x_Ma rfl d_Ma_obstacle_152 ?_
                      refine j_get X fd_Ma_63_St 4 (k_lt k_4 hn) (x_St k_4) rfl d_Ma_obstacle_155 ?_
                      refine j_gets X hZg mw_241 d_Ma_obstacle_158 ?_
                      refine j_iload_n X d_Ma_obstacle_161 1 rfl ?_
                      obtain ⟨o90, hp⟩ := hp
                      refine j_ti X hTg o90 d_Ma_obstacle_162 ?_
                      refine j_iadd X d_Ma_obstacle_163 ?_
                      refine j_bipush X (v := 24) d_Ma_obstacle_164 (by decide) ?_
                      refine j_icmp_le X (tgt := 173) d_Ma_obstacle_166 (by decide) (fun h91 => ?_) (fun h91 => ?_)
                      · replace hp := hp.1 h91
                        replace hF := hF.trans (if_pos h91)
                        refine j_iconst X (v := 0) d_Ma_obstacle_173 (by decide) ?_
                        exact j_iret X hr hk (by rw [hF]) rfl d_Ma_obstacle_174
                      · replace hp := hp.2 h91
                        replace hF := hF.trans (if_neg h91)
                        refine j_iconst X (v := 3) d_Ma_obstacle_169 (by decide) ?_
                        refine j_goto X (tgt := 174) d_Ma_obstacle_170 (by decide) ?_
                        exact j_iret X hr hk (by rw [hF]) rfl d_Ma_obstacle_174
                    · replace hp := hp.1 h86
                      replace hF := hF.trans (if_pos h86)
                      refine j_aload_n X d_Ma_obstacle_134 2 rfl ?_
                      refine j_get X fd_Ma_23_Ma 1 (by omega) x_Ma rfl d_Ma_obstacle_135 ?_
                      refine j_get X fd_Ma_60_St 4 (k_lt k_4 hn) (x_St k_4) rfl d_Ma_obstacle_138 ?_
                      refine j_aload_n X d_Ma_obstacle_141 2 rfl ?_
                      refine j_get X fd_Ma_42_Ma 1 (by omega) x_Ma rfl d_Ma_obstacle_142 ?_
                      refine j_icmp_lt X (tgt := 151) d_Ma_obstacle_145 (by decide) (fun h87 => ?_) (fun h87 => ?_)
                      · replace hp := hp.1 h87
                        replace hF := hF.trans (if_pos h87)
                        refine j_aload_n X d_Ma_obstacle_151 2 rfl ?_
                        refine j_get X fd_Ma_23_Ma 1 (by omega) x_Ma rfl d_Ma_obstacle_152 ?_
                        refine j_get X fd_Ma_63_St 4 (k_lt k_4 hn) (x_St k_4) rfl d_Ma_obstacle_155 ?_
                        refine j_gets X hZg mw_241 d_Ma_obstacle_158 ?_
                        refine j_iload_n X d_Ma_obstacle_161 1 rfl ?_
                        obtain ⟨o88, hp⟩ := hp
                        refine j_ti X hTg o88 d_Ma_obstacle_162 ?_
                        refine j_iadd X d_Ma_obstacle_163 ?_
                        refine j_bipush X (v := 24) d_Ma_obstacle_164 (by decide) ?_
                        refine j_icmp_le X (tgt := 173) d_Ma_obstacle_166 (by decide) (fun h89 => ?_) (fun h89 => ?_)
                        · replace hp := hp.1 h89
                          replace hF := hF.trans (if_pos h89)
                          refine j_iconst X (v := 0) d_Ma_obstacle_173 (by decide) ?_
                          exact j_iret X hr hk (by rw [hF]) rfl d_Ma_obstacle_174
                        · replace hp := hp.2 h89
                          replace hF := hF.trans (if_neg h89)
                          refine j_iconst X (v := 3) d_Ma_obstacle_169 (by decide) ?_
                          refine j_goto X (tgt := 174) d_Ma_obstacle_170 (by decide) ?_
                          exact j_iret X hr hk (by rw [hF]) rfl d_Ma_obstacle_174
                      · replace hp := hp.2 h87
                        replace hF := hF.trans (if_neg h87)
                        refine j_bipush X (v := 7) d_Ma_obstacle_148 (by decide) ?_
                        exact j_iret X hr hk (by rw [hF]) rfl d_Ma_obstacle_150
                  · replace hp := hp.1 h78
                    replace hF := hF.trans (if_pos h78)
                    refine j_iload_n X d_Ma_obstacle_120 0 rfl ?_
                    refine j_iconst X (v := 1) d_Ma_obstacle_121 (by decide) ?_
                    refine j_icmp_ge X (tgt := 128) d_Ma_obstacle_122 (by decide) (fun h79 => ?_) (fun h79 => ?_)
                    · replace hp := hp.1 h79
                      replace hF := hF.trans (if_pos h79)
                      refine j_iload_n X d_Ma_obstacle_128 1 rfl ?_
                      refine j_bipush X (v := 18) d_Ma_obstacle_129 (by decide) ?_
                      refine j_icmp_ne X (tgt := 151) d_Ma_obstacle_131 (by decide) (fun h80 => ?_) (fun h80 => ?_)
                      · replace hp := hp.2 h80
                        replace hF := hF.trans (if_neg h80)
                        refine j_aload_n X d_Ma_obstacle_151 2 rfl ?_
                        refine j_get X fd_Ma_23_Ma 1 (by omega) x_Ma rfl d_Ma_obstacle_152 ?_
                        refine j_get X fd_Ma_63_St 4 (k_lt k_4 hn) (x_St k_4) rfl d_Ma_obstacle_155 ?_
                        refine j_gets X hZg mw_241 d_Ma_obstacle_158 ?_
                        refine j_iload_n X d_Ma_obstacle_161 1 rfl ?_
                        obtain ⟨o84, hp⟩ := hp
                        refine j_ti X hTg o84 d_Ma_obstacle_162 ?_
                        refine j_iadd X d_Ma_obstacle_163 ?_
                        refine j_bipush X (v := 24) d_Ma_obstacle_164 (by decide) ?_
                        refine j_icmp_le X (tgt := 173) d_Ma_obstacle_166 (by decide) (fun h85 => ?_) (fun h85 => ?_)
                        · replace hp := hp.1 h85
                          replace hF := hF.trans (if_pos h85)
                          refine j_iconst X (v := 0) d_Ma_obstacle_173 (by decide) ?_
                          exact j_iret X hr hk (by rw [hF]) rfl d_Ma_obstacle_174
                        · replace hp := hp.2 h85
                          replace hF := hF.trans (if_neg h85)
                          refine j_iconst X (v := 3) d_Ma_obstacle_169 (by decide) ?_
                          refine j_goto X (tgt := 174) d_Ma_obstacle_170 (by decide) ?_
                          exact j_iret X hr hk (by rw [hF]) rfl d_Ma_obstacle_174
                      · replace hp := hp.1 h80
                        replace hF := hF.trans (if_pos h80)
                        refine j_aload_n X d_Ma_obstacle_134 2 rfl ?_
                        refine j_get X fd_Ma_23_Ma 1 (by omega) x_Ma rfl d_Ma_obstacle_135 ?_
                        refine j_get X fd_Ma_60_St 4 (k_lt k_4 hn) (x_St k_4) rfl d_Ma_obstacle_138 ?_
                        refine j_aload_n X d_Ma_obstacle_141 2 rfl ?_
                        refine j_get X fd_Ma_42_Ma 1 (by omega) x_Ma rfl d_Ma_obstacle_142 ?_
                        refine j_icmp_lt X (tgt := 151) d_Ma_obstacle_145 (by decide) (fun h81 => ?_) (fun h81 => ?_)
                        · replace hp := hp.1 h81
                          replace hF := hF.trans (if_pos h81)
                          refine j_aload_n X d_Ma_obstacle_151 2 rfl ?_
                          refine j_get X fd_Ma_23_Ma 1 (by omega) x_Ma rfl d_Ma_obstacle_152 ?_
                          refine j_get X fd_Ma_63_St 4 (k_lt k_4 hn) (x_St k_4) rfl d_Ma_obstacle_155 ?_
                          refine j_gets X hZg mw_241 d_Ma_obstacle_158 ?_
                          refine j_iload_n X d_Ma_obstacle_161 1 rfl ?_
                          obtain ⟨o82, hp⟩ := hp
                          refine j_ti X hTg o82 d_Ma_obstacle_162 ?_
                          refine j_iadd X d_Ma_obstacle_163 ?_
                          refine j_bipush X (v := 24) d_Ma_obstacle_164 (by decide) ?_
                          refine j_icmp_le X (tgt := 173) d_Ma_obstacle_166 (by decide) (fun h83 => ?_) (fun h83 => ?_)
                          · replace hp := hp.1 h83
                            replace hF := hF.trans (if_pos h83)
                            refine j_iconst X (v := 0) d_Ma_obstacle_173 (by decide) ?_
                            exact j_iret X hr hk (by rw [hF]) rfl d_Ma_obstacle_174
                          · replace hp := hp.2 h83
                            replace hF := hF.trans (if_neg h83)
                            refine j_iconst X (v := 3) d_Ma_obstacle_169 (by decide) ?_
                            refine j_goto X (tgt := 174) d_Ma_obstacle_170 (by decide) ?_
                            exact j_iret X hr hk (by rw [hF]) rfl d_Ma_obstacle_174
                        · replace hp := hp.2 h81
                          replace hF := hF.trans (if_neg h81)
                          refine j_bipush X (v := 7) d_Ma_obstacle_148 (by decide) ?_
                          exact j_iret X hr hk (by rw [hF]) rfl d_Ma_obstacle_150
                    · replace hp := hp.2 h79
                      replace hF := hF.trans (if_neg h79)
                      refine j_bipush X (v := 6) d_Ma_obstacle_125 (by decide) ?_
                      exact j_iret X hr hk (by rw [hF]) rfl d_Ma_obstacle_127
                · replace hp := hp.1 h59
                  replace hF := hF.trans (if_pos h59)
                  refine j_aload_n X d_Ma_obstacle_106 2 rfl ?_
                  refine j_iconst X (v := 0) d_Ma_obstacle_107 (by decide) ?_
                  obtain ⟨o60, hp⟩ := hp
                  refine j_callV (st := []) X 1 (by omega) hY_Ma_fromTop (c_Ma_fromTop l D aC ad n hn c0 S 0  o60) mw_232 hI_Ma_fromTop hS_Ma_fromTop x_Ma rfl rfl rfl (Nat.le_of_ble_eq_true rfl) d_Ma_obstacle_108 rfl rfl ⟨by decide, by decide⟩ ⟨Nat.zero_le _, Nat.zero_le _⟩ (j_st (st' := [.int (f_Ma_fromTop S 0)]) rfl ?_)
                  refine j_topi (fun r61 e62 => ?_)
                  replace hp := hp r61 e62
                  replace hF := hF.trans (px_let_eq e62)
                  refine j_if_eq X (tgt := 125) d_Ma_obstacle_111 (by decide) (fun h63 => ?_) (fun h63 => ?_)
                  · replace hp := hp.1 h63
                    replace hF := hF.trans (if_pos h63)
                    refine j_bipush X (v := 6) d_Ma_obstacle_125 (by decide) ?_
                    exact j_iret X hr hk (by rw [hF]) rfl d_Ma_obstacle_127
                  · replace hp := hp.2 h63
                    replace hF := hF.trans (if_neg h63)
                    refine j_iload_n X d_Ma_obstacle_114 1 rfl ?_
                    refine j_bipush X (v := 19) d_Ma_obstacle_115 (by decide) ?_
                    refine j_icmp_ne X (tgt := 128) d_Ma_obstacle_117 (by decide) (fun h64 => ?_) (fun h64 => ?_)
                    · replace hp := hp.2 h64
                      replace hF := hF.trans (if_neg h64)
                      refine j_iload_n X d_Ma_obstacle_128 1 rfl ?_
                      refine j_bipush X (v := 18) d_Ma_obstacle_129 (by decide) ?_
                      refine j_icmp_ne X (tgt := 151) d_Ma_obstacle_131 (by decide) (fun h72 => ?_) (fun h72 => ?_)
                      · replace hp := hp.2 h72
                        replace hF := hF.trans (if_neg h72)
                        refine j_aload_n X d_Ma_obstacle_151 2 rfl ?_
                        refine j_get X fd_Ma_23_Ma 1 (by omega) x_Ma rfl d_Ma_obstacle_152 ?_
                        refine j_get X fd_Ma_63_St 4 (k_lt k_4 hn) (x_St k_4) rfl d_Ma_obstacle_155 ?_
                        refine j_gets X hZg mw_241 d_Ma_obstacle_158 ?_
                        refine j_iload_n X d_Ma_obstacle_161 1 rfl ?_
                        obtain ⟨o76, hp⟩ := hp
                        refine j_ti X hTg o76 d_Ma_obstacle_162 ?_
                        refine j_iadd X d_Ma_obstacle_163 ?_
                        refine j_bipush X (v := 24) d_Ma_obstacle_164 (by decide) ?_
                        refine j_icmp_le X (tgt := 173) d_Ma_obstacle_166 (by decide) (fun h77 => ?_) (fun h77 => ?_)
                        · replace hp := hp.1 h77
                          replace hF := hF.trans (if_pos h77)
                          refine j_iconst X (v := 0) d_Ma_obstacle_173 (by decide) ?_
                          exact j_iret X hr hk (by rw [hF]) rfl d_Ma_obstacle_174
                        · replace hp := hp.2 h77
                          replace hF := hF.trans (if_neg h77)
                          refine j_iconst X (v := 3) d_Ma_obstacle_169 (by decide) ?_
                          refine j_goto X (tgt := 174) d_Ma_obstacle_170 (by decide) ?_
                          exact j_iret X hr hk (by rw [hF]) rfl d_Ma_obstacle_174
                      · replace hp := hp.1 h72
                        replace hF := hF.trans (if_pos h72)
                        refine j_aload_n X d_Ma_obstacle_134 2 rfl ?_
                        refine j_get X fd_Ma_23_Ma 1 (by omega) x_Ma rfl d_Ma_obstacle_135 ?_
                        refine j_get X fd_Ma_60_St 4 (k_lt k_4 hn) (x_St k_4) rfl d_Ma_obstacle_138 ?_
                        refine j_aload_n X d_Ma_obstacle_141 2 rfl ?_
                        refine j_get X fd_Ma_42_Ma 1 (by omega) x_Ma rfl d_Ma_obstacle_142 ?_
                        refine j_icmp_lt X (tgt := 151) d_Ma_obstacle_145 (by decide) (fun h73 => ?_) (fun h73 => ?_)
                        · replace hp := hp.1 h73
                          replace hF := hF.trans (if_pos h73)
                          refine j_aload_n X d_Ma_obstacle_151 2 rfl ?_
                          refine j_get X fd_Ma_23_Ma 1 (by omega) x_Ma rfl d_Ma_obstacle_152 ?_
                          refine j_get X fd_Ma_63_St 4 (k_lt k_4 hn) (x_St k_4) rfl d_Ma_obstacle_155 ?_
                          refine j_gets X hZg mw_241 d_Ma_obstacle_158 ?_
                          refine j_iload_n X d_Ma_obstacle_161 1 rfl ?_
                          obtain ⟨o74, hp⟩ := hp
                          refine j_ti X hTg o74 d_Ma_obstacle_162 ?_
                          refine j_iadd X d_Ma_obstacle_163 ?_
                          refine j_bipush X (v := 24) d_Ma_obstacle_164 (by decide) ?_
                          refine j_icmp_le X (tgt := 173) d_Ma_obstacle_166 (by decide) (fun h75 => ?_) (fun h75 => ?_)
                          · replace hp := hp.1 h75
                            replace hF := hF.trans (if_pos h75)
                            refine j_iconst X (v := 0) d_Ma_obstacle_173 (by decide) ?_
                            exact j_iret X hr hk (by rw [hF]) rfl d_Ma_obstacle_174
                          · replace hp := hp.2 h75
                            replace hF := hF.trans (if_neg h75)
                            refine j_iconst X (v := 3) d_Ma_obstacle_169 (by decide) ?_
                            refine j_goto X (tgt := 174) d_Ma_obstacle_170 (by decide) ?_
                            exact j_iret X hr hk (by rw [hF]) rfl d_Ma_obstacle_174
                        · replace hp := hp.2 h73
                          replace hF := hF.trans (if_neg h73)
                          refine j_bipush X (v := 7) d_Ma_obstacle_148 (by decide) ?_
                          exact j_iret X hr hk (by rw [hF]) rfl d_Ma_obstacle_150
                    · replace hp := hp.1 h64
                      replace hF := hF.trans (if_pos h64)
                      refine j_iload_n X d_Ma_obstacle_120 0 rfl ?_
                      refine j_iconst X (v := 1) d_Ma_obstacle_121 (by decide) ?_
                      refine j_icmp_ge X (tgt := 128) d_Ma_obstacle_122 (by decide) (fun h65 => ?_) (fun h65 => ?_)
                      · replace hp := hp.1 h65
                        replace hF := hF.trans (if_pos h65)
                        refine j_iload_n X d_Ma_obstacle_128 1 rfl ?_
                        refine j_bipush X (v := 18) d_Ma_obstacle_129 (by decide) ?_
                        refine j_icmp_ne X (tgt := 151) d_Ma_obstacle_131 (by decide) (fun h66 => ?_) (fun h66 => ?_)
                        · replace hp := hp.2 h66
                          replace hF := hF.trans (if_neg h66)
                          refine j_aload_n X d_Ma_obstacle_151 2 rfl ?_
                          refine j_get X fd_Ma_23_Ma 1 (by omega) x_Ma rfl d_Ma_obstacle_152 ?_
                          refine j_get X fd_Ma_63_St 4 (k_lt k_4 hn) (x_St k_4) rfl d_Ma_obstacle_155 ?_
                          refine j_gets X hZg mw_241 d_Ma_obstacle_158 ?_
                          refine j_iload_n X d_Ma_obstacle_161 1 rfl ?_
                          obtain ⟨o70, hp⟩ := hp
                          refine j_ti X hTg o70 d_Ma_obstacle_162 ?_
                          refine j_iadd X d_Ma_obstacle_163 ?_
                          refine j_bipush X (v := 24) d_Ma_obstacle_164 (by decide) ?_
                          refine j_icmp_le X (tgt := 173) d_Ma_obstacle_166 (by decide) (fun h71 => ?_) (fun h71 => ?_)
                          · replace hp := hp.1 h71
                            replace hF := hF.trans (if_pos h71)
                            refine j_iconst X (v := 0) d_Ma_obstacle_173 (by decide) ?_
                            exact j_iret X hr hk (by rw [hF]) rfl d_Ma_obstacle_174
                          · replace hp := hp.2 h71
                            replace hF := hF.trans (if_neg h71)
                            refine j_iconst X (v := 3) d_Ma_obstacle_169 (by decide) ?_
                            refine j_goto X (tgt := 174) d_Ma_obstacle_170 (by decide) ?_
                            exact j_iret X hr hk (by rw [hF]) rfl d_Ma_obstacle_174
                        · replace hp := hp.1 h66
                          replace hF := hF.trans (if_pos h66)
                          refine j_aload_n X d_Ma_obstacle_134 2 rfl ?_
                          refine j_get X fd_Ma_23_Ma 1 (by omega) x_Ma rfl d_Ma_obstacle_135 ?_
                          refine j_get X fd_Ma_60_St 4 (k_lt k_4 hn) (x_St k_4) rfl d_Ma_obstacle_138 ?_
                          refine j_aload_n X d_Ma_obstacle_141 2 rfl ?_
                          refine j_get X fd_Ma_42_Ma 1 (by omega) x_Ma rfl d_Ma_obstacle_142 ?_
                          refine j_icmp_lt X (tgt := 151) d_Ma_obstacle_145 (by decide) (fun h67 => ?_) (fun h67 => ?_)
                          · replace hp := hp.1 h67
                            replace hF := hF.trans (if_pos h67)
                            refine j_aload_n X d_Ma_obstacle_151 2 rfl ?_
                            refine j_get X fd_Ma_23_Ma 1 (by omega) x_Ma rfl d_Ma_obstacle_152 ?_
                            refine j_get X fd_Ma_63_St 4 (k_lt k_4 hn) (x_St k_4) rfl d_Ma_obstacle_155 ?_
                            refine j_gets X hZg mw_241 d_Ma_obstacle_158 ?_
                            refine j_iload_n X d_Ma_obstacle_161 1 rfl ?_
                            obtain ⟨o68, hp⟩ := hp
                            refine j_ti X hTg o68 d_Ma_obstacle_162 ?_
                            refine j_iadd X d_Ma_obstacle_163 ?_
                            refine j_bipush X (v := 24) d_Ma_obstacle_164 (by decide) ?_
                            refine j_icmp_le X (tgt := 173) d_Ma_obstacle_166 (by decide) (fun h69 => ?_) (fun h69 => ?_)
                            · replace hp := hp.1 h69
                              replace hF := hF.trans (if_pos h69)
                              refine j_iconst X (v := 0) d_Ma_obstacle_173 (by decide) ?_
                              exact j_iret X hr hk (by rw [hF]) rfl d_Ma_obstacle_174
                            · replace hp := hp.2 h69
                              replace hF := hF.trans (if_neg h69)
                              refine j_iconst X (v := 3) d_Ma_obstacle_169 (by decide) ?_
                              refine j_goto X (tgt := 174) d_Ma_obstacle_170 (by decide) ?_
                              exact j_iret X hr hk (by rw [hF]) rfl d_Ma_obstacle_174
                          · replace hp := hp.2 h67
                            replace hF := hF.trans (if_neg h67)
                            refine j_bipush X (v := 7) d_Ma_obstacle_148 (by decide) ?_
                            exact j_iret X hr hk (by rw [hF]) rfl d_Ma_obstacle_150
                      · replace hp := hp.2 h65
                        replace hF := hF.trans (if_neg h65)
                        refine j_bipush X (v := 6) d_Ma_obstacle_125 (by decide) ?_
                        exact j_iret X hr hk (by rw [hF]) rfl d_Ma_obstacle_127
              · replace hp := hp.1 h58
                replace hF := hF.trans (if_pos h58)
                refine j_iconst X (v := 4) d_Ma_obstacle_98 (by decide) ?_
                exact j_iret X hr hk (by rw [hF]) rfl d_Ma_obstacle_99
        · replace hp := hp.2 h11
          replace hF := hF.trans (if_neg h11)
          refine j_iconst X (v := 2) d_Ma_obstacle_71 (by decide) ?_
          exact j_iret X hr hk (by rw [hF]) rfl d_Ma_obstacle_72
      · replace hp := hp.1 h7
        replace hF := hF.trans (if_pos h7)
        refine j_iconst X (v := 1) d_Ma_obstacle_60 (by decide) ?_
        exact j_iret X hr hk (by rw [hF]) rfl d_Ma_obstacle_61
    · replace hp := hp.2 h6
      replace hF := hF.trans (if_neg h6)
      refine j_iconst X (v := 5) d_Ma_obstacle_54 (by decide) ?_
      exact j_iret X hr hk (by rw [hF]) rfl d_Ma_obstacle_55
  · replace hp := hp.1 h3
    replace hF := hF.trans (if_pos h3)
    refine j_iconst X (v := 4) d_Ma_obstacle_15 (by decide) ?_
    exact j_iret X hr hk (by rw [hF]) rfl d_Ma_obstacle_16
