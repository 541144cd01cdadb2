theorem ff_Ma_9 : px_Ff WS CLS "ReplayMachine$Machine" 9 1 0 (.array .int) := ⟨"ReplayMachine$Machine", "ReplayMachine$Machine", T_Ma, 6, t_Ma, rfl, in_Ma, by decide, mw_135, Or.inl rfl, ty_Ma, nm_Ma, rfl, rfl, by decide +kernel⟩
theorem ff_Ma_15 : px_Ff WS CLS "ReplayMachine$Machine" 15 1 1 (.array .int) := ⟨"ReplayMachine$Machine", "ReplayMachine$Machine", T_Ma, 6, t_Ma, rfl, in_Ma, by decide, mw_137, Or.inl rfl, ty_Ma, nm_Ma, rfl, rfl, by decide +kernel⟩
theorem ff_Ma_23 : px_Ff WS CLS "ReplayMachine$Machine" 23 1 2 (.object "ReplayMachine$State") := ⟨"ReplayMachine$Machine", "ReplayMachine$Machine", T_Ma, 6, t_Ma, rfl, in_Ma, by decide, mw_138, Or.inl rfl, ty_Ma, nm_Ma, rfl, rfl, by decide +kernel⟩
theorem ff_Ma_30 : px_Ff WS CLS "ReplayMachine$Machine" 30 1 3 (.object "ReplayMachine$Undo") := ⟨"ReplayMachine$Machine", "ReplayMachine$Machine", T_Ma, 6, t_Ma, rfl, in_Ma, by decide, mw_140, Or.inl rfl, ty_Ma, nm_Ma, rfl, rfl, by decide +kernel⟩
theorem ff_RM_14 : px_Ff WS CLS "ReplayMachine" 14 5 0 (.object "ReplayMachine$Machine") := ⟨"ReplayMachine", "ReplayMachine", T_RM, 6, t_RM, rfl, in_RM, by decide, mw_179, Or.inl rfl, ty_RM, nm_RM, rfl, rfl, by decide +kernel⟩
theorem ff_RM_21 : px_Ff WS CLS "ReplayMachine" 21 5 1 (.object "ReplayMachine$Checkpoints") := ⟨"ReplayMachine", "ReplayMachine", T_RM, 6, t_RM, rfl, in_RM, by decide, mw_180, Or.inl rfl, ty_RM, nm_RM, rfl, rfl, by decide +kernel⟩
theorem ff_RM_25 : px_Ff WS CLS "ReplayMachine" 25 5 2 (.array .boolean) := ⟨"ReplayMachine", "ReplayMachine", T_RM, 6, t_RM, rfl, in_RM, by decide, mw_181, Or.inl rfl, ty_RM, nm_RM, rfl, rfl, by decide +kernel⟩
theorem ff_RM_29 : px_Ff WS CLS "ReplayMachine" 29 5 3 (.array .boolean) := ⟨"ReplayMachine", "ReplayMachine", T_RM, 6, t_RM, rfl, in_RM, by decide, mw_182, Or.inl rfl, ty_RM, nm_RM, rfl, rfl, by decide +kernel⟩
theorem cU1_lo {aC : Nat → ClassId} {c c0 : Nat → va_E} {x : Int32} {j : Nat} {ad : Nat → Nat} (h : j < 6) : cU1 aC c c0 x ad j = c j := by unfold cU1; rw [if_pos h]
theorem cU1_hi {aC : Nat → ClassId} {c c0 : Nat → va_E} {x : Int32} {j : Nat} {ad : Nat → Nat} (h : 6 ≤ j) : cU1 aC c c0 x ad j = xe aC ad (S0 x) c0 j := by unfold cU1; rw [if_neg (by omega)]
theorem cC1_lo {aC : Nat → ClassId} {c c0 : Nat → va_E} {x : Int32} {j : Nat} {ad : Nat → Nat} (h : j < 104) : cC1 aC c c0 x ad j = c j := by unfold cC1; rw [if_pos h]
theorem cC1_hi {aC : Nat → ClassId} {c c0 : Nat → va_E} {x : Int32} {j : Nat} {ad : Nat → Nat} (h : 104 ≤ j) : cC1 aC c c0 x ad j = xe aC ad (S0 x) c0 j := by unfold cC1; rw [if_neg (by omega)]
abbrev bMa : va_E := .inr (1, [.null, .null, .null, .null, .int 0, .null])
def cM1 (aC : Nat → ClassId) (c c0 : Nat → va_E) (x : Int32) (ad : Nat → Nat) : Nat → va_E := fun j => if j = 0 then c j else xe aC ad (S0 x) c0 j
theorem cM1_0 {aC : Nat → ClassId} {c c0 : Nat → va_E} {x : Int32} {ad : Nat → Nat} : cM1 aC c c0 x ad 0 = c 0 := by unfold cM1; rw [if_pos rfl]
abbrev rm_Ma_init : Room := { frames := 4, cells := 102, slots := 651, locals := 100 }
set_option maxHeartbeats 4000000 in
set_option maxRecDepth 100000 in
theorem c_Ma_init (l : Launch) (D : va_G) (aC : Nat → ClassId) (ad : Nat → Nat) (c c0 : Nat → va_E) (x : Int32) (h0 : c 1 = bMa) : px_N l y_Ma_init (Cond.code y_Ma_init b_Ma_init 2 none :: WS) rm_Ma_init GC D CLS (TYS aC) [.ref (ad 1), .int x] ad c 2 102 102 651 (cM1 aC c c0 x) := by
  refine px_startN GC_k (by decide) (Nat.le_of_ble_eq_true rfl) rfl ?_
  intro p e s m args below meth cd X hr hk hmn
  refine j_L (L' := [(0, .ref (ad 1)), (1, .int x)]) rfl ?_
  refine j_aload_n X d_Ma_init_0 0 rfl ?_
  refine j_objInit X mw_30 mw_23 mw_24 d_Ma_init_1 (by decide) (Nat.le_of_ble_eq_true rfl) ?_
  refine j_aload_n X d_Ma_init_4 0 rfl ?_
  refine j_bipush X (v := 64) d_Ma_init_5 (by decide) ?_
  refine j_newa (atype := .int) (a0 := (64, .inl (fun _ => 0))) X 0 rfl mw_92 rfl (fun _ => rfl) (by decide) rfl (by decide) (by decide) (by decide) d_Ma_init_7 (fun ad1 ha1 X1 => ?_)
  refine j_st (st' := [.ref (ad1 2), .ref (ad1 1)]) (by rw [ha1 1 (by decide)]) ?_
  refine j_putF X1 hmn ff_Ma_9 1 (by decide) ((up_ne (by decide)).trans h0) (Nat.le_of_ble_eq_true rfl) rfl rfl d_Ma_init_9 ?_
  refine j_aload_n X1 d_Ma_init_12 0 rfl ?_
  refine j_bipush X1 (v := 40) d_Ma_init_13 (by decide) ?_
  refine j_newa (atype := .int) (a0 := (40, .inl (fun _ => 0))) X1 0 rfl mw_92 rfl (fun _ => rfl) (by decide) rfl (by decide) (by decide) (by decide) d_Ma_init_15 (fun ad2 ha2 X2 => ?_)
  have q2 : ∀ q, q < 2 → ad2 q = ad q := fun q h => (ha2 q (by omega)).trans (ha1 q h)
  refine j_st (st' := [.ref (ad2 3), .ref (ad2 1)]) (by rw [q2 1 (by decide)]) ?_
  refine j_putF X2 hmn ff_Ma_15 1 (by decide) ((up_ne (by decide)).trans up_self) (Nat.le_of_ble_eq_true rfl) rfl rfl d_Ma_init_17 ?_
  refine j_aload_n X2 d_Ma_init_20 0 rfl ?_
  refine j_new (ci := 3) (fs := [.int 0, .int 0, .int 0, .int 0, .int 0, .int 0, .int 0, .null]) X2 t_St in_St ty_St mw_31 mw_32 mw_4 rfl (by decide +kernel) (by decide) (by decide) d_Ma_init_21 (fun ad3 ha3 X3 => ?_)
  refine j_dup X3 d_Ma_init_24 rfl ?_
  refine j_iload_n X3 d_Ma_init_25 1 rfl ?_
  refine j_init (st := [.ref (ad3 4), .ref (ad 1)]) X3 hY_St_init (c_St_init l D aC ad3 4 _ x up_self) mw_33 hI_St_init rfl rfl rfl (Nat.le_of_ble_eq_true rfl) d_Ma_init_26 rfl rfl ⟨by decide, by decide⟩ ⟨by decide, by decide⟩ (fun ad4 ha4 X4 => ?_)
  have q4 : ∀ q, q < 2 → ad4 q = ad q := fun q h => (ha4 q (by omega)).trans ((ha3 q (by omega)).trans (q2 q h))
  refine j_st (st' := [.ref (ad4 4), .ref (ad4 1)]) (by rw [ha4 4 (by decide), q4 1 (by decide)]) ?_
  refine j_putF X4 hmn ff_Ma_23 1 (by decide) ((up_ne (by decide)).trans ((up_ne (by decide)).trans ((up_ne (by decide)).trans up_self))) (Nat.le_of_ble_eq_true rfl) rfl rfl d_Ma_init_29 ?_
  refine j_aload_n X4 d_Ma_init_32 0 rfl ?_
  refine j_new (ci := 4) (fs := [.null, .int 0, .int 0]) X4 t_Un in_Un ty_Un mw_93 mw_94 mw_5 rfl (by decide +kernel) (by decide) (by decide) d_Ma_init_33 (fun ad5 ha5 X5 => ?_)
  refine j_dup X5 d_Ma_init_36 rfl ?_
  refine j_init (st := [.ref (ad5 6), .ref (ad 1)]) X5 hY_Un_init (c_Un_init l D aC ad5 _ c0 x up_self) mw_95 hI_Un_init rfl rfl rfl (Nat.le_of_ble_eq_true rfl) d_Ma_init_37 rfl rfl ⟨by decide, by decide⟩ ⟨by decide, by decide⟩ (fun ad6 ha6 X6 => ?_)
  have q6 : ∀ q, q < 2 → ad6 q = ad q := fun q h => (ha6 q (by omega)).trans ((ha5 q (by omega)).trans (q4 q h))
  refine j_st (st' := [.ref (ad6 6), .ref (ad6 1)]) (by rw [ha6 6 (by decide), q6 1 (by decide)]) ?_
  refine j_putF X6 hmn ff_Ma_30 1 (by decide) ((cU1_lo (by decide)).trans ((up_ne (by decide)).trans up_self)) (Nat.le_of_ble_eq_true rfl) rfl rfl d_Ma_init_40 ?_
  refine j_aload_n X6 d_Ma_init_43 0 rfl ?_
  refine j_aload_n X6 d_Ma_init_44 0 rfl ?_
  refine j_st (st' := [.ref (ad6 1), .ref (ad6 1)]) (by rw [q6 1 (by decide)]) ?_
  refine j_get X6 fd_Ma_30_Ma 1 (by decide) up_self rfl d_Ma_init_45 ?_
  refine j_get X6 fd_Ma_34_Un 6 (by decide) ((up_ne (by decide)).trans ((cU1_hi (by decide)).trans x_Un)) rfl d_Ma_init_48 ?_
  refine j_iconst X6 (v := 0) d_Ma_init_51 (by decide) ?_
  refine j_aald (C := "ReplayMachine$Note") X6 7 2 (by decide) ((up_ne (by decide)).trans ((cU1_hi (by decide)).trans x_notes)) rfl (by unfold vp_in; decide) d_Ma_init_52 ?_
  refine j_st (st' := [.ref (ad6 (iN 0)), .ref (ad6 1)]) rfl ?_
  refine j_put X6 fp_Ma_38_Ma 1 (by decide) up_self (Nat.le_of_ble_eq_true rfl) rfl rfl d_Ma_init_53 ?_
  refine j_vretN X6 hr hk rfl q6 (fun j hj => ?_) (by decide) (by decide) d_Ma_init_56
  have hj : j < 104 := hj
  have q5 : ∀ q, q < 6 → ad6 q = ad4 q := fun q h => (ha6 q (by omega)).trans (ha5 q h)
  by_cases h0 : j = 0
  · subst h0
    rw [up_ne (by decide), up_ne (by decide), cU1_lo (by decide), up_ne (by decide), up_ne (by decide), up_ne (by decide), up_ne (by decide), up_ne (by decide), up_ne (by decide), up_ne (by decide), up_ne (by decide), up_ne (by decide)]
    rfl
  · unfold cM1
    rw [if_neg h0]
    by_cases h1 : j = 1
    · subst h1
      rw [up_self, x_Ma, q5 2 (by decide), q5 3 (by decide), q5 4 (by decide), ha4 2 (by decide), ha3 2 (by decide), ha2 2 (by decide), ha4 3 (by decide), ha3 3 (by decide)]
      rfl
    · rw [up_ne h1, up_ne h1]
      by_cases h6 : 6 ≤ j
      · rw [cU1_hi h6]
      · rw [cU1_lo (by omega), up_ne (by omega), up_ne h1]
        by_cases h5 : j = 5
        · subst h5
          rw [up_self]
          exact (x_mem (ad := ad6) (S := S0 x) (c0 := c0) k_4).symm
        · rw [up_ne h5]
          by_cases h4 : j = 4
          · subst h4
            rw [up_self, x_St k_4, q5 5 (by decide)]
            rfl
          · rw [up_ne h4, up_ne h4, up_ne h1]
            by_cases h3 : j = 3
            · subst h3
              rw [up_self]
              exact (x_inp (ad := ad6) (S := S0 x) (c0 := c0)).symm
            · rw [up_ne h3, up_ne h1]
              have h2 : j = 2 := by omega
              subst h2
              rw [up_self]
              exact (x_code (ad := ad6) (S := S0 x) (c0 := c0)).symm
abbrev bRM : va_E := .inr (5, [.null, .null, .null, .null, .int 0, .int 0])
abbrev rm_RM_init : Room := { frames := 5, cells := 123, slots := 1276, locals := 130 }
set_option maxHeartbeats 4000000 in
set_option maxRecDepth 100000 in
theorem c_RM_init (l : Launch) (D : va_G) (aC : Nat → ClassId) (ad : Nat → Nat) (c c0 : Nat → va_E) (x : Int32) (h0 : c 0 = bRM) : px_N l y_RM_init (Cond.code y_RM_init b_RM_init 2 none :: WS) rm_RM_init GC D CLS (TYS aC) [.ref (ad 0), .int x] ad c 1 123 123 1276 (fun ad' => xe aC ad' (S0 x) c0) := by
  refine px_startN GC_k (by decide) (Nat.le_of_ble_eq_true rfl) rfl ?_
  intro p e s m args below meth cd X hr hk hmn
  refine j_L (L' := [(0, .ref (ad 0)), (1, .int x)]) rfl ?_
  refine j_aload_n X d_RM_init_0 0 rfl ?_
  refine j_objInit X mw_22 mw_23 mw_24 d_RM_init_1 (by decide) (Nat.le_of_ble_eq_true rfl) ?_
  refine j_aload_n X d_RM_init_4 0 rfl ?_
  refine j_new (ci := 1) (fs := [.null, .null, .null, .null, .int 0, .null]) X t_Ma in_Ma ty_Ma mw_25 mw_26 mw_2 rfl (by decide +kernel) (by decide) (by decide) d_RM_init_5 (fun ad1 ha1 X1 => ?_)
  refine j_dup X1 d_RM_init_8 rfl ?_
  refine j_iload_n X1 d_RM_init_9 1 rfl ?_
  refine j_init (st := [.ref (ad1 1), .ref (ad 0)]) X1 hY_Ma_init (c_Ma_init l D aC ad1 _ c0 x up_self) mw_27 hI_Ma_init rfl rfl rfl (Nat.le_of_ble_eq_true rfl) d_RM_init_10 rfl rfl ⟨by decide, by decide⟩ ⟨by decide, by decide⟩ (fun ad2 ha2 X2 => ?_)
  have q2 : ad2 0 = ad 0 := (ha2 0 (by decide)).trans (ha1 0 (by decide))
  refine j_st (st' := [.ref (ad2 1), .ref (ad2 0)]) (by rw [ha2 1 (by decide), q2]) ?_
  refine j_putF X2 hmn ff_RM_14 0 (by decide) (cM1_0.trans ((up_ne (by decide)).trans h0)) (Nat.le_of_ble_eq_true rfl) rfl rfl d_RM_init_13 ?_
  refine j_aload_n X2 d_RM_init_16 0 rfl ?_
  refine j_new (ci := 0) (fs := [.null, .int 0, .int 0]) X2 t_Cp in_Cp ty_Cp mw_157 mw_158 mw_7 rfl (by decide +kernel) (by decide) (by decide) d_RM_init_17 (fun ad3 ha3 X3 => ?_)
  refine j_dup X3 d_RM_init_20 rfl ?_
  refine j_iload_n X3 d_RM_init_21 1 rfl ?_
  refine j_init (st := [.ref (ad3 104), .ref (ad 0)]) X3 hY_Cp_init (c_Cp_init l D aC ad3 _ c0 x up_self) mw_159 hI_Cp_init rfl rfl rfl (Nat.le_of_ble_eq_true rfl) d_RM_init_22 rfl rfl ⟨by decide, by decide⟩ ⟨by decide, by decide⟩ (fun ad4 ha4 X4 => ?_)
  have q4 : ∀ q, q < 104 → ad4 q = ad2 q := fun q h => (ha4 q (by omega)).trans (ha3 q h)
  refine j_st (st' := [.ref (ad4 104), .ref (ad4 0)]) (by rw [ha4 104 (by decide), q4 0 (by decide), q2]) ?_
  refine j_putF X4 hmn ff_RM_21 0 (by decide) ((cC1_lo (by decide)).trans ((up_ne (by decide)).trans up_self)) (Nat.le_of_ble_eq_true rfl) rfl rfl d_RM_init_25 ?_
  refine j_aload_n X4 d_RM_init_28 0 rfl ?_
  refine j_bipush X4 (v := 64) d_RM_init_29 (by decide) ?_
  refine j_newa (atype := .boolean) (a0 := (64, .inl (fun _ => 0))) X4 1 rfl mw_198 rfl (fun _ => rfl) (by decide) rfl (by decide) (by decide) (by decide) d_RM_init_31 (fun ad5 ha5 X5 => ?_)
  refine j_st (st' := [.ref (ad5 122), .ref (ad5 0)]) (by rw [ha5 0 (by decide), q4 0 (by decide), q2]) ?_
  refine j_putF X5 hmn ff_RM_25 0 (by decide) ((up_ne (by decide)).trans up_self) (Nat.le_of_ble_eq_true rfl) rfl rfl d_RM_init_33 ?_
  refine j_aload_n X5 d_RM_init_36 0 rfl ?_
  refine j_bipush X5 (v := 32) d_RM_init_37 (by decide) ?_
  refine j_newa (atype := .boolean) (a0 := (32, .inl (fun _ => 0))) X5 1 rfl mw_198 rfl (fun _ => rfl) (by decide) rfl (by decide) (by decide) (by decide) d_RM_init_39 (fun ad6 ha6 X6 => ?_)
  have q6 : ∀ q, q < 122 → ad6 q = ad4 q := fun q h => (ha6 q (by omega)).trans (ha5 q h)
  have q60 : ad6 0 = ad 0 := by rw [q6 0 (by decide), q4 0 (by decide), q2]
  refine j_st (st' := [.ref (ad6 123), .ref (ad6 0)]) (by rw [q60]) ?_
  refine j_putF X6 hmn ff_RM_29 0 (by decide) ((up_ne (by decide)).trans up_self) (Nat.le_of_ble_eq_true rfl) rfl rfl d_RM_init_41 ?_
  refine j_vretN X6 hr hk rfl (fun i hi => by have : i = 0 := by omega
                                              subst this; exact q60) (fun j hj => ?_) (by decide) (by decide) d_RM_init_44
  have hj : j < 124 := hj
  by_cases h0 : j = 0
  · subst h0
    rw [up_self, x_RM, q6 1 (by decide), q4 1 (by decide), q6 104 (by decide), ha6 122 (by decide)]
    rfl
  · rw [up_ne h0]
    by_cases h3 : j = 123
    · subst h3
      rw [up_self]
      exact (x_wat (ad := ad6) (S := S0 x) (c0 := c0)).symm
    · rw [up_ne h3, up_ne h0]
      by_cases h2 : j = 122
      · subst h2
        rw [up_self]
        exact (x_brk (ad := ad6) (S := S0 x) (c0 := c0)).symm
      · rw [up_ne h2, up_ne h0]
        by_cases h4 : 104 ≤ j
        · rw [cC1_hi h4]
          exact xe_ad 122 (by decide) q6 (by omega) (by omega) (by omega) (by omega) (by omega) (fun h => by unfold kSt at h; omega) (fun h => by unfold kNt at h; omega) (by omega) (by omega)
        · rw [cC1_lo (by omega), up_ne (by omega), up_ne h0]
          unfold cM1
          rw [if_neg h0]
          exact xe_ad 104 (by decide) (fun q h => (q6 q (by omega)).trans (q4 q h)) (by omega) (by omega) (by omega) (by omega) (by omega) (fun h => by unfold kSt at h; omega) (fun h => by unfold kNt at h; omega) (by omega) (by omega)
