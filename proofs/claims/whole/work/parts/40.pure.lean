def f_RM_within (i : Int32) (k : Int32) : Int32 := if i < 0 then 0 else if k ≤ i then 0 else 1
abbrev rm_RM_within : Room := { frames := 0, cells := 0, slots := 0, locals := 0 }
set_option maxHeartbeats 4000000 in
set_option maxRecDepth 100000 in
theorem c_RM_within (l : Launch) (i : Int32) (k : Int32)  : px_P l y_RM_within (Cond.code y_RM_within b_RM_within 2 (some .boolean) :: WS) rm_RM_within [.int i, .int k] (some (.int (f_RM_within i k))) := by
  obtain ⟨F, hF⟩ : ∃ F, F = f_RM_within i k := ⟨_, rfl⟩
  rw [← hF]
  unfold f_RM_within at hF
  refine px_startP (by decide) (Nat.le_of_ble_eq_true rfl) ?_
  intro p e s m args below meth cd X hr hk
  refine z_L (L' := [(0, .int i), (1, .int k)]) rfl ?_
  refine z_iload_n X d_RM_within_0 0 rfl ?_
  refine z_if_lt X (tgt := 13) d_RM_within_1 (by decide) (fun h1 => ?_) (fun h1 => ?_)
  · skip
    replace hF := hF.trans (if_pos h1)
    refine z_iconst X (v := 0) d_RM_within_13 (by decide) ?_
    exact z_zret X hr hk rfl (by rw [hF]) d_RM_within_14
  · skip
    replace hF := hF.trans (if_neg h1)
    refine z_iload_n X d_RM_within_4 0 rfl ?_
    refine z_iload_n X d_RM_within_5 1 rfl ?_
    refine z_icmp_ge X (tgt := 13) d_RM_within_6 (by decide) (fun h2 => ?_) (fun h2 => ?_)
    · skip
      replace hF := hF.trans (if_pos h2)
      refine z_iconst X (v := 0) d_RM_within_13 (by decide) ?_
      exact z_zret X hr hk rfl (by rw [hF]) d_RM_within_14
    · skip
      replace hF := hF.trans (if_neg h2)
      refine z_iconst X (v := 1) d_RM_within_9 (by decide) ?_
      refine z_goto X (tgt := 14) d_RM_within_10 (by decide) ?_
      exact z_zret X hr hk rfl (by rw [hF]) d_RM_within_14
def f_RM_isFuel (i : Int32) : Int32 := if i < 0 then 0 else if 1000 < i then 0 else 1
abbrev rm_RM_isFuel : Room := { frames := 0, cells := 0, slots := 0, locals := 0 }
set_option maxHeartbeats 4000000 in
set_option maxRecDepth 100000 in
theorem c_RM_isFuel (l : Launch) (i : Int32)  : px_P l y_RM_isFuel (Cond.code y_RM_isFuel b_RM_isFuel 1 (some .boolean) :: WS) rm_RM_isFuel [.int i] (some (.int (f_RM_isFuel i))) := by
  obtain ⟨F, hF⟩ : ∃ F, F = f_RM_isFuel i := ⟨_, rfl⟩
  rw [← hF]
  unfold f_RM_isFuel at hF
  refine px_startP (by decide) (Nat.le_of_ble_eq_true rfl) ?_
  intro p e s m args below meth cd X hr hk
  refine z_L (L' := [(0, .int i)]) rfl ?_
  refine z_iload_n X d_RM_isFuel_0 0 rfl ?_
  refine z_if_lt X (tgt := 15) d_RM_isFuel_1 (by decide) (fun h1 => ?_) (fun h1 => ?_)
  · skip
    replace hF := hF.trans (if_pos h1)
    refine z_iconst X (v := 0) d_RM_isFuel_15 (by decide) ?_
    exact z_zret X hr hk rfl (by rw [hF]) d_RM_isFuel_16
  · skip
    replace hF := hF.trans (if_neg h1)
    refine z_iload_n X d_RM_isFuel_4 0 rfl ?_
    refine z_sipush X (v := 1000) d_RM_isFuel_5 (by decide) ?_
    refine z_icmp_gt X (tgt := 15) d_RM_isFuel_8 (by decide) (fun h2 => ?_) (fun h2 => ?_)
    · skip
      replace hF := hF.trans (if_pos h2)
      refine z_iconst X (v := 0) d_RM_isFuel_15 (by decide) ?_
      exact z_zret X hr hk rfl (by rw [hF]) d_RM_isFuel_16
    · skip
      replace hF := hF.trans (if_neg h2)
      refine z_iconst X (v := 1) d_RM_isFuel_11 (by decide) ?_
      refine z_goto X (tgt := 16) d_RM_isFuel_12 (by decide) ?_
      exact z_zret X hr hk rfl (by rw [hF]) d_RM_isFuel_16
def f_Ma_result (o : Int32) (a : Int32) (b : Int32) : Int32 := if o = 5 then a + b else if o = 6 then a - b else if o = 7 then a * b else if o = 8 then if b = 0 then 0 else a / b else if b ≤ a then 0 else 1
def p_Ma_result (o : Int32) (a : Int32) (b : Int32) : Prop := (o = 5 → True) ∧ (¬ o = 5 → (o = 6 → True) ∧ (¬ o = 6 → (o = 7 → True) ∧ (¬ o = 7 → (o = 8 → (b = 0 → True) ∧ (¬ b = 0 → (¬ b = 0) ∧ (True))) ∧ (¬ o = 8 → (b ≤ a → True) ∧ (¬ b ≤ a → True)))))
abbrev rm_Ma_result : Room := { frames := 0, cells := 0, slots := 0, locals := 0 }
set_option maxHeartbeats 4000000 in
set_option maxRecDepth 100000 in
theorem c_Ma_result (l : Launch) (o : Int32) (a : Int32) (b : Int32) (hp : p_Ma_result o a b) : px_P l y_Ma_result (Cond.code y_Ma_result b_Ma_result 3 (some .int) :: WS) rm_Ma_result [.int o, .int a, .int b] (some (.int (f_Ma_result o a b))) := by
  obtain ⟨F, hF⟩ : ∃ F, F = f_Ma_result o a b := ⟨_, rfl⟩
  rw [← hF]
  unfold f_Ma_result at hF
  refine px_startP (by decide) (Nat.le_of_ble_eq_true rfl) ?_
  intro p e s m args below meth cd X hr hk
  refine z_L (L' := [(0, .int o), (1, .int a), (2, .int b)]) rfl ?_
  unfold p_Ma_result at hp
  refine z_iload_n X d_Ma_result_0 0 rfl ?_
  by_cases h1 : o = 5
  · replace hp := hp.1 h1
    replace hF := hF.trans (if_pos h1)
    refine z_tableIn X (tgt := 32) d_Ma_result_1 (by rw [h1]; decide) (by rw [h1]; decide) (by rw [h1]; rfl) (by decide) ?_
    refine z_iload_n X d_Ma_result_32 1 rfl ?_
    refine z_iload_n X d_Ma_result_33 2 rfl ?_
    refine z_iadd X d_Ma_result_34 ?_
    exact z_iret X hr hk (by rw [hF]) d_Ma_result_35
  replace hp := hp.2 h1
  replace hF := hF.trans (if_neg h1)
  by_cases h2 : o = 6
  · replace hp := hp.1 h2
    replace hF := hF.trans (if_pos h2)
    refine z_tableIn X (tgt := 36) d_Ma_result_1 (by rw [h2]; decide) (by rw [h2]; decide) (by rw [h2]; rfl) (by decide) ?_
    refine z_iload_n X d_Ma_result_36 1 rfl ?_
    refine z_iload_n X d_Ma_result_37 2 rfl ?_
    refine z_isub X d_Ma_result_38 ?_
    exact z_iret X hr hk (by rw [hF]) d_Ma_result_39
  replace hp := hp.2 h2
  replace hF := hF.trans (if_neg h2)
  by_cases h3 : o = 7
  · replace hp := hp.1 h3
    replace hF := hF.trans (if_pos h3)
    refine z_tableIn X (tgt := 40) d_Ma_result_1 (by rw [h3]; decide) (by rw [h3]; decide) (by rw [h3]; rfl) (by decide) ?_
    refine z_iload_n X d_Ma_result_40 1 rfl ?_
    refine z_iload_n X d_Ma_result_41 2 rfl ?_
    refine z_imul X d_Ma_result_42 ?_
    exact z_iret X hr hk (by rw [hF]) d_Ma_result_43
  replace hp := hp.2 h3
  replace hF := hF.trans (if_neg h3)
  by_cases h4 : o = 8
  · replace hp := hp.1 h4
    replace hF := hF.trans (if_pos h4)
    refine z_tableIn X (tgt := 44) d_Ma_result_1 (by rw [h4]; decide) (by rw [h4]; decide) (by rw [h4]; rfl) (by decide) ?_
    refine z_iload_n X d_Ma_result_44 2 rfl ?_
    refine z_if_ne X (tgt := 52) d_Ma_result_45 (by decide) (fun h5 => ?_) (fun h5 => ?_)
    · replace hp := hp.2 h5
      replace hF := hF.trans (if_neg h5)
      refine z_iload_n X d_Ma_result_52 1 rfl ?_
      refine z_iload_n X d_Ma_result_53 2 rfl ?_
      obtain ⟨o6, hp⟩ := hp
      refine z_idiv X d_Ma_result_54 o6 ?_
      exact z_iret X hr hk (by rw [hF]) d_Ma_result_55
    · replace hp := hp.1 h5
      replace hF := hF.trans (if_pos h5)
      refine z_iconst X (v := 0) d_Ma_result_48 (by decide) ?_
      refine z_goto X (tgt := 55) d_Ma_result_49 (by decide) ?_
      exact z_iret X hr hk (by rw [hF]) d_Ma_result_55
  replace hp := hp.2 h4
  replace hF := hF.trans (if_neg h4)
  refine z_tableOut X (tgt := 56) d_Ma_result_1 (by have := True.intro; have q0 := lv_neT h1 (a := 5) (by decide); have q1 := lv_neT h2 (a := 6) (by decide); have q2 := lv_neT h3 (a := 7) (by decide); have q3 := lv_neT h4 (a := 8) (by decide); omega) (by decide) ?_
  refine z_iload_n X d_Ma_result_56 1 rfl ?_
  refine z_iload_n X d_Ma_result_57 2 rfl ?_
  refine z_icmp_ge X (tgt := 65) d_Ma_result_58 (by decide) (fun h7 => ?_) (fun h7 => ?_)
  · replace hp := hp.1 h7
    replace hF := hF.trans (if_pos h7)
    refine z_iconst X (v := 0) d_Ma_result_65 (by decide) ?_
    exact z_iret X hr hk (by rw [hF]) d_Ma_result_66
  · replace hp := hp.2 h7
    replace hF := hF.trans (if_neg h7)
    refine z_iconst X (v := 1) d_Ma_result_61 (by decide) ?_
    refine z_goto X (tgt := 66) d_Ma_result_62 (by decide) ?_
    exact z_iret X hr hk (by rw [hF]) d_Ma_result_66
