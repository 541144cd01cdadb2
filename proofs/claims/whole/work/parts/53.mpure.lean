def f_Mo_needs (o : Int32) : Int32 := if o = 2 then 1 else if o = 3 then 1 else if o = 4 then 2 else if o = 5 then 2 else if o = 6 then 2 else if o = 7 then 2 else if o = 8 then 2 else if o = 9 then 2 else if o = 10 then 1 else if o = 11 then 2 else if o = 12 then 0 else if o = 13 then 1 else if o = 14 then 1 else if o = 15 then 0 else if o = 16 then 1 else 0
abbrev rm_Mo_needs : Room := { frames := 0, cells := 0, slots := 0, locals := 0 }
set_option maxHeartbeats 4000000 in
set_option maxRecDepth 100000 in
theorem c_Mo_needs (l : Launch) (o : Int32)  : px_P l y_Mo_needs (Cond.code y_Mo_needs b_Mo_needs 1 (some .int) :: WS) rm_Mo_needs [.int o] (some (.int (f_Mo_needs o))) := by
  obtain ⟨F, hF⟩ : ∃ F, F = f_Mo_needs o := ⟨_, rfl⟩
  rw [← hF]
  unfold f_Mo_needs at hF
  refine px_startP (by decide) (Nat.le_of_ble_eq_true rfl) ?_
  intro p e s m args below meth cd X hr hk
  refine z_L (L' := [(0, .int o)]) rfl ?_
  refine z_iload_n X d_Mo_needs_0 0 rfl ?_
  by_cases h1 : o = 2
  · skip
    replace hF := hF.trans (if_pos h1)
    refine z_tableIn X (tgt := 76) d_Mo_needs_1 (by rw [h1]; decide) (by rw [h1]; decide) (by rw [h1]; rfl) (by decide) ?_
    refine z_iconst X (v := 1) d_Mo_needs_76 (by decide) ?_
    exact z_iret X hr hk (by rw [hF]) d_Mo_needs_77
  skip
  replace hF := hF.trans (if_neg h1)
  by_cases h2 : o = 3
  · skip
    replace hF := hF.trans (if_pos h2)
    refine z_tableIn X (tgt := 76) d_Mo_needs_1 (by rw [h2]; decide) (by rw [h2]; decide) (by rw [h2]; rfl) (by decide) ?_
    refine z_iconst X (v := 1) d_Mo_needs_76 (by decide) ?_
    exact z_iret X hr hk (by rw [hF]) d_Mo_needs_77
  skip
  replace hF := hF.trans (if_neg h2)
  by_cases h3 : o = 4
  · skip
    replace hF := hF.trans (if_pos h3)
    refine z_tableIn X (tgt := 78) d_Mo_needs_1 (by rw [h3]; decide) (by rw [h3]; decide) (by rw [h3]; rfl) (by decide) ?_
    refine z_iconst X (v := 2) d_Mo_needs_78 (by decide) ?_
    exact z_iret X hr hk (by rw [hF]) d_Mo_needs_79
  skip
  replace hF := hF.trans (if_neg h3)
  by_cases h4 : o = 5
  · skip
    replace hF := hF.trans (if_pos h4)
    refine z_tableIn X (tgt := 78) d_Mo_needs_1 (by rw [h4]; decide) (by rw [h4]; decide) (by rw [h4]; rfl) (by decide) ?_
    refine z_iconst X (v := 2) d_Mo_needs_78 (by decide) ?_
    exact z_iret X hr hk (by rw [hF]) d_Mo_needs_79
  skip
  replace hF := hF.trans (if_neg h4)
  by_cases h5 : o = 6
  · skip
    replace hF := hF.trans (if_pos h5)
    refine z_tableIn X (tgt := 78) d_Mo_needs_1 (by rw [h5]; decide) (by rw [h5]; decide) (by rw [h5]; rfl) (by decide) ?_
    refine z_iconst X (v := 2) d_Mo_needs_78 (by decide) ?_
    exact z_iret X hr hk (by rw [hF]) d_Mo_needs_79
  skip
  replace hF := hF.trans (if_neg h5)
  by_cases h6 : o = 7
  · skip
    replace hF := hF.trans (if_pos h6)
    refine z_tableIn X (tgt := 78) d_Mo_needs_1 (by rw [h6]; decide) (by rw [h6]; decide) (by rw [h6]; rfl) (by decide) ?_
    refine z_iconst X (v := 2) d_Mo_needs_78 (by decide) ?_
    exact z_iret X hr hk (by rw [hF]) d_Mo_needs_79
  skip
  replace hF := hF.trans (if_neg h6)
  by_cases h7 : o = 8
  · skip
    replace hF := hF.trans (if_pos h7)
    refine z_tableIn X (tgt := 78) d_Mo_needs_1 (by rw [h7]; decide) (by rw [h7]; decide) (by rw [h7]; rfl) (by decide) ?_
    refine z_iconst X (v := 2) d_Mo_needs_78 (by decide) ?_
    exact z_iret X hr hk (by rw [hF]) d_Mo_needs_79
  skip
  replace hF := hF.trans (if_neg h7)
  by_cases h8 : o = 9
  · skip
    replace hF := hF.trans (if_pos h8)
    refine z_tableIn X (tgt := 78) d_Mo_needs_1 (by rw [h8]; decide) (by rw [h8]; decide) (by rw [h8]; rfl) (by decide) ?_
    refine z_iconst X (v := 2) d_Mo_needs_78 (by decide) ?_
    exact z_iret X hr hk (by rw [hF]) d_Mo_needs_79
  skip
  replace hF := hF.trans (if_neg h8)
  by_cases h9 : o = 10
  · skip
    replace hF := hF.trans (if_pos h9)
    refine z_tableIn X (tgt := 76) d_Mo_needs_1 (by rw [h9]; decide) (by rw [h9]; decide) (by rw [h9]; rfl) (by decide) ?_
    refine z_iconst X (v := 1) d_Mo_needs_76 (by decide) ?_
    exact z_iret X hr hk (by rw [hF]) d_Mo_needs_77
  skip
  replace hF := hF.trans (if_neg h9)
  by_cases h10 : o = 11
  · skip
    replace hF := hF.trans (if_pos h10)
    refine z_tableIn X (tgt := 78) d_Mo_needs_1 (by rw [h10]; decide) (by rw [h10]; decide) (by rw [h10]; rfl) (by decide) ?_
    refine z_iconst X (v := 2) d_Mo_needs_78 (by decide) ?_
    exact z_iret X hr hk (by rw [hF]) d_Mo_needs_79
  skip
  replace hF := hF.trans (if_neg h10)
  by_cases h11 : o = 12
  · skip
    replace hF := hF.trans (if_pos h11)
    refine z_tableIn X (tgt := 80) d_Mo_needs_1 (by rw [h11]; decide) (by rw [h11]; decide) (by rw [h11]; rfl) (by decide) ?_
    refine z_iconst X (v := 0) d_Mo_needs_80 (by decide) ?_
    exact z_iret X hr hk (by rw [hF]) d_Mo_needs_81
  skip
  replace hF := hF.trans (if_neg h11)
  by_cases h12 : o = 13
  · skip
    replace hF := hF.trans (if_pos h12)
    refine z_tableIn X (tgt := 76) d_Mo_needs_1 (by rw [h12]; decide) (by rw [h12]; decide) (by rw [h12]; rfl) (by decide) ?_
    refine z_iconst X (v := 1) d_Mo_needs_76 (by decide) ?_
    exact z_iret X hr hk (by rw [hF]) d_Mo_needs_77
  skip
  replace hF := hF.trans (if_neg h12)
  by_cases h13 : o = 14
  · skip
    replace hF := hF.trans (if_pos h13)
    refine z_tableIn X (tgt := 76) d_Mo_needs_1 (by rw [h13]; decide) (by rw [h13]; decide) (by rw [h13]; rfl) (by decide) ?_
    refine z_iconst X (v := 1) d_Mo_needs_76 (by decide) ?_
    exact z_iret X hr hk (by rw [hF]) d_Mo_needs_77
  skip
  replace hF := hF.trans (if_neg h13)
  by_cases h14 : o = 15
  · skip
    replace hF := hF.trans (if_pos h14)
    refine z_tableIn X (tgt := 80) d_Mo_needs_1 (by rw [h14]; decide) (by rw [h14]; decide) (by rw [h14]; rfl) (by decide) ?_
    refine z_iconst X (v := 0) d_Mo_needs_80 (by decide) ?_
    exact z_iret X hr hk (by rw [hF]) d_Mo_needs_81
  skip
  replace hF := hF.trans (if_neg h14)
  by_cases h15 : o = 16
  · skip
    replace hF := hF.trans (if_pos h15)
    refine z_tableIn X (tgt := 76) d_Mo_needs_1 (by rw [h15]; decide) (by rw [h15]; decide) (by rw [h15]; rfl) (by decide) ?_
    refine z_iconst X (v := 1) d_Mo_needs_76 (by decide) ?_
    exact z_iret X hr hk (by rw [hF]) d_Mo_needs_77
  skip
  replace hF := hF.trans (if_neg h15)
  refine z_tableOut X (tgt := 80) d_Mo_needs_1 (by have := True.intro; have q0 := lv_neT h1 (a := 2) (by decide); have q1 := lv_neT h2 (a := 3) (by decide); have q2 := lv_neT h3 (a := 4) (by decide); have q3 := lv_neT h4 (a := 5) (by decide); have q4 := lv_neT h5 (a := 6) (by decide); have q5 := lv_neT h6 (a := 7) (by decide); have q6 := lv_neT h7 (a := 8) (by decide); have q7 := lv_neT h8 (a := 9) (by decide); have q8 := lv_neT h9 (a := 10) (by decide); have q9 := lv_neT h10 (a := 11) (by decide); have q10 := lv_neT h11 (a := 12) (by decide); have q11 := lv_neT h12 (a := 13) (by decide); have q12 := lv_neT h13 (a := 14) (by decide); have q13 := lv_neT h14 (a := 15) (by decide); have q14 := lv_neT h15 (a := 16) (by decide); omega) (by decide) ?_
  refine z_iconst X (v := 0) d_Mo_needs_80 (by decide) ?_
  exact z_iret X hr hk (by rw [hF]) d_Mo_needs_81
def f_Mo_grows (o : Int32) : Int32 := if o = 1 then 1 else if o = 2 then (-1) else if o = 3 then 1 else if o = 4 then 0 else if o = 5 then (-1) else if o = 6 then (-1) else if o = 7 then (-1) else if o = 8 then (-1) else if o = 9 then (-1) else if o = 10 then 0 else if o = 11 then (-2) else if o = 12 then 0 else if o = 13 then (-1) else if o = 14 then (-1) else if o = 15 then 2 else if o = 16 then 0 else if o = 17 then 1 else if o = 18 then 1 else if o = 19 then 1 else if o = 20 then 1 else 0
abbrev rm_Mo_grows : Room := { frames := 0, cells := 0, slots := 0, locals := 0 }
set_option maxHeartbeats 4000000 in
set_option maxRecDepth 100000 in
theorem c_Mo_grows (l : Launch) (o : Int32)  : px_P l y_Mo_grows (Cond.code y_Mo_grows b_Mo_grows 1 (some .int) :: WS) rm_Mo_grows [.int o] (some (.int (f_Mo_grows o))) := by
  obtain ⟨F, hF⟩ : ∃ F, F = f_Mo_grows o := ⟨_, rfl⟩
  rw [← hF]
  unfold f_Mo_grows at hF
  refine px_startP (by decide) (Nat.le_of_ble_eq_true rfl) ?_
  intro p e s m args below meth cd X hr hk
  refine z_L (L' := [(0, .int o)]) rfl ?_
  refine z_iload_n X d_Mo_grows_0 0 rfl ?_
  by_cases h1 : o = 1
  · skip
    replace hF := hF.trans (if_pos h1)
    refine z_tableIn X (tgt := 96) d_Mo_grows_1 (by rw [h1]; decide) (by rw [h1]; decide) (by rw [h1]; rfl) (by decide) ?_
    refine z_iconst X (v := 1) d_Mo_grows_96 (by decide) ?_
    exact z_iret X hr hk (by rw [hF]) d_Mo_grows_97
  skip
  replace hF := hF.trans (if_neg h1)
  by_cases h2 : o = 2
  · skip
    replace hF := hF.trans (if_pos h2)
    refine z_tableIn X (tgt := 100) d_Mo_grows_1 (by rw [h2]; decide) (by rw [h2]; decide) (by rw [h2]; rfl) (by decide) ?_
    refine z_iconst X (v := (-1)) d_Mo_grows_100 (by decide) ?_
    exact z_iret X hr hk (by rw [hF]) d_Mo_grows_101
  skip
  replace hF := hF.trans (if_neg h2)
  by_cases h3 : o = 3
  · skip
    replace hF := hF.trans (if_pos h3)
    refine z_tableIn X (tgt := 96) d_Mo_grows_1 (by rw [h3]; decide) (by rw [h3]; decide) (by rw [h3]; rfl) (by decide) ?_
    refine z_iconst X (v := 1) d_Mo_grows_96 (by decide) ?_
    exact z_iret X hr hk (by rw [hF]) d_Mo_grows_97
  skip
  replace hF := hF.trans (if_neg h3)
  by_cases h4 : o = 4
  · skip
    replace hF := hF.trans (if_pos h4)
    refine z_tableIn X (tgt := 105) d_Mo_grows_1 (by rw [h4]; decide) (by rw [h4]; decide) (by rw [h4]; rfl) (by decide) ?_
    refine z_iconst X (v := 0) d_Mo_grows_105 (by decide) ?_
    exact z_iret X hr hk (by rw [hF]) d_Mo_grows_106
  skip
  replace hF := hF.trans (if_neg h4)
  by_cases h5 : o = 5
  · skip
    replace hF := hF.trans (if_pos h5)
    refine z_tableIn X (tgt := 100) d_Mo_grows_1 (by rw [h5]; decide) (by rw [h5]; decide) (by rw [h5]; rfl) (by decide) ?_
    refine z_iconst X (v := (-1)) d_Mo_grows_100 (by decide) ?_
    exact z_iret X hr hk (by rw [hF]) d_Mo_grows_101
  skip
  replace hF := hF.trans (if_neg h5)
  by_cases h6 : o = 6
  · skip
    replace hF := hF.trans (if_pos h6)
    refine z_tableIn X (tgt := 100) d_Mo_grows_1 (by rw [h6]; decide) (by rw [h6]; decide) (by rw [h6]; rfl) (by decide) ?_
    refine z_iconst X (v := (-1)) d_Mo_grows_100 (by decide) ?_
    exact z_iret X hr hk (by rw [hF]) d_Mo_grows_101
  skip
  replace hF := hF.trans (if_neg h6)
  by_cases h7 : o = 7
  · skip
    replace hF := hF.trans (if_pos h7)
    refine z_tableIn X (tgt := 100) d_Mo_grows_1 (by rw [h7]; decide) (by rw [h7]; decide) (by rw [h7]; rfl) (by decide) ?_
    refine z_iconst X (v := (-1)) d_Mo_grows_100 (by decide) ?_
    exact z_iret X hr hk (by rw [hF]) d_Mo_grows_101
  skip
  replace hF := hF.trans (if_neg h7)
  by_cases h8 : o = 8
  · skip
    replace hF := hF.trans (if_pos h8)
    refine z_tableIn X (tgt := 100) d_Mo_grows_1 (by rw [h8]; decide) (by rw [h8]; decide) (by rw [h8]; rfl) (by decide) ?_
    refine z_iconst X (v := (-1)) d_Mo_grows_100 (by decide) ?_
    exact z_iret X hr hk (by rw [hF]) d_Mo_grows_101
  skip
  replace hF := hF.trans (if_neg h8)
  by_cases h9 : o = 9
  · skip
    replace hF := hF.trans (if_pos h9)
    refine z_tableIn X (tgt := 100) d_Mo_grows_1 (by rw [h9]; decide) (by rw [h9]; decide) (by rw [h9]; rfl) (by decide) ?_
    refine z_iconst X (v := (-1)) d_Mo_grows_100 (by decide) ?_
    exact z_iret X hr hk (by rw [hF]) d_Mo_grows_101
  skip
  replace hF := hF.trans (if_neg h9)
  by_cases h10 : o = 10
  · skip
    replace hF := hF.trans (if_pos h10)
    refine z_tableIn X (tgt := 105) d_Mo_grows_1 (by rw [h10]; decide) (by rw [h10]; decide) (by rw [h10]; rfl) (by decide) ?_
    refine z_iconst X (v := 0) d_Mo_grows_105 (by decide) ?_
    exact z_iret X hr hk (by rw [hF]) d_Mo_grows_106
  skip
  replace hF := hF.trans (if_neg h10)
  by_cases h11 : o = 11
  · skip
    replace hF := hF.trans (if_pos h11)
    refine z_tableIn X (tgt := 102) d_Mo_grows_1 (by rw [h11]; decide) (by rw [h11]; decide) (by rw [h11]; rfl) (by decide) ?_
    refine z_bipush X (v := (-2)) d_Mo_grows_102 (by decide) ?_
    exact z_iret X hr hk (by rw [hF]) d_Mo_grows_104
  skip
  replace hF := hF.trans (if_neg h11)
  by_cases h12 : o = 12
  · skip
    replace hF := hF.trans (if_pos h12)
    refine z_tableIn X (tgt := 105) d_Mo_grows_1 (by rw [h12]; decide) (by rw [h12]; decide) (by rw [h12]; rfl) (by decide) ?_
    refine z_iconst X (v := 0) d_Mo_grows_105 (by decide) ?_
    exact z_iret X hr hk (by rw [hF]) d_Mo_grows_106
  skip
  replace hF := hF.trans (if_neg h12)
  by_cases h13 : o = 13
  · skip
    replace hF := hF.trans (if_pos h13)
    refine z_tableIn X (tgt := 100) d_Mo_grows_1 (by rw [h13]; decide) (by rw [h13]; decide) (by rw [h13]; rfl) (by decide) ?_
    refine z_iconst X (v := (-1)) d_Mo_grows_100 (by decide) ?_
    exact z_iret X hr hk (by rw [hF]) d_Mo_grows_101
  skip
  replace hF := hF.trans (if_neg h13)
  by_cases h14 : o = 14
  · skip
    replace hF := hF.trans (if_pos h14)
    refine z_tableIn X (tgt := 100) d_Mo_grows_1 (by rw [h14]; decide) (by rw [h14]; decide) (by rw [h14]; rfl) (by decide) ?_
    refine z_iconst X (v := (-1)) d_Mo_grows_100 (by decide) ?_
    exact z_iret X hr hk (by rw [hF]) d_Mo_grows_101
  skip
  replace hF := hF.trans (if_neg h14)
  by_cases h15 : o = 15
  · skip
    replace hF := hF.trans (if_pos h15)
    refine z_tableIn X (tgt := 98) d_Mo_grows_1 (by rw [h15]; decide) (by rw [h15]; decide) (by rw [h15]; rfl) (by decide) ?_
    refine z_iconst X (v := 2) d_Mo_grows_98 (by decide) ?_
    exact z_iret X hr hk (by rw [hF]) d_Mo_grows_99
  skip
  replace hF := hF.trans (if_neg h15)
  by_cases h16 : o = 16
  · skip
    replace hF := hF.trans (if_pos h16)
    refine z_tableIn X (tgt := 105) d_Mo_grows_1 (by rw [h16]; decide) (by rw [h16]; decide) (by rw [h16]; rfl) (by decide) ?_
    refine z_iconst X (v := 0) d_Mo_grows_105 (by decide) ?_
    exact z_iret X hr hk (by rw [hF]) d_Mo_grows_106
  skip
  replace hF := hF.trans (if_neg h16)
  by_cases h17 : o = 17
  · skip
    replace hF := hF.trans (if_pos h17)
    refine z_tableIn X (tgt := 96) d_Mo_grows_1 (by rw [h17]; decide) (by rw [h17]; decide) (by rw [h17]; rfl) (by decide) ?_
    refine z_iconst X (v := 1) d_Mo_grows_96 (by decide) ?_
    exact z_iret X hr hk (by rw [hF]) d_Mo_grows_97
  skip
  replace hF := hF.trans (if_neg h17)
  by_cases h18 : o = 18
  · skip
    replace hF := hF.trans (if_pos h18)
    refine z_tableIn X (tgt := 96) d_Mo_grows_1 (by rw [h18]; decide) (by rw [h18]; decide) (by rw [h18]; rfl) (by decide) ?_
    refine z_iconst X (v := 1) d_Mo_grows_96 (by decide) ?_
    exact z_iret X hr hk (by rw [hF]) d_Mo_grows_97
  skip
  replace hF := hF.trans (if_neg h18)
  by_cases h19 : o = 19
  · skip
    replace hF := hF.trans (if_pos h19)
    refine z_tableIn X (tgt := 96) d_Mo_grows_1 (by rw [h19]; decide) (by rw [h19]; decide) (by rw [h19]; rfl) (by decide) ?_
    refine z_iconst X (v := 1) d_Mo_grows_96 (by decide) ?_
    exact z_iret X hr hk (by rw [hF]) d_Mo_grows_97
  skip
  replace hF := hF.trans (if_neg h19)
  by_cases h20 : o = 20
  · skip
    replace hF := hF.trans (if_pos h20)
    refine z_tableIn X (tgt := 96) d_Mo_grows_1 (by rw [h20]; decide) (by rw [h20]; decide) (by rw [h20]; rfl) (by decide) ?_
    refine z_iconst X (v := 1) d_Mo_grows_96 (by decide) ?_
    exact z_iret X hr hk (by rw [hF]) d_Mo_grows_97
  skip
  replace hF := hF.trans (if_neg h20)
  refine z_tableOut X (tgt := 105) d_Mo_grows_1 (by have := True.intro; have q0 := lv_neT h1 (a := 1) (by decide); have q1 := lv_neT h2 (a := 2) (by decide); have q2 := lv_neT h3 (a := 3) (by decide); have q3 := lv_neT h4 (a := 4) (by decide); have q4 := lv_neT h5 (a := 5) (by decide); have q5 := lv_neT h6 (a := 6) (by decide); have q6 := lv_neT h7 (a := 7) (by decide); have q7 := lv_neT h8 (a := 8) (by decide); have q8 := lv_neT h9 (a := 9) (by decide); have q9 := lv_neT h10 (a := 10) (by decide); have q10 := lv_neT h11 (a := 11) (by decide); have q11 := lv_neT h12 (a := 12) (by decide); have q12 := lv_neT h13 (a := 13) (by decide); have q13 := lv_neT h14 (a := 14) (by decide); have q14 := lv_neT h15 (a := 15) (by decide); have q15 := lv_neT h16 (a := 16) (by decide); have q16 := lv_neT h17 (a := 17) (by decide); have q17 := lv_neT h18 (a := 18) (by decide); have q18 := lv_neT h19 (a := 19) (by decide); have q19 := lv_neT h20 (a := 20) (by decide); omega) (by decide) ?_
  refine z_iconst X (v := 0) d_Mo_grows_105 (by decide) ?_
  exact z_iret X hr hk (by rw [hF]) d_Mo_grows_106
def f_Mo_reckon (o : Int32) (a : Int32) (b : Int32) : Int32 := if o = 5 then a + b else if o = 6 then a - b else if o = 7 then a * b else if o = 8 then a / b else if b ≤ a then 0 else 1
def p_Mo_reckon (o : Int32) (a : Int32) (b : Int32) : Prop := (o = 5 → True) ∧ (¬ o = 5 → (o = 6 → True) ∧ (¬ o = 6 → (o = 7 → True) ∧ (¬ o = 7 → (o = 8 → (¬ b = 0) ∧ (True)) ∧ (¬ o = 8 → (b ≤ a → True) ∧ (¬ b ≤ a → True)))))
abbrev rm_Mo_reckon : Room := { frames := 0, cells := 0, slots := 0, locals := 0 }
set_option maxHeartbeats 4000000 in
set_option maxRecDepth 100000 in
theorem c_Mo_reckon (l : Launch) (o : Int32) (a : Int32) (b : Int32) (hp : p_Mo_reckon o a b) : px_P l y_Mo_reckon (Cond.code y_Mo_reckon b_Mo_reckon 3 (some .int) :: WS) rm_Mo_reckon [.int o, .int a, .int b] (some (.int (f_Mo_reckon o a b))) := by
  obtain ⟨F, hF⟩ : ∃ F, F = f_Mo_reckon o a b := ⟨_, rfl⟩
  rw [← hF]
  unfold f_Mo_reckon at hF
  refine px_startP (by decide) (Nat.le_of_ble_eq_true rfl) ?_
  intro p e s m args below meth cd X hr hk
  refine z_L (L' := [(0, .int o), (1, .int a), (2, .int b)]) rfl ?_
  unfold p_Mo_reckon at hp
  refine z_iload_n X d_Mo_reckon_0 0 rfl ?_
  by_cases h1 : o = 5
  · replace hp := hp.1 h1
    replace hF := hF.trans (if_pos h1)
    refine z_tableIn X (tgt := 32) d_Mo_reckon_1 (by rw [h1]; decide) (by rw [h1]; decide) (by rw [h1]; rfl) (by decide) ?_
    refine z_iload_n X d_Mo_reckon_32 1 rfl ?_
    refine z_iload_n X d_Mo_reckon_33 2 rfl ?_
    refine z_iadd X d_Mo_reckon_34 ?_
    exact z_iret X hr hk (by rw [hF]) d_Mo_reckon_35
  replace hp := hp.2 h1
  replace hF := hF.trans (if_neg h1)
  by_cases h2 : o = 6
  · replace hp := hp.1 h2
    replace hF := hF.trans (if_pos h2)
    refine z_tableIn X (tgt := 36) d_Mo_reckon_1 (by rw [h2]; decide) (by rw [h2]; decide) (by rw [h2]; rfl) (by decide) ?_
    refine z_iload_n X d_Mo_reckon_36 1 rfl ?_
    refine z_iload_n X d_Mo_reckon_37 2 rfl ?_
    refine z_isub X d_Mo_reckon_38 ?_
    exact z_iret X hr hk (by rw [hF]) d_Mo_reckon_39
  replace hp := hp.2 h2
  replace hF := hF.trans (if_neg h2)
  by_cases h3 : o = 7
  · replace hp := hp.1 h3
    replace hF := hF.trans (if_pos h3)
    refine z_tableIn X (tgt := 40) d_Mo_reckon_1 (by rw [h3]; decide) (by rw [h3]; decide) (by rw [h3]; rfl) (by decide) ?_
    refine z_iload_n X d_Mo_reckon_40 1 rfl ?_
    refine z_iload_n X d_Mo_reckon_41 2 rfl ?_
    refine z_imul X d_Mo_reckon_42 ?_
    exact z_iret X hr hk (by rw [hF]) d_Mo_reckon_43
  replace hp := hp.2 h3
  replace hF := hF.trans (if_neg h3)
  by_cases h4 : o = 8
  · replace hp := hp.1 h4
    replace hF := hF.trans (if_pos h4)
    refine z_tableIn X (tgt := 44) d_Mo_reckon_1 (by rw [h4]; decide) (by rw [h4]; decide) (by rw [h4]; rfl) (by decide) ?_
    refine z_iload_n X d_Mo_reckon_44 1 rfl ?_
    refine z_iload_n X d_Mo_reckon_45 2 rfl ?_
    obtain ⟨o5, hp⟩ := hp
    refine z_idiv X d_Mo_reckon_46 o5 ?_
    exact z_iret X hr hk (by rw [hF]) d_Mo_reckon_47
  replace hp := hp.2 h4
  replace hF := hF.trans (if_neg h4)
  refine z_tableOut X (tgt := 48) d_Mo_reckon_1 (by have := True.intro; have q0 := lv_neT h1 (a := 5) (by decide); have q1 := lv_neT h2 (a := 6) (by decide); have q2 := lv_neT h3 (a := 7) (by decide); have q3 := lv_neT h4 (a := 8) (by decide); omega) (by decide) ?_
  refine z_iload_n X d_Mo_reckon_48 1 rfl ?_
  refine z_iload_n X d_Mo_reckon_49 2 rfl ?_
  refine z_icmp_ge X (tgt := 57) d_Mo_reckon_50 (by decide) (fun h6 => ?_) (fun h6 => ?_)
  · replace hp := hp.1 h6
    replace hF := hF.trans (if_pos h6)
    refine z_iconst X (v := 0) d_Mo_reckon_57 (by decide) ?_
    exact z_iret X hr hk (by rw [hF]) d_Mo_reckon_58
  · replace hp := hp.2 h6
    replace hF := hF.trans (if_neg h6)
    refine z_iconst X (v := 1) d_Mo_reckon_53 (by decide) ?_
    refine z_goto X (tgt := 58) d_Mo_reckon_54 (by decide) ?_
    exact z_iret X hr hk (by rw [hF]) d_Mo_reckon_58
def f_Mo_outside (i : Int32) (k : Int32) : Int32 := if i < 0 then 1 else if i < k then 0 else 1
abbrev rm_Mo_outside : Room := { frames := 0, cells := 0, slots := 0, locals := 0 }
set_option maxHeartbeats 4000000 in
set_option maxRecDepth 100000 in
theorem c_Mo_outside (l : Launch) (i : Int32) (k : Int32)  : px_P l y_Mo_outside (Cond.code y_Mo_outside b_Mo_outside 2 (some .boolean) :: WS) rm_Mo_outside [.int i, .int k] (some (.int (f_Mo_outside i k))) := by
  obtain ⟨F, hF⟩ : ∃ F, F = f_Mo_outside i k := ⟨_, rfl⟩
  rw [← hF]
  unfold f_Mo_outside at hF
  refine px_startP (by decide) (Nat.le_of_ble_eq_true rfl) ?_
  intro p e s m args below meth cd X hr hk
  refine z_L (L' := [(0, .int i), (1, .int k)]) rfl ?_
  refine z_iload_n X d_Mo_outside_0 0 rfl ?_
  refine z_if_lt X (tgt := 9) d_Mo_outside_1 (by decide) (fun h1 => ?_) (fun h1 => ?_)
  · skip
    replace hF := hF.trans (if_pos h1)
    refine z_iconst X (v := 1) d_Mo_outside_9 (by decide) ?_
    refine z_goto X (tgt := 14) d_Mo_outside_10 (by decide) ?_
    exact z_zret X hr hk rfl (by rw [hF]) d_Mo_outside_14
  · skip
    replace hF := hF.trans (if_neg h1)
    refine z_iload_n X d_Mo_outside_4 0 rfl ?_
    refine z_iload_n X d_Mo_outside_5 1 rfl ?_
    refine z_icmp_lt X (tgt := 13) d_Mo_outside_6 (by decide) (fun h2 => ?_) (fun h2 => ?_)
    · skip
      replace hF := hF.trans (if_pos h2)
      refine z_iconst X (v := 0) d_Mo_outside_13 (by decide) ?_
      exact z_zret X hr hk rfl (by rw [hF]) d_Mo_outside_14
    · skip
      replace hF := hF.trans (if_neg h2)
      refine z_iconst X (v := 1) d_Mo_outside_9 (by decide) ?_
      refine z_goto X (tgt := 14) d_Mo_outside_10 (by decide) ?_
      exact z_zret X hr hk rfl (by rw [hF]) d_Mo_outside_14
