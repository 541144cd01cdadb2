/-! the calls that loop over nothing, kept by both -/
theorem lkR_state : lk_state Rel := by
  rintro S T a ⟨tr, t, g, n, u, q, z, e, h, k, L⟩
  refine ⟨trivial, ?_⟩
  have R0 : Rel S (sI T 124 10 0) := ⟨tr, t, g, n, u, q, z, e, h, k, RL_code L 0⟩
  have R1 : Rel S (sI (sI T 124 10 0) 124 10 1) := ⟨tr, t, g, n, u, q, z, e, h, k, RL_code (RL_code L 0) 1⟩
  obtain ⟨⟨l1, l2, l3, l4, l5, l6, l7, l8, l9, l10, l11, l12, l13, l14⟩, C, P, rk, rm, R, a1, a2, a3, a4, a5⟩ := L
  obtain ⟨r0, r1, r2, r3, r4, r5, -⟩ := R
  have E0 : gI S 4 0 = gI (sI T 124 10 0) 124 12 := by rw [code_ne _ _ (by decide), r0]; exact vw_reg C.1 (by decide)
  have E1 : gI S 0 4 = gI (sI T 124 10 0) 124 18 := by rw [code_ne _ _ (by decide), l8, l9]
  have E2 : gI S 4 1 = gI (sI T 124 10 0) 124 13 := by rw [code_ne _ _ (by decide), r1]; exact vw_reg C.1 (by decide)
  have E3 : gI S 4 2 = gI (sI T 124 10 0) 124 14 := by rw [code_ne _ _ (by decide), r2]; exact vw_reg C.1 (by decide)
  have E4 : gI S 4 3 = gI (sI T 124 10 0) 124 15 := by rw [code_ne _ _ (by decide), r3]; exact vw_reg C.1 (by decide)
  have E5 : gI S 4 4 = gI (sI T 124 10 0) 124 16 := by rw [code_ne _ _ (by decide), r4]; exact vw_reg C.1 (by decide)
  have E6 : gI S 4 5 = gI (sI T 124 10 0) 124 17 := by rw [code_ne _ _ (by decide), r5]; exact vw_reg C.1 (by decide)
  have E7 : gI S 0 5 = gI (sI T 124 10 0) 124 20 := by rw [code_ne _ _ (by decide), l11]
  have E8 : gI S 6 2 = gI (sI T 124 10 0) 124 19 := by rw [code_ne _ _ (by decide), l12]; exact C.2.2.2.1
  have E9 : gI S 104 2 = gI (sI T 124 10 0) 124 21 := by rw [code_ne _ _ (by decide), rk.2.1]; exact P.2.1
  have E10 : gI S 104 1 = gI (sI T 124 10 0) 124 22 := by rw [code_ne _ _ (by decide), rk.1]; exact P.1
  have hc := code_at T 0
  have hc1 := code_at (sI T 124 10 0) 1
  unfold f_Mo_state f_RM_state p_RM_state tp_RM_state_IOOBE f_Mo_fail
  simp only [px_let_id]
  generalize sI T 124 10 0 = T0 at *
  by_cases c0 : a = 0
  · left
    simp only [if_pos c0]
    exact ⟨hc, ⟨fun _ => trivial, fun w => absurd c0 w⟩, E0, R0⟩
  simp only [if_neg c0]
  by_cases c1 : a = 1
  · left
    simp only [if_pos c1]
    exact ⟨hc, ⟨fun _ => trivial, fun _ => ⟨fun _ => trivial, fun w => absurd c1 w⟩⟩, E1, R0⟩
  simp only [if_neg c1]
  by_cases c2 : a = 2
  · left
    simp only [if_pos c2]
    exact ⟨hc, ⟨fun _ => trivial, fun _ => ⟨fun _ => trivial, fun _ => ⟨fun _ => trivial, fun w => absurd c2 w⟩⟩⟩, E2, R0⟩
  simp only [if_neg c2]
  by_cases c3 : a = 3
  · left
    simp only [if_pos c3]
    exact ⟨hc, ⟨fun _ => trivial, fun _ => ⟨fun _ => trivial, fun _ => ⟨fun _ => trivial, fun _ => ⟨fun _ => trivial, fun w => absurd c3 w⟩⟩⟩⟩, E3, R0⟩
  simp only [if_neg c3]
  by_cases c4 : a = 4
  · left
    simp only [if_pos c4]
    exact ⟨hc, ⟨fun _ => trivial, fun _ => ⟨fun _ => trivial, fun _ => ⟨fun _ => trivial, fun _ => ⟨fun _ => trivial, fun _ => ⟨fun _ => trivial, fun w => absurd c4 w⟩⟩⟩⟩⟩, E4, R0⟩
  simp only [if_neg c4]
  by_cases c5 : a = 5
  · left
    simp only [if_pos c5]
    exact ⟨hc, ⟨fun _ => trivial, fun _ => ⟨fun _ => trivial, fun _ => ⟨fun _ => trivial, fun _ => ⟨fun _ => trivial, fun _ => ⟨fun _ => trivial, fun _ => ⟨fun _ => trivial, fun w => absurd c5 w⟩⟩⟩⟩⟩⟩, E5, R0⟩
  simp only [if_neg c5]
  by_cases c6 : a = 6
  · left
    simp only [if_pos c6]
    exact ⟨hc, ⟨fun _ => trivial, fun _ => ⟨fun _ => trivial, fun _ => ⟨fun _ => trivial, fun _ => ⟨fun _ => trivial, fun _ => ⟨fun _ => trivial, fun _ => ⟨fun _ => trivial, fun _ => ⟨fun _ => trivial, fun w => absurd c6 w⟩⟩⟩⟩⟩⟩⟩, E6, R0⟩
  simp only [if_neg c6]
  by_cases c7 : a = 7
  · left
    simp only [if_pos c7]
    exact ⟨hc, ⟨fun _ => trivial, fun _ => ⟨fun _ => trivial, fun _ => ⟨fun _ => trivial, fun _ => ⟨fun _ => trivial, fun _ => ⟨fun _ => trivial, fun _ => ⟨fun _ => trivial, fun _ => ⟨fun _ => trivial, fun _ => ⟨fun _ => trivial, fun w => absurd c7 w⟩⟩⟩⟩⟩⟩⟩⟩, E7, R0⟩
  simp only [if_neg c7]
  by_cases c8 : a = 8
  · left
    simp only [if_pos c8]
    exact ⟨hc, ⟨fun _ => trivial, fun _ => ⟨fun _ => trivial, fun _ => ⟨fun _ => trivial, fun _ => ⟨fun _ => trivial, fun _ => ⟨fun _ => trivial, fun _ => ⟨fun _ => trivial, fun _ => ⟨fun _ => trivial, fun _ => ⟨fun _ => trivial, fun _ => ⟨fun _ => trivial, fun w => absurd c8 w⟩⟩⟩⟩⟩⟩⟩⟩⟩, E8, R0⟩
  simp only [if_neg c8]
  by_cases c9 : a = 9
  · left
    simp only [if_pos c9]
    exact ⟨hc, ⟨fun _ => trivial, fun _ => ⟨fun _ => trivial, fun _ => ⟨fun _ => trivial, fun _ => ⟨fun _ => trivial, fun _ => ⟨fun _ => trivial, fun _ => ⟨fun _ => trivial, fun _ => ⟨fun _ => trivial, fun _ => ⟨fun _ => trivial, fun _ => ⟨fun _ => trivial, fun _ => ⟨fun _ => trivial, fun w => absurd c9 w⟩⟩⟩⟩⟩⟩⟩⟩⟩⟩, E9, R0⟩
  simp only [if_neg c9]
  by_cases c10 : a = 10
  · left
    simp only [if_pos c10]
    exact ⟨hc, ⟨fun _ => trivial, fun _ => ⟨fun _ => trivial, fun _ => ⟨fun _ => trivial, fun _ => ⟨fun _ => trivial, fun _ => ⟨fun _ => trivial, fun _ => ⟨fun _ => trivial, fun _ => ⟨fun _ => trivial, fun _ => ⟨fun _ => trivial, fun _ => ⟨fun _ => trivial, fun _ => ⟨fun _ => trivial, fun _ => ⟨fun _ => trivial, fun w => absurd c10 w⟩⟩⟩⟩⟩⟩⟩⟩⟩⟩⟩, E10, R0⟩
  simp only [if_neg c10]
  right
  exact ⟨hc1, ⟨fun w => absurd w c0, fun _ => ⟨fun w => absurd w c1, fun _ => ⟨fun w => absurd w c2, fun _ => ⟨fun w => absurd w c3, fun _ => ⟨fun w => absurd w c4, fun _ => ⟨fun w => absurd w c5, fun _ => ⟨fun w => absurd w c6, fun _ => ⟨fun w => absurd w c7, fun _ => ⟨fun w => absurd w c8, fun _ => ⟨fun w => absurd w c9, fun _ => ⟨fun w => absurd w c10, fun _ => trivial⟩⟩⟩⟩⟩⟩⟩⟩⟩⟩⟩, R1⟩
theorem lkR_cell : lk_cell Rel := by
  rintro S T a ⟨tr, t, g, n, u, q, z, e, h, k, L⟩
  have R0 : Rel S (sI T 124 10 0) := ⟨tr, t, g, n, u, q, z, e, h, k, RL_code L 0⟩
  obtain ⟨-, C, P, rk, rm, R, -⟩ := L
  unfold p_Mo_cell p_RM_cell f_RM_cell f_Mo_cell
  simp only [px_let_id]
  rcases out_wi a 32 with ⟨w1, w2⟩ | ⟨w1, w2⟩
  · rw [w1, w2, if_pos (show (0 : Int32) = 0 from rfl), if_neg (show ¬ (1 : Int32) = 0 by decide)]
    exact ⟨fun S1 q1 r3 q3 => ⟨fun w => absurd (q3.symm.trans w) (by decide), fun _ => trivial⟩, fun r1 q1 => ⟨fun _ => trivial, fun w => absurd q1 w⟩, rfl, R0⟩
  · obtain ⟨c, hc, rfl⟩ := wi_get (n := 32) (by decide) (show ¬ f_RM_within a 32 = 0 by rw [w1]; decide)
    rw [w1, w2, if_neg (show ¬ (1 : Int32) = 0 by decide), if_pos (show (0 : Int32) = 0 from rfl)]
    have v1 : vp_in (Int32.ofNat c) 32 := vin_of hc (by decide)
    have v2 : vp_in (Int32.ofNat c) 56 := vin_of (by omega) (by decide)
    refine ⟨fun S1 q1 r3 q3 => ⟨fun _ => ⟨v1, trivial⟩, fun _ => trivial⟩, fun r1 q1 => ⟨fun _ => trivial, fun _ => ⟨v2, trivial⟩⟩, ?_, R0⟩
    show gR S (4 + 1) _ = gR T 129 _
    rw [n32_clamp (n := c) (by omega), vw_mem C.1 (by omega)]
    exact (R.2.2.2.2.2.2.2.2.2.2.2.1 c hc).symm
theorem lkR_stack : lk_stack Rel := by
  rintro S T a ⟨tr, t, g, n, u, q, z, e, h, k, L⟩
  have R0 : Rel S (sI T 124 10 0) := ⟨tr, t, g, n, u, q, z, e, h, k, RL_code L 0⟩
  have R1 : Rel S (sI (sI T 124 10 0) 124 10 1) := ⟨tr, t, g, n, u, q, z, e, h, k, RL_code (RL_code L 0) 1⟩
  obtain ⟨-, C, P, rk, rm, R, -⟩ := L
  obtain ⟨r0, r1, r2, r3, r4, r5, r6, r7, r8, r9, r10, r11, r12⟩ := R
  have e5 : gI S 4 5 = Int32.ofNat h := (vw_reg C.1 (by decide)).trans r6
  have e17 : gI (sI T 124 10 0) 124 17 = Int32.ofNat h := (code_ne _ _ (by decide)).trans (r5.trans r6)
  have hc1 := code_at (sI T 124 10 0) 1
  have hc0 := code_at T 0
  unfold p_Mo_stack p_RM_stack tp_RM_stack_IOOBE f_RM_stack f_Mo_stack f_Mo_fail
  simp only [px_let_id]
  rw [e5, e17]
  rcases out_wi a (Int32.ofNat h) with ⟨w1, w2⟩ | ⟨w1, w2⟩
  · rw [w1, w2, if_neg (show ¬ (1 : Int32) = 0 by decide)]
    refine ⟨fun S1 q1 r3 q3 => ?_, Or.inr ⟨hc1, fun r1 q1 => ⟨fun _ => trivial, fun w => absurd q1 w⟩, R1⟩⟩
    subst q1
    rw [e17, w2] at q3
    exact ⟨fun w => absurd (q3.symm.trans w) (by decide), fun _ _ _ _ _ => trivial⟩
  · obtain ⟨c, hc, rfl⟩ := wi_get (n := h) (by omega) (show ¬ f_RM_within a (Int32.ofNat h) = 0 by rw [w1]; decide)
    rw [w1, w2, if_neg (show ¬ (1 : Int32) = 0 by decide), if_pos (show (0 : Int32) = 0 from rfl)]
    obtain ⟨n1, n2⟩ := vw_num C.1 (Int32.ofNat c)
    refine ⟨fun S1 q1 r3 q3 => ⟨fun _ => ⟨vin_of (by omega) (by decide), trivial⟩, fun _ _ _ _ _ => trivial⟩, Or.inl ⟨hc0, fun r1 q1 => ⟨fun w => absurd (q1.symm.trans w) (by decide), fun _ => ⟨n2, fun _ _ => trivial⟩⟩, ?_, R0⟩⟩
    rw [n1, num_in (by omega)]
    show _ = gR T 130 _
    rw [n32_clamp (n := c) (by omega), r12 c hc]
theorem lkR_checkpoint : lk_checkpoint Rel := by
  rintro S T a ⟨tr, t, g, n, u, q, z, e, h, k, L⟩
  have R0 : Rel S (sI T 124 10 0) := ⟨tr, t, g, n, u, q, z, e, h, k, RL_code L 0⟩
  have R1 : Rel S (sI (sI T 124 10 0) 124 10 1) := ⟨tr, t, g, n, u, q, z, e, h, k, RL_code (RL_code L 0) 1⟩
  obtain ⟨-, C, P, rk, rm, R, a1, a2, a3, a4, a5⟩ := L
  have hz8 := P.2.2.2.1
  have e5 : gI S 104 1 = Int32.ofNat z := P.1
  have e17 : gI (sI T 124 10 0) 124 22 = Int32.ofNat z := (code_ne _ _ (by decide)).trans rk.1
  have hc1 := code_at (sI T 124 10 0) 1
  have hc0 := code_at T 0
  unfold p_Mo_checkpoint p_RM_checkpoint tp_RM_checkpoint_IOOBE f_RM_checkpoint f_Mo_checkpoint f_Mo_fail
  simp only [px_let_id]
  rw [e5, e17]
  rcases out_wi a (Int32.ofNat z) with ⟨w1, w2⟩ | ⟨w1, w2⟩
  · rw [w1, w2, if_neg (show ¬ (1 : Int32) = 0 by decide)]
    refine ⟨fun S1 q1 r3 q3 => ?_, Or.inr ⟨hc1, fun r1 q1 => ⟨fun _ => trivial, fun w => absurd q1 w⟩, R1⟩⟩
    subst q1
    rw [e17, w2] at q3
    exact ⟨fun w => absurd (q3.symm.trans w) (by decide), fun _ _ _ _ _ => trivial⟩
  · obtain ⟨c, hc, rfl⟩ := wi_get (n := z) (by omega) (show ¬ f_RM_within a (Int32.ofNat z) = 0 by rw [w1]; decide)
    rw [w1, w2, if_neg (show ¬ (1 : Int32) = 0 by decide), if_pos (show (0 : Int32) = 0 from rfl)]
    refine ⟨fun S1 q1 r3 q3 => ⟨fun _ => ⟨vin_of (by omega) (by decide), trivial⟩, fun _ _ _ _ _ => trivial⟩, Or.inl ⟨hc0, fun r1 q1 => ⟨fun w => absurd (q1.symm.trans w) (by decide), fun _ => ⟨vin_of (by omega) (by decide), trivial⟩⟩, ?_, R0⟩⟩
    show _ = gR T 134 _
    rw [n32_clamp (n := c) (by omega), vw_reg (P.2.2.2.2.2.2.1 c hc) (by decide), rk.2.2 c hc]
    exact (a5 (c * e) (Nat.le_trans (Nat.mul_le_mul_right e (by omega)) a2)).1
set_option maxHeartbeats 1000000 in
theorem lkR_setBreak : lk_setBreak Rel := by
  rintro S T a ⟨tr, t, g, n, u, q, z, e, h, k, L⟩
  have R0 : Rel S (sI T 124 10 0) := ⟨tr, t, g, n, u, q, z, e, h, k, RL_code L 0⟩
  have R1 : Rel S (sI T 124 10 1) := ⟨tr, t, g, n, u, q, z, e, h, k, RL_code L 1⟩
  have hB : gR T 127 = gR S 122 := L.1.2.2.1
  have h01 : ∀ j, gR S 122 j = 0 ∨ gR S 122 j = 1 := L.1.2.2.2.2.2.2.2.2.2.2.2.2.1
  have hc1 := code_at T 1
  have hc0 := code_at T 0
  unfold p_Mo_setBreak p_RM_setBreak tp_RM_setBreak_IOOBE f_RM_setBreak f_Mo_setBreak
  simp only [px_let_id]
  rcases out_wi a 64 with ⟨w1, w2⟩ | ⟨w1, w2⟩
  · rw [w1, w2, if_neg (show ¬ (1 : Int32) = 0 by decide), hc1, if_pos (show (0 : Int32) < 1 by decide)]
    refine ⟨fun r1 q1 => ⟨fun w => absurd (q1.symm.trans w) (by decide), fun _ S12 q12 => ⟨fun _ => trivial, fun w => absurd ?_ w⟩⟩, Or.inr ⟨hc1, fun r1 q1 => ⟨fun _ => trivial, fun w => absurd q1 w⟩, R1⟩⟩
    subst q12
    rw [hc1]; decide
  · obtain ⟨c, hc, rfl⟩ := wi_get (n := 64) (by decide) (show ¬ f_RM_within a 64 = 0 by rw [w1]; decide)
    have v : vp_in (Int32.ofNat c) 64 := vin_of hc (by decide)
    have ec : (Int32.ofNat c).toNatClampNeg = c := n32_clamp (by omega)
    have LB : Rel (sR S 122 (upd (gR S 122) c 1)) (sR (sI T 124 10 0) 127 (upd (gR S 122) c 1)) := ⟨tr, t, g, n, u, q, z, e, h, k, RL_B (RL_code L 0) _ (upd_01 h01 (Or.inr rfl))⟩
    have ev : vp_nar .boolean 1 = 1 := by decide
    unfold f_RM_markB p_RM_markB
    simp only [px_let_id]
    rw [w1, w2, if_neg (show ¬ (1 : Int32) = 0 by decide), if_pos (show (0 : Int32) = 0 from rfl), hc0, if_neg (show ¬ (0 : Int32) < 0 by decide), ec, ev, gR_sI, hB]
    by_cases b : gR S 122 c = 0
    · have b1 : ¬ gR S 122 c = 1 := by rw [b]; decide
      rw [if_pos b, if_neg b1]
      exact ⟨fun r1 q1 => ⟨fun _ S4 q4 => ⟨fun _ => trivial, fun _ => ⟨v, fun _ => ⟨v, fun _ _ => trivial⟩, fun _ => trivial⟩⟩, fun w => absurd q1 w⟩, Or.inl ⟨hc0, fun r1 q1 => ⟨fun w => absurd (q1.symm.trans w) (by decide), fun _ => ⟨⟨v, fun _ => ⟨v, fun _ _ => trivial⟩, fun _ => ⟨v, fun _ _ => trivial⟩⟩, fun _ _ _ _ => trivial⟩⟩, rfl, LB⟩⟩
    · have b1 : gR S 122 c = 1 := (h01 c).resolve_left b
      rw [if_neg b, if_pos b1]
      have hs : sR S 122 (upd (gR S 122) c 1) = S := by rw [upd_same b1, sR_same]
      rw [hs]
      exact ⟨fun r1 q1 => ⟨fun _ S4 q4 => ⟨fun _ => trivial, fun _ => ⟨v, fun _ => ⟨v, fun _ _ => trivial⟩, fun _ => trivial⟩⟩, fun w => absurd q1 w⟩, Or.inl ⟨hc0, fun r1 q1 => ⟨fun w => absurd (q1.symm.trans w) (by decide), fun _ => ⟨⟨v, fun _ => ⟨v, fun _ _ => trivial⟩, fun _ => ⟨v, fun _ _ => trivial⟩⟩, fun _ _ _ _ => trivial⟩⟩, rfl, R0⟩⟩
set_option maxHeartbeats 1000000 in
theorem lkR_clearBreak : lk_clearBreak Rel := by
  rintro S T a ⟨tr, t, g, n, u, q, z, e, h, k, L⟩
  have R0 : Rel S (sI T 124 10 0) := ⟨tr, t, g, n, u, q, z, e, h, k, RL_code L 0⟩
  have R1 : Rel S (sI T 124 10 1) := ⟨tr, t, g, n, u, q, z, e, h, k, RL_code L 1⟩
  have hB : gR T 127 = gR S 122 := L.1.2.2.1
  have h01 : ∀ j, gR S 122 j = 0 ∨ gR S 122 j = 1 := L.1.2.2.2.2.2.2.2.2.2.2.2.2.1
  have hc1 := code_at T 1
  have hc0 := code_at T 0
  unfold p_Mo_clearBreak p_RM_clearBreak tp_RM_clearBreak_IOOBE f_RM_clearBreak f_Mo_clearBreak
  simp only [px_let_id]
  rcases out_wi a 64 with ⟨w1, w2⟩ | ⟨w1, w2⟩
  · rw [w1, w2, if_neg (show ¬ (1 : Int32) = 0 by decide), hc1, if_pos (show (0 : Int32) < 1 by decide)]
    refine ⟨fun r1 q1 => ⟨fun w => absurd (q1.symm.trans w) (by decide), fun _ S12 q12 => ⟨fun _ => trivial, fun w => absurd ?_ w⟩⟩, Or.inr ⟨hc1, fun r1 q1 => ⟨fun _ => trivial, fun w => absurd q1 w⟩, R1⟩⟩
    subst q12
    rw [hc1]; decide
  · obtain ⟨c, hc, rfl⟩ := wi_get (n := 64) (by decide) (show ¬ f_RM_within a 64 = 0 by rw [w1]; decide)
    have v : vp_in (Int32.ofNat c) 64 := vin_of hc (by decide)
    have ec : (Int32.ofNat c).toNatClampNeg = c := n32_clamp (by omega)
    have LB : Rel (sR S 122 (upd (gR S 122) c 0)) (sR (sI T 124 10 0) 127 (upd (gR S 122) c 0)) := ⟨tr, t, g, n, u, q, z, e, h, k, RL_B (RL_code L 0) _ (upd_01 h01 (Or.inl rfl))⟩
    have ev : vp_nar .boolean 0 = 0 := by decide
    unfold f_RM_markB p_RM_markB
    simp only [px_let_id]
    rw [w1, w2, if_neg (show ¬ (1 : Int32) = 0 by decide), if_pos (show (0 : Int32) = 0 from rfl), hc0, if_neg (show ¬ (0 : Int32) < 0 by decide), ec, ev, gR_sI, hB]
    by_cases b : gR S 122 c = 0
    · have b1 : gR S 122 c = 0 := b
      rw [if_pos b, if_pos b]
      have hs : sR S 122 (upd (gR S 122) c 0) = S := by rw [upd_same b1, sR_same]
      rw [hs]
      exact ⟨fun r1 q1 => ⟨fun _ S4 q4 => ⟨fun _ => trivial, fun _ => ⟨v, fun _ => trivial, fun _ => ⟨v, fun _ _ => trivial⟩⟩⟩, fun w => absurd q1 w⟩, Or.inl ⟨hc0, fun r1 q1 => ⟨fun w => absurd (q1.symm.trans w) (by decide), fun _ => ⟨⟨v, fun _ => ⟨v, fun _ _ => trivial⟩, fun _ => ⟨v, fun _ _ => trivial⟩⟩, fun _ _ _ _ => trivial⟩⟩, rfl, R0⟩⟩
    · rw [if_neg b, if_neg b]
      exact ⟨fun r1 q1 => ⟨fun _ S4 q4 => ⟨fun _ => trivial, fun _ => ⟨v, fun _ => trivial, fun _ => ⟨v, fun _ _ => trivial⟩⟩⟩, fun w => absurd q1 w⟩, Or.inl ⟨hc0, fun r1 q1 => ⟨fun w => absurd (q1.symm.trans w) (by decide), fun _ => ⟨⟨v, fun _ => ⟨v, fun _ _ => trivial⟩, fun _ => ⟨v, fun _ _ => trivial⟩⟩, fun _ _ _ _ => trivial⟩⟩, rfl, LB⟩⟩
set_option maxHeartbeats 1000000 in
theorem lkR_setWatch : lk_setWatch Rel := by
  rintro S T a ⟨tr, t, g, n, u, q, z, e, h, k, L⟩
  have R0 : Rel S (sI T 124 10 0) := ⟨tr, t, g, n, u, q, z, e, h, k, RL_code L 0⟩
  have R1 : Rel S (sI T 124 10 1) := ⟨tr, t, g, n, u, q, z, e, h, k, RL_code L 1⟩
  have hB : gR T 128 = gR S 123 := L.1.2.2.2.1
  have h01 : ∀ j, gR S 123 j = 0 ∨ gR S 123 j = 1 := L.1.2.2.2.2.2.2.2.2.2.2.2.2.2
  have hc1 := code_at T 1
  have hc0 := code_at T 0
  unfold p_Mo_setWatch p_RM_setWatch tp_RM_setWatch_IOOBE f_RM_setWatch f_Mo_setWatch
  simp only [px_let_id]
  rcases out_wi a 32 with ⟨w1, w2⟩ | ⟨w1, w2⟩
  · rw [w1, w2, if_neg (show ¬ (1 : Int32) = 0 by decide), hc1, if_pos (show (0 : Int32) < 1 by decide)]
    refine ⟨fun r1 q1 => ⟨fun w => absurd (q1.symm.trans w) (by decide), fun _ S12 q12 => ⟨fun _ => trivial, fun w => absurd ?_ w⟩⟩, Or.inr ⟨hc1, fun r1 q1 => ⟨fun _ => trivial, fun w => absurd q1 w⟩, R1⟩⟩
    subst q12
    rw [hc1]; decide
  · obtain ⟨c, hc, rfl⟩ := wi_get (n := 32) (by decide) (show ¬ f_RM_within a 32 = 0 by rw [w1]; decide)
    have v : vp_in (Int32.ofNat c) 32 := vin_of hc (by decide)
    have ec : (Int32.ofNat c).toNatClampNeg = c := n32_clamp (by omega)
    have LB : Rel (sR S 123 (upd (gR S 123) c 1)) (sR (sI T 124 10 0) 128 (upd (gR S 123) c 1)) := ⟨tr, t, g, n, u, q, z, e, h, k, RL_W (RL_code L 0) _ (upd_01 h01 (Or.inr rfl))⟩
    have ev : vp_nar .boolean 1 = 1 := by decide
    unfold f_RM_markW p_RM_markW
    simp only [px_let_id]
    rw [w1, w2, if_neg (show ¬ (1 : Int32) = 0 by decide), if_pos (show (0 : Int32) = 0 from rfl), hc0, if_neg (show ¬ (0 : Int32) < 0 by decide), ec, ev, gR_sI, hB]
    by_cases b : gR S 123 c = 0
    · have b1 : ¬ gR S 123 c = 1 := by rw [b]; decide
      rw [if_pos b, if_neg b1]
      exact ⟨fun r1 q1 => ⟨fun _ S4 q4 => ⟨fun _ => trivial, fun _ => ⟨v, fun _ => ⟨v, fun _ _ => trivial⟩, fun _ => trivial⟩⟩, fun w => absurd q1 w⟩, Or.inl ⟨hc0, fun r1 q1 => ⟨fun w => absurd (q1.symm.trans w) (by decide), fun _ => ⟨⟨v, fun _ => ⟨v, fun _ _ => trivial⟩, fun _ => ⟨v, fun _ _ => trivial⟩⟩, fun _ _ _ _ => trivial⟩⟩, rfl, LB⟩⟩
    · have b1 : gR S 123 c = 1 := (h01 c).resolve_left b
      rw [if_neg b, if_pos b1]
      have hs : sR S 123 (upd (gR S 123) c 1) = S := by rw [upd_same b1, sR_same]
      rw [hs]
      exact ⟨fun r1 q1 => ⟨fun _ S4 q4 => ⟨fun _ => trivial, fun _ => ⟨v, fun _ => ⟨v, fun _ _ => trivial⟩, fun _ => trivial⟩⟩, fun w => absurd q1 w⟩, Or.inl ⟨hc0, fun r1 q1 => ⟨fun w => absurd (q1.symm.trans w) (by decide), fun _ => ⟨⟨v, fun _ => ⟨v, fun _ _ => trivial⟩, fun _ => ⟨v, fun _ _ => trivial⟩⟩, fun _ _ _ _ => trivial⟩⟩, rfl, R0⟩⟩
set_option maxHeartbeats 1000000 in
theorem lkR_clearWatch : lk_clearWatch Rel := by
  rintro S T a ⟨tr, t, g, n, u, q, z, e, h, k, L⟩
  have R0 : Rel S (sI T 124 10 0) := ⟨tr, t, g, n, u, q, z, e, h, k, RL_code L 0⟩
  have R1 : Rel S (sI T 124 10 1) := ⟨tr, t, g, n, u, q, z, e, h, k, RL_code L 1⟩
  have hB : gR T 128 = gR S 123 := L.1.2.2.2.1
  have h01 : ∀ j, gR S 123 j = 0 ∨ gR S 123 j = 1 := L.1.2.2.2.2.2.2.2.2.2.2.2.2.2
  have hc1 := code_at T 1
  have hc0 := code_at T 0
  unfold p_Mo_clearWatch p_RM_clearWatch tp_RM_clearWatch_IOOBE f_RM_clearWatch f_Mo_clearWatch
  simp only [px_let_id]
  rcases out_wi a 32 with ⟨w1, w2⟩ | ⟨w1, w2⟩
  · rw [w1, w2, if_neg (show ¬ (1 : Int32) = 0 by decide), hc1, if_pos (show (0 : Int32) < 1 by decide)]
    refine ⟨fun r1 q1 => ⟨fun w => absurd (q1.symm.trans w) (by decide), fun _ S12 q12 => ⟨fun _ => trivial, fun w => absurd ?_ w⟩⟩, Or.inr ⟨hc1, fun r1 q1 => ⟨fun _ => trivial, fun w => absurd q1 w⟩, R1⟩⟩
    subst q12
    rw [hc1]; decide
  · obtain ⟨c, hc, rfl⟩ := wi_get (n := 32) (by decide) (show ¬ f_RM_within a 32 = 0 by rw [w1]; decide)
    have v : vp_in (Int32.ofNat c) 32 := vin_of hc (by decide)
    have ec : (Int32.ofNat c).toNatClampNeg = c := n32_clamp (by omega)
    have LB : Rel (sR S 123 (upd (gR S 123) c 0)) (sR (sI T 124 10 0) 128 (upd (gR S 123) c 0)) := ⟨tr, t, g, n, u, q, z, e, h, k, RL_W (RL_code L 0) _ (upd_01 h01 (Or.inl rfl))⟩
    have ev : vp_nar .boolean 0 = 0 := by decide
    unfold f_RM_markW p_RM_markW
    simp only [px_let_id]
    rw [w1, w2, if_neg (show ¬ (1 : Int32) = 0 by decide), if_pos (show (0 : Int32) = 0 from rfl), hc0, if_neg (show ¬ (0 : Int32) < 0 by decide), ec, ev, gR_sI, hB]
    by_cases b : gR S 123 c = 0
    · have b1 : gR S 123 c = 0 := b
      rw [if_pos b, if_pos b]
      have hs : sR S 123 (upd (gR S 123) c 0) = S := by rw [upd_same b1, sR_same]
      rw [hs]
      exact ⟨fun r1 q1 => ⟨fun _ S4 q4 => ⟨fun _ => trivial, fun _ => ⟨v, fun _ => trivial, fun _ => ⟨v, fun _ _ => trivial⟩⟩⟩, fun w => absurd q1 w⟩, Or.inl ⟨hc0, fun r1 q1 => ⟨fun w => absurd (q1.symm.trans w) (by decide), fun _ => ⟨⟨v, fun _ => ⟨v, fun _ _ => trivial⟩, fun _ => ⟨v, fun _ _ => trivial⟩⟩, fun _ _ _ _ => trivial⟩⟩, rfl, R0⟩⟩
    · rw [if_neg b, if_neg b]
      exact ⟨fun r1 q1 => ⟨fun _ S4 q4 => ⟨fun _ => trivial, fun _ => ⟨v, fun _ => trivial, fun _ => ⟨v, fun _ _ => trivial⟩⟩⟩, fun w => absurd q1 w⟩, Or.inl ⟨hc0, fun r1 q1 => ⟨fun w => absurd (q1.symm.trans w) (by decide), fun _ => ⟨⟨v, fun _ => ⟨v, fun _ _ => trivial⟩, fun _ => ⟨v, fun _ _ => trivial⟩⟩, fun _ _ _ _ => trivial⟩⟩, rfl, LB⟩⟩
set_option maxHeartbeats 1000000 in
theorem lkR_poke : lk_poke Rel := by
  rintro S T a w ⟨tr, t, g, n, u, q, z, e, h, k, L⟩
  have R1 : Rel S (sI T 124 10 1) := ⟨tr, t, g, n, u, q, z, e, h, k, RL_code L 1⟩
  have R2 : Rel S (sI T 124 10 2) := ⟨tr, t, g, n, u, q, z, e, h, k, RL_code L 2⟩
  have e04 : gI S 0 4 = Int32.ofNat g := L.1.2.2.2.2.2.2.2.1
  have e18 : gI T 124 18 = Int32.ofNat g := L.1.2.2.2.2.2.2.2.2.1
  have hg3 : g ≤ 3000 := L.1.2.2.2.2.2.2.2.2.2.1
  have l1 : gR T 125 = gR S 2 := L.1.1
  have hc0 := code_at T 0
  have hc1 := code_at T 1
  have hc2 := code_at T 2
  have n1 : ¬ (1 : Int32) = 0 := by decide
  have n2 : ¬ (2 : Int32) = 0 := by decide
  unfold p_Mo_poke f_Mo_poke p_RM_poke f_RM_poke tp_RM_poke_IOOBE tp_RM_poke_ISE
  simp only [px_let_id]
  rw [e04, e18]
  rcases wi_cases a 64 with ⟨w1, w2⟩ | ⟨w1, w2, w3⟩
  · have pS : ∀ r1 : Int32, r1 = f_RM_within a 64 → (r1 = 0 → True) ∧ (¬ r1 = 0 → (Int32.ofNat g ≤ 0 → False) ∧ (¬ Int32.ofNat g ≤ 0 → False)) := fun r1 q1 => ⟨fun _ => trivial, fun x => absurd (q1.trans w1) x⟩
    by_cases ha : a < 0
    · rw [if_pos ha, hc1, if_neg n1]
      refine ⟨⟨fun _ S2 q2 => ⟨fun x => ?_, fun _ => trivial⟩, fun x => absurd ha x⟩, Or.inr (Or.inl ⟨hc1, pS, R1⟩)⟩
      subst q2
      rw [hc1] at x
      exact absurd x n1
    · have h64 : ¬ a < 64 := fun x => by
        rcases w2 with w2 | w2
        · exact ha w2
        · exact Int32.not_lt.mpr w2 x
      rw [if_neg ha, if_neg h64, hc1, if_neg n1]
      refine ⟨⟨fun x => absurd x ha, fun _ => ⟨fun x => absurd x h64, fun _ S2 q2 => ⟨fun x => ?_, fun _ => trivial⟩⟩⟩, Or.inr (Or.inl ⟨hc1, pS, R1⟩)⟩
      subst q2
      rw [hc1] at x
      exact absurd x n1
  · have h64 : a < 64 := Int32.not_le.mp w3
    obtain ⟨c, hc, rfl⟩ := wi_get (n := 64) (by decide) (show ¬ f_RM_within a 64 = 0 by rw [w1]; decide)
    have v : vp_in (Int32.ofNat c) 64 := vin_of hc (by decide)
    have ec : (Int32.ofNat c).toNatClampNeg = c := n32_clamp (by omega)
    have hgz : (Int32.ofNat g ≤ 0) ↔ g = 0 := by rw [show (0 : Int32) = Int32.ofNat 0 from rfl, n32_le (by omega) (by decide)]; omega
    by_cases hg : g = 0
    · have hg' : Int32.ofNat g ≤ 0 := hgz.mpr hg
      rw [w1, if_neg w2, if_pos h64, if_pos hg', hc0, if_pos (show (0 : Int32) = 0 from rfl), if_neg n1, if_pos hg', ec, gR_sI, l1]
      exact ⟨⟨fun x => absurd x w2, fun _ => ⟨fun _ => ⟨fun _ S10 q10 => ⟨fun _ => ⟨v, fun _ _ => trivial⟩, fun _ => trivial⟩, fun x => absurd hg' x⟩, fun x => absurd h64 x⟩⟩, Or.inl ⟨hc0, fun r1 q1 => ⟨fun x => absurd (q1.symm.trans x) n1, fun _ => ⟨fun _ => ⟨v, fun _ _ => trivial⟩, fun x => absurd hg' x⟩⟩, ⟨tr, t, g, n, u, q, z, e, h, k, RL_P (RL_code L 0) hg _⟩⟩⟩
    · have hg' : ¬ Int32.ofNat g ≤ 0 := fun x => hg (hgz.mp x)
      rw [if_neg w2, if_pos h64, if_neg hg', hc2, if_neg n2]
      refine ⟨⟨fun x => absurd x w2, fun _ => ⟨fun _ => ⟨fun x => absurd x hg', fun _ S16 q16 => ⟨fun x => ?_, fun _ => trivial⟩⟩, fun x => absurd h64 x⟩⟩, Or.inr (Or.inr ⟨hc2, fun r1 q1 => ⟨fun x => absurd (w1.symm.trans (q1.symm.trans x)) n1, fun _ => ⟨fun x => absurd x hg', fun _ => trivial⟩⟩, R2⟩)⟩
      subst q16
      rw [hc2] at x
      exact absurd x n2
set_option maxHeartbeats 1000000 in
theorem lkR_input : lk_input Rel := by
  rintro S T v ⟨tr, t, g, n, u, q, z, e, h, k, L⟩
  have R0 : Rel S (sI T 124 10 0) := ⟨tr, t, g, n, u, q, z, e, h, k, RL_code L 0⟩
  have l5 : gI S 1 4 = Int32.ofNat n := L.1.2.2.2.2.1
  have l6 : gI T 124 11 = Int32.ofNat n := L.1.2.2.2.2.2.1
  have l7 : n ≤ 40 := L.1.2.2.2.2.2.2.1
  have e11 : gI (sI T 124 10 0) 124 11 = Int32.ofNat n := (code_ne _ _ (by decide)).trans l6
  have x40 : (Int32.ofNat n = 40) ↔ n = 40 := n32_eq (b := 40) (by omega) (by decide)
  have y40 : (Int32.ofNat n < 40) ↔ n < 40 := n32_lt (b := 40) (by omega) (by decide)
  unfold p_Mo_input f_Mo_input p_RM_input f_RM_input p_Ma_addInput f_Ma_addInput
  simp only [px_let_id, gI_sR]
  rw [l5, e11]
  by_cases hn : n = 40
  · have x1 : Int32.ofNat n = 40 := x40.mpr hn
    have x2 : ¬ Int32.ofNat n < 40 := fun w => by rw [y40] at w; omega
    rw [if_neg x2, if_pos x1]
    exact ⟨fun S1 q1 => ⟨fun _ => trivial, fun w => absurd (by subst q1; rw [e11]; exact x1) w⟩, ⟨⟨fun w => absurd w x2, fun _ => trivial⟩, fun _ _ _ _ => trivial⟩, rfl, R0⟩
  · have x1 : ¬ Int32.ofNat n = 40 := fun w => hn (x40.mp w)
    have x2 : Int32.ofNat n < 40 := y40.mpr (by omega)
    have vn : vp_in (Int32.ofNat n) 40 := vin_of (by omega) (by decide)
    have LI := RL_I (RL_code L 0) (show n < 40 by omega) v
    rw [if_pos x2, if_neg x1, n32_clamp (n := n) (by omega)]
    refine ⟨fun S1 q1 => ⟨fun _ => trivial, fun _ => ⟨by subst q1; rw [e11]; exact vn, fun _ _ _ _ => trivial⟩⟩, ⟨⟨fun _ => ⟨vn, fun _ _ _ _ => trivial⟩, fun _ => trivial⟩, fun _ _ _ _ => trivial⟩, ?_, ⟨tr, t, g, n + 1, u, q, z, e, h, k, LI⟩⟩
    dsimp only
    rw [gI_sI, if_pos ⟨rfl, rfl⟩, gI_sI, if_pos ⟨rfl, rfl⟩]
theorem lkR_step : lk_step Rel := by
  rintro S T ⟨tr, t, g, n, u, q, z, e, h, k, L⟩
  obtain ⟨b1, b2, b3, b4, b5, tr', t', g', u', q', z', e', h', k', b6, b7⟩ := adv (RL_c0 (RL_code L 0))
  unfold p_Mo_step p_RM_step f_RM_step f_Mo_step
  simp only [px_let_id]
  exact ⟨fun S1 q1 S3 q3 => by subst q1; subst q3; exact ⟨b2, fun _ _ _ _ => trivial⟩, fun S1 q1 => by subst q1; exact ⟨b1, fun _ _ _ _ => trivial⟩, b3, ⟨tr', t', g', n, u', q', z', e', h', k', b6⟩⟩
set_option maxHeartbeats 1000000 in
theorem lkR_go : lk_go Rel := by
  rintro S T a ⟨tr, t, g, n, u, q, z, e, h, k, L⟩
  have R1 : Rel S (sI T 124 10 1) := ⟨tr, t, g, n, u, q, z, e, h, k, RL_code L 1⟩
  have e04 : gI S 0 4 = Int32.ofNat g := L.1.2.2.2.2.2.2.2.1
  have e18 : gI T 124 18 = Int32.ofNat g := L.1.2.2.2.2.2.2.2.2.1
  have hg3 : g ≤ 3000 := L.1.2.2.2.2.2.2.2.2.2.1
  have htg : t ≤ g := L.2.2.2.2.2.2.1
  have hc0 := code_at T 0
  have hc1 := code_at T 1
  have c1 : ¬ (1 : Int32) ≤ 0 := by decide
  have c0 : (0 : Int32) ≤ 0 := by decide
  unfold p_Mo_go f_Mo_go p_RM_go f_RM_go tp_RM_go_IAE
  simp only [px_let_id]
  rw [e18, e04]
  by_cases ha : a < 0
  · rw [if_pos ha, hc1, if_neg c1]
    refine ⟨⟨fun _ S2 q2 => ⟨fun w => absurd w ?_, fun _ => trivial⟩, fun w => absurd ha w⟩, Or.inr ⟨hc1, ⟨fun _ => trivial, fun w => absurd ha w⟩, R1⟩⟩
    subst q2; rw [hc1]; exact c1
  by_cases hg : ¬ a ≤ Int32.ofNat g
  · rw [if_neg ha, if_neg hg, hc1, if_neg c1]
    refine ⟨⟨fun w => absurd w ha, fun _ => ⟨fun w => absurd w hg, fun _ S33 q33 => ⟨fun w => absurd w ?_, fun _ => trivial⟩⟩⟩, Or.inr ⟨hc1, ⟨fun _ => trivial, fun _ => ⟨fun w => absurd w hg, fun _ => trivial⟩⟩, R1⟩⟩
    subst q33; rw [hc1]; exact c1
  have hg : a ≤ Int32.ofNat g := Decidable.not_not.mp hg
  obtain ⟨to, hto, rfl⟩ := n32_of ha
  have hl : to ≤ g := by rw [n32_le hto (by omega)] at hg; exact hg
  have L1 := RL_c0 (RL_code L 0)
  have e12 : gI (sI (sI T 124 10 0) 124 20 0) 124 12 = Int32.ofNat t := L1.2.2.2.2.2.1.1.trans (L1.2.2.2.2.2.2.2.2.2.2 t htg).1
  have h10 : gI (sI (sI T 124 10 0) 124 20 0) 124 10 = 0 := by rw [gI_sI, if_neg (by decide)]; exact hc0
  have hx : (Int32.ofNat to = Int32.ofNat t) ↔ to = t := n32_eq hto (by omega)
  rw [if_neg ha, if_pos hg, hc0, if_pos c0, e12, if_neg ha, if_pos hg]
  by_cases htt : to = t
  · subst htt
    obtain ⟨s1, q', L2⟩ := stay L1
    obtain ⟨s2, s3, h', k', L3⟩ := seek_same L2
    rw [if_pos rfl]
    refine ⟨⟨fun w => absurd w ha, fun _ => ⟨fun _ S18 q18 => ⟨fun _ S21 q21 => ?_, fun _ => trivial⟩, fun w => absurd hg w⟩⟩, Or.inl ⟨s3.trans h10, ⟨fun w => absurd w ha, fun _ => ⟨fun _ S3 q3 => ?_, fun w => absurd hg w⟩⟩, ⟨tr, to, g, n, u, q', z, e, h', k', L3⟩⟩⟩
    · subst q18; subst q21
      exact ⟨fun _ => ⟨s2, fun _ _ => trivial⟩, fun w => absurd e12.symm w⟩
    · subst q3
      exact ⟨s1, fun _ _ => trivial⟩
  · obtain ⟨s1, s2, s3, s4, u', q', h', k', L3⟩ := goto L1 hl htt
    have hx' : ¬ Int32.ofNat to = Int32.ofNat t := fun w => htt (hx.mp w)
    rw [if_neg hx']
    refine ⟨⟨fun w => absurd w ha, fun _ => ⟨fun _ S18 q18 => ⟨fun _ S21 q21 => ?_, fun _ => trivial⟩, fun w => absurd hg w⟩⟩, Or.inl ⟨s4.trans h10, ⟨fun w => absurd w ha, fun _ => ⟨fun _ S3 q3 => ?_, fun w => absurd hg w⟩⟩, ⟨tr, to, g, n, u', q', z, e, h', k', L3⟩⟩⟩
    · subst q18; subst q21
      exact ⟨fun w => absurd (w.trans e12) hx', fun _ => ⟨s2, fun S28 q28 => by subst q28; exact ⟨s3, fun _ _ => trivial⟩⟩⟩
    · subst q3
      exact ⟨s1, fun _ _ => trivial⟩
