def f_Ma_perform (S : xS)  : Int32 × xS := px_let (f_RM_within (gI S 4 1) 64) (fun r1 : Int32 => if r1 = 0 then ((0 : Int32), S) else px_let ((f_Un_begin S 4).2) (fun S7 : xS => px_let (sN S7 (f_Un_begin S 4).1) (fun S9 : xS => px_let (sI S9 4 0 ((gI S9 4 0) + 1)) (fun S11 : xS => px_let (sI S11 4 1 ((gI S11 4 1) + 1)) (fun S13 : xS => px_let (sI S13 4 6 (-1)) (fun S15 : xS => if ((gR S 2 (gI S 4 1).toNatClampNeg) &&& 31) = 1 then px_let ((f_Ma_push S15 ((gR S 2 (gI S 4 1).toNatClampNeg) >>> ((5 : Int32) &&& 31))).2) (fun S19 : xS => ((0 : Int32), S19)) else if ((gR S 2 (gI S 4 1).toNatClampNeg) &&& 31) = 2 then px_let (sI S15 4 5 ((gI S15 4 5) - 1)) (fun S22 : xS => ((0 : Int32), S22)) else if ((gR S 2 (gI S 4 1).toNatClampNeg) &&& 31) = 3 then px_let (f_Ma_fromTop S15 0) (fun r26 : Int32 => px_let ((f_Ma_push S15 r26).2) (fun S29 : xS => ((0 : Int32), S29))) else if ((gR S 2 (gI S 4 1).toNatClampNeg) &&& 31) = 4 then px_let ((f_Ma_exchange S15 ).2) (fun S33 : xS => ((0 : Int32), S33)) else if ((gR S 2 (gI S 4 1).toNatClampNeg) &&& 31) = 5 then px_let (f_Ma_fromTop S15 1) (fun r37 : Int32 => px_let (f_Ma_fromTop S15 0) (fun r40 : Int32 => px_let (f_Ma_result ((gR S 2 (gI S 4 1).toNatClampNeg) &&& 31) r37 r40) (fun r43 : Int32 => px_let ((f_Ma_replaceTwo S15 r43).2) (fun S46 : xS => ((0 : Int32), S46))))) else if ((gR S 2 (gI S 4 1).toNatClampNeg) &&& 31) = 6 then px_let (f_Ma_fromTop S15 1) (fun r50 : Int32 => px_let (f_Ma_fromTop S15 0) (fun r53 : Int32 => px_let (f_Ma_result ((gR S 2 (gI S 4 1).toNatClampNeg) &&& 31) r50 r53) (fun r56 : Int32 => px_let ((f_Ma_replaceTwo S15 r56).2) (fun S59 : xS => ((0 : Int32), S59))))) else if ((gR S 2 (gI S 4 1).toNatClampNeg) &&& 31) = 7 then px_let (f_Ma_fromTop S15 1) (fun r63 : Int32 => px_let (f_Ma_fromTop S15 0) (fun r66 : Int32 => px_let (f_Ma_result ((gR S 2 (gI S 4 1).toNatClampNeg) &&& 31) r63 r66) (fun r69 : Int32 => px_let ((f_Ma_replaceTwo S15 r69).2) (fun S72 : xS => ((0 : Int32), S72))))) else if ((gR S 2 (gI S 4 1).toNatClampNeg) &&& 31) = 8 then px_let (f_Ma_fromTop S15 1) (fun r76 : Int32 => px_let (f_Ma_fromTop S15 0) (fun r79 : Int32 => px_let (f_Ma_result ((gR S 2 (gI S 4 1).toNatClampNeg) &&& 31) r76 r79) (fun r82 : Int32 => px_let ((f_Ma_replaceTwo S15 r82).2) (fun S85 : xS => ((0 : Int32), S85))))) else if ((gR S 2 (gI S 4 1).toNatClampNeg) &&& 31) = 9 then px_let (f_Ma_fromTop S15 1) (fun r89 : Int32 => px_let (f_Ma_fromTop S15 0) (fun r92 : Int32 => px_let (f_Ma_result ((gR S 2 (gI S 4 1).toNatClampNeg) &&& 31) r89 r92) (fun r95 : Int32 => px_let ((f_Ma_replaceTwo S15 r95).2) (fun S98 : xS => ((0 : Int32), S98))))) else if ((gR S 2 (gI S 4 1).toNatClampNeg) &&& 31) = 10 then px_let ((f_Ma_load S15 ).2) (fun S102 : xS => ((0 : Int32), S102)) else if ((gR S 2 (gI S 4 1).toNatClampNeg) &&& 31) = 11 then px_let ((f_Ma_store S15 ).2) (fun S106 : xS => ((0 : Int32), S106)) else if ((gR S 2 (gI S 4 1).toNatClampNeg) &&& 31) = 12 then px_let (sI S15 4 1 ((gR S 2 (gI S 4 1).toNatClampNeg) >>> ((5 : Int32) &&& 31))) (fun S109 : xS => ((0 : Int32), S109)) else if ((gR S 2 (gI S 4 1).toNatClampNeg) &&& 31) = 13 then px_let (f_Ma_fromTop S15 0) (fun r113 : Int32 => if r113 = 0 then px_let ((f_Ma_jumpIf S15 1 ((gR S 2 (gI S 4 1).toNatClampNeg) >>> ((5 : Int32) &&& 31))).2) (fun S116 : xS => ((0 : Int32), S116)) else px_let ((f_Ma_jumpIf S15 0 ((gR S 2 (gI S 4 1).toNatClampNeg) >>> ((5 : Int32) &&& 31))).2) (fun S118 : xS => ((0 : Int32), S118))) else if ((gR S 2 (gI S 4 1).toNatClampNeg) &&& 31) = 14 then px_let (f_Ma_fromTop S15 0) (fun r122 : Int32 => if 0 ≤ r122 then px_let ((f_Ma_jumpIf S15 0 ((gR S 2 (gI S 4 1).toNatClampNeg) >>> ((5 : Int32) &&& 31))).2) (fun S125 : xS => ((0 : Int32), S125)) else px_let ((f_Ma_jumpIf S15 1 ((gR S 2 (gI S 4 1).toNatClampNeg) >>> ((5 : Int32) &&& 31))).2) (fun S127 : xS => ((0 : Int32), S127))) else if ((gR S 2 (gI S 4 1).toNatClampNeg) &&& 31) = 15 then px_let ((f_Ma_enter S15 ((gR S 2 (gI S 4 1).toNatClampNeg) >>> ((5 : Int32) &&& 31))).2) (fun S131 : xS => ((0 : Int32), S131)) else if ((gR S 2 (gI S 4 1).toNatClampNeg) &&& 31) = 16 then px_let ((f_Ma_leave S15 ).2) (fun S135 : xS => ((0 : Int32), S135)) else if ((gR S 2 (gI S 4 1).toNatClampNeg) &&& 31) = 17 then px_let (f_Ma_argumentPlace S15 ((gR S 2 (gI S 4 1).toNatClampNeg) >>> ((5 : Int32) &&& 31))) (fun r138 : Int32 => px_let (f_St_number S15 4 r138) (fun r141 : Int32 => px_let ((f_Ma_push S15 r141).2) (fun S144 : xS => ((0 : Int32), S144)))) else if ((gR S 2 (gI S 4 1).toNatClampNeg) &&& 31) = 18 then px_let ((f_Ma_takeInput S15 ).2) (fun S148 : xS => ((0 : Int32), S148)) else if ((gR S 2 (gI S 4 1).toNatClampNeg) &&& 31) = 19 then px_let ((f_Ma_pushRandom S15 ((gR S 2 (gI S 4 1).toNatClampNeg) >>> ((5 : Int32) &&& 31))).2) (fun S152 : xS => ((0 : Int32), S152)) else if ((gR S 2 (gI S 4 1).toNatClampNeg) &&& 31) = 20 then px_let ((f_Ma_push S15 (gI S15 4 2)).2) (fun S156 : xS => ((0 : Int32), S156)) else ((0 : Int32), S15)))))))
def p_Ma_perform (S : xS)  : Prop := (∀ r1 : Int32, r1 = (f_RM_within (gI S 4 1) 64) → (r1 = 0 → True) ∧ (¬ r1 = 0 → (vp_in (gI S 4 1) 64) ∧ ((vp_in (gI S 4 1) 64) ∧ ((p_Un_begin S 4) ∧ ((∀ S7 : xS, S7 = (f_Un_begin S 4).2 → (∀ S9 : xS, S9 = sN S7 (f_Un_begin S 4).1 → (∀ S11 : xS, S11 = sI S9 4 0 ((gI S9 4 0) + 1) → (∀ S13 : xS, S13 = sI S11 4 1 ((gI S11 4 1) + 1) → (∀ S15 : xS, S15 = sI S13 4 6 (-1) → (((gR S 2 (gI S 4 1).toNatClampNeg) &&& 31) = 1 → (p_Ma_push S15 ((gR S 2 (gI S 4 1).toNatClampNeg) >>> ((5 : Int32) &&& 31))) ∧ ((∀ S19 : xS, S19 = (f_Ma_push S15 ((gR S 2 (gI S 4 1).toNatClampNeg) >>> ((5 : Int32) &&& 31))).2 → True))) ∧ (¬ ((gR S 2 (gI S 4 1).toNatClampNeg) &&& 31) = 1 → (((gR S 2 (gI S 4 1).toNatClampNeg) &&& 31) = 2 → (∀ S22 : xS, S22 = sI S15 4 5 ((gI S15 4 5) - 1) → True)) ∧ (¬ ((gR S 2 (gI S 4 1).toNatClampNeg) &&& 31) = 2 → (((gR S 2 (gI S 4 1).toNatClampNeg) &&& 31) = 3 → (p_Ma_fromTop S15 0) ∧ ((∀ r26 : Int32, r26 = (f_Ma_fromTop S15 0) → (p_Ma_push S15 r26) ∧ ((∀ S29 : xS, S29 = (f_Ma_push S15 r26).2 → True))))) ∧ (¬ ((gR S 2 (gI S 4 1).toNatClampNeg) &&& 31) = 3 → (((gR S 2 (gI S 4 1).toNatClampNeg) &&& 31) = 4 → (p_Ma_exchange S15) ∧ ((∀ S33 : xS, S33 = (f_Ma_exchange S15 ).2 → True))) ∧ (¬ ((gR S 2 (gI S 4 1).toNatClampNeg) &&& 31) = 4 → (((gR S 2 (gI S 4 1).toNatClampNeg) &&& 31) = 5 → (p_Ma_fromTop S15 1) ∧ ((∀ r37 : Int32, r37 = (f_Ma_fromTop S15 1) → (p_Ma_fromTop S15 0) ∧ ((∀ r40 : Int32, r40 = (f_Ma_fromTop S15 0) → (p_Ma_result ((gR S 2 (gI S 4 1).toNatClampNeg) &&& 31) r37 r40) ∧ ((∀ r43 : Int32, r43 = (f_Ma_result ((gR S 2 (gI S 4 1).toNatClampNeg) &&& 31) r37 r40) → (p_Ma_replaceTwo S15 r43) ∧ ((∀ S46 : xS, S46 = (f_Ma_replaceTwo S15 r43).2 → True))))))))) ∧ (¬ ((gR S 2 (gI S 4 1).toNatClampNeg) &&& 31) = 5 → (((gR S 2 (gI S 4 1).toNatClampNeg) &&& 31) = 6 → (p_Ma_fromTop S15 1) ∧ ((∀ r50 : Int32, r50 = (f_Ma_fromTop S15 1) → (p_Ma_fromTop S15 0) ∧ ((∀ r53 : Int32, r53 = (f_Ma_fromTop S15 0) → (p_Ma_result ((gR S 2 (gI S 4 1).toNatClampNeg) &&& 31) r50 r53) ∧ ((∀ r56 : Int32, r56 = (f_Ma_result ((gR S 2 (gI S 4 1).toNatClampNeg) &&& 31) r50 r53) → (p_Ma_replaceTwo S15 r56) ∧ ((∀ S59 : xS, S59 = (f_Ma_replaceTwo S15 r56).2 → True))))))))) ∧ (¬ ((gR S 2 (gI S 4 1).toNatClampNeg) &&& 31) = 6 → (((gR S 2 (gI S 4 1).toNatClampNeg) &&& 31) = 7 → (p_Ma_fromTop S15 1) ∧ ((∀ r63 : Int32, r63 = (f_Ma_fromTop S15 1) → (p_Ma_fromTop S15 0) ∧ ((∀ r66 : Int32, r66 = (f_Ma_fromTop S15 0) → (p_Ma_result ((gR S 2 (gI S 4 1).toNatClampNeg) &&& 31) r63 r66) ∧ ((∀ r69 : Int32, r69 = (f_Ma_result ((gR S 2 (gI S 4 1).toNatClampNeg) &&& 31) r63 r66) → (p_Ma_replaceTwo S15 r69) ∧ ((∀ S72 : xS, S72 = (f_Ma_replaceTwo S15 r69).2 → True))))))))) ∧ (¬ ((gR S 2 (gI S 4 1).toNatClampNeg) &&& 31) = 7 → (((gR S 2 (gI S 4 1).toNatClampNeg) &&& 31) = 8 → (p_Ma_fromTop S15 1) ∧ ((∀ r76 : Int32, r76 = (f_Ma_fromTop S15 1) → (p_Ma_fromTop S15 0) ∧ ((∀ r79 : Int32, r79 = (f_Ma_fromTop S15 0) → (p_Ma_result ((gR S 2 (gI S 4 1).toNatClampNeg) &&& 31) r76 r79) ∧ ((∀ r82 : Int32, r82 = (f_Ma_result ((gR S 2 (gI S 4 1).toNatClampNeg) &&& 31) r76 r79) → (p_Ma_replaceTwo S15 r82) ∧ ((∀ S85 : xS, S85 = (f_Ma_replaceTwo S15 r82).2 → True))))))))) ∧ (¬ ((gR S 2 (gI S 4 1).toNatClampNeg) &&& 31) = 8 → (((gR S 2 (gI S 4 1).toNatClampNeg) &&& 31) = 9 → (p_Ma_fromTop S15 1) ∧ ((∀ r89 : Int32, r89 = (f_Ma_fromTop S15 1) → (p_Ma_fromTop S15 0) ∧ ((∀ r92 : Int32, r92 = (f_Ma_fromTop S15 0) → (p_Ma_result ((gR S 2 (gI S 4 1).toNatClampNeg) &&& 31) r89 r92) ∧ ((∀ r95 : Int32, r95 = (f_Ma_result ((gR S 2 (gI S 4 1).toNatClampNeg) &&& 31) r89 r92) → (p_Ma_replaceTwo S15 r95) ∧ ((∀ S98 : xS, S98 = (f_Ma_replaceTwo S15 r95).2 → True))))))))) ∧ (¬ ((gR S 2 (gI S 4 1).toNatClampNeg) &&& 31) = 9 → (((gR S 2 (gI S 4 1).toNatClampNeg) &&& 31) = 10 → (p_Ma_load S15) ∧ ((∀ S102 : xS, S102 = (f_Ma_load S15 ).2 → True))) ∧ (¬ ((gR S 2 (gI S 4 1).toNatClampNeg) &&& 31) = 10 → (((gR S 2 (gI S 4 1).toNatClampNeg) &&& 31) = 11 → (p_Ma_store S15) ∧ ((∀ S106 : xS, S106 = (f_Ma_store S15 ).2 → True))) ∧ (¬ ((gR S 2 (gI S 4 1).toNatClampNeg) &&& 31) = 11 → (((gR S 2 (gI S 4 1).toNatClampNeg) &&& 31) = 12 → (∀ S109 : xS, S109 = sI S15 4 1 ((gR S 2 (gI S 4 1).toNatClampNeg) >>> ((5 : Int32) &&& 31)) → True)) ∧ (¬ ((gR S 2 (gI S 4 1).toNatClampNeg) &&& 31) = 12 → (((gR S 2 (gI S 4 1).toNatClampNeg) &&& 31) = 13 → (p_Ma_fromTop S15 0) ∧ ((∀ r113 : Int32, r113 = (f_Ma_fromTop S15 0) → (r113 = 0 → (∀ S116 : xS, S116 = (f_Ma_jumpIf S15 1 ((gR S 2 (gI S 4 1).toNatClampNeg) >>> ((5 : Int32) &&& 31))).2 → True)) ∧ (¬ r113 = 0 → (∀ S118 : xS, S118 = (f_Ma_jumpIf S15 0 ((gR S 2 (gI S 4 1).toNatClampNeg) >>> ((5 : Int32) &&& 31))).2 → True))))) ∧ (¬ ((gR S 2 (gI S 4 1).toNatClampNeg) &&& 31) = 13 → (((gR S 2 (gI S 4 1).toNatClampNeg) &&& 31) = 14 → (p_Ma_fromTop S15 0) ∧ ((∀ r122 : Int32, r122 = (f_Ma_fromTop S15 0) → (0 ≤ r122 → (∀ S125 : xS, S125 = (f_Ma_jumpIf S15 0 ((gR S 2 (gI S 4 1).toNatClampNeg) >>> ((5 : Int32) &&& 31))).2 → True)) ∧ (¬ 0 ≤ r122 → (∀ S127 : xS, S127 = (f_Ma_jumpIf S15 1 ((gR S 2 (gI S 4 1).toNatClampNeg) >>> ((5 : Int32) &&& 31))).2 → True))))) ∧ (¬ ((gR S 2 (gI S 4 1).toNatClampNeg) &&& 31) = 14 → (((gR S 2 (gI S 4 1).toNatClampNeg) &&& 31) = 15 → (p_Ma_enter S15 ((gR S 2 (gI S 4 1).toNatClampNeg) >>> ((5 : Int32) &&& 31))) ∧ ((∀ S131 : xS, S131 = (f_Ma_enter S15 ((gR S 2 (gI S 4 1).toNatClampNeg) >>> ((5 : Int32) &&& 31))).2 → True))) ∧ (¬ ((gR S 2 (gI S 4 1).toNatClampNeg) &&& 31) = 15 → (((gR S 2 (gI S 4 1).toNatClampNeg) &&& 31) = 16 → (p_Ma_leave S15) ∧ ((∀ S135 : xS, S135 = (f_Ma_leave S15 ).2 → True))) ∧ (¬ ((gR S 2 (gI S 4 1).toNatClampNeg) &&& 31) = 16 → (((gR S 2 (gI S 4 1).toNatClampNeg) &&& 31) = 17 → (∀ r138 : Int32, r138 = (f_Ma_argumentPlace S15 ((gR S 2 (gI S 4 1).toNatClampNeg) >>> ((5 : Int32) &&& 31))) → (p_St_number S15 4 r138) ∧ ((∀ r141 : Int32, r141 = (f_St_number S15 4 r138) → (p_Ma_push S15 r141) ∧ ((∀ S144 : xS, S144 = (f_Ma_push S15 r141).2 → True)))))) ∧ (¬ ((gR S 2 (gI S 4 1).toNatClampNeg) &&& 31) = 17 → (((gR S 2 (gI S 4 1).toNatClampNeg) &&& 31) = 18 → (p_Ma_takeInput S15) ∧ ((∀ S148 : xS, S148 = (f_Ma_takeInput S15 ).2 → True))) ∧ (¬ ((gR S 2 (gI S 4 1).toNatClampNeg) &&& 31) = 18 → (((gR S 2 (gI S 4 1).toNatClampNeg) &&& 31) = 19 → (p_Ma_pushRandom S15 ((gR S 2 (gI S 4 1).toNatClampNeg) >>> ((5 : Int32) &&& 31))) ∧ ((∀ S152 : xS, S152 = (f_Ma_pushRandom S15 ((gR S 2 (gI S 4 1).toNatClampNeg) >>> ((5 : Int32) &&& 31))).2 → True))) ∧ (¬ ((gR S 2 (gI S 4 1).toNatClampNeg) &&& 31) = 19 → (((gR S 2 (gI S 4 1).toNatClampNeg) &&& 31) = 20 → (p_Ma_push S15 (gI S15 4 2)) ∧ ((∀ S156 : xS, S156 = (f_Ma_push S15 (gI S15 4 2)).2 → True))) ∧ (¬ ((gR S 2 (gI S 4 1).toNatClampNeg) &&& 31) = 20 → True))))))))))))))))))))))))))))))
abbrev rm_Ma_perform : Room := { frames := 4, cells := 0, slots := 0, locals := 86 }
set_option maxHeartbeats 4000000 in
set_option maxRecDepth 100000 in
theorem c_Ma_perform (l : Launch) (D : va_G) (aC : Nat → ClassId) (ad : Nat → Nat) (n : Nat) (hn : 124 ≤ n) (c0 : Nat → va_E) (S : xS)   (hp : p_Ma_perform S ) : px_M l y_Ma_perform (Cond.code y_Ma_perform b_Ma_perform 3 none :: WS) rm_Ma_perform GG D CLS (TYS aC) [.ref (ad 1)] ad (xe aC ad S c0) n none (xe aC ad (f_Ma_perform S).2 c0) := by
  obtain ⟨F, hF⟩ : ∃ F, F = f_Ma_perform S := ⟨_, rfl⟩
  rw [← hF]
  unfold f_Ma_perform at hF
  refine px_start GG_k (by decide) (Nat.le_of_ble_eq_true rfl) ?_
  intro p e s m args below meth cd X hr hk
  refine j_L (L' := [(0, .ref (ad 1))]) rfl ?_
  unfold p_Ma_perform at hp
  refine j_aload_n X d_Ma_perform_0 0 rfl ?_
  refine j_get X fd_Ma_23_Ma 1 (by omega) x_Ma rfl d_Ma_perform_1 ?_
  refine j_get X fd_Ma_46_St 4 (k_lt k_4 hn) (x_St k_4) rfl d_Ma_perform_4 ?_
  refine j_bipush X (v := 64) d_Ma_perform_7 (by decide) ?_
  refine j_callPN (st := []) X hY_RM_within (c_RM_within l (gI S 4 1) 64 ) X.2.2.2.2.2.2.1 hT_RM_within rfl rfl (Nat.le_of_ble_eq_true rfl) d_Ma_perform_9 rfl rfl ⟨by decide, by decide⟩ ⟨Nat.zero_le _, Nat.zero_le _⟩ (j_st (st' := [.int (f_RM_within (gI S 4 1) 64)]) rfl ?_)
  refine j_topi (fun r1 e2 => ?_)
  replace hp := hp r1 e2
  replace hF := hF.trans (px_let_eq e2)
  refine j_if_ne X (tgt := 16) d_Ma_perform_12 (by decide) (fun h3 => ?_) (fun h3 => ?_)
  · replace hp := hp.2 h3
    replace hF := hF.trans (if_neg h3)
    refine j_aload_n X d_Ma_perform_16 0 rfl ?_
    refine j_get X fd_Ma_9_Ma 1 (by omega) x_Ma rfl d_Ma_perform_17 ?_
    refine j_aload_n X d_Ma_perform_20 0 rfl ?_
    refine j_get X fd_Ma_23_Ma 1 (by omega) x_Ma rfl d_Ma_perform_21 ?_
    refine j_get X fd_Ma_46_St 4 (k_lt k_4 hn) (x_St k_4) rfl d_Ma_perform_24 ?_
    obtain ⟨o4, hp⟩ := hp
    refine j_iald X 2 0 (by omega) x_code rfl o4 d_Ma_perform_27 ?_
    refine j_bipush X (v := 31) d_Ma_perform_28 (by decide) ?_
    refine j_iand X d_Ma_perform_30 ?_
    refine j_istore_n X d_Ma_perform_31 [(1, .int ((gR S 2 (gI S 4 1).toNatClampNeg) &&& 31)), (0, .ref (ad 1))] (by decide) rfl ?_
    refine j_aload_n X d_Ma_perform_32 1 rfl ?_
    refine j_get X fd_Ma_9_Ma 1 (by omega) x_Ma rfl d_Ma_perform_33 ?_
    refine j_aload_n X d_Ma_perform_36 1 rfl ?_
    refine j_get X fd_Ma_23_Ma 1 (by omega) x_Ma rfl d_Ma_perform_37 ?_
    refine j_get X fd_Ma_46_St 4 (k_lt k_4 hn) (x_St k_4) rfl d_Ma_perform_40 ?_
    obtain ⟨o5, hp⟩ := hp
    refine j_iald X 2 0 (by omega) x_code rfl o5 d_Ma_perform_43 ?_
    refine j_iconst X (v := 5) d_Ma_perform_44 (by decide) ?_
    refine j_ishr X d_Ma_perform_45 ?_
    refine j_istore_n X d_Ma_perform_46 [(2, .int ((gR S 2 (gI S 4 1).toNatClampNeg) >>> ((5 : Int32) &&& 31))), (1, .int ((gR S 2 (gI S 4 1).toNatClampNeg) &&& 31)), (0, .ref (ad 1))] (by decide) rfl ?_
    refine j_aload_n X d_Ma_perform_47 2 rfl ?_
    refine j_aload_n X d_Ma_perform_48 2 rfl ?_
    refine j_get X fd_Ma_30_Ma 1 (by omega) x_Ma rfl d_Ma_perform_49 ?_
    refine j_aload_n X d_Ma_perform_52 2 rfl ?_
    refine j_get X fd_Ma_23_Ma 1 (by omega) x_Ma rfl d_Ma_perform_53 ?_
    obtain ⟨o6, hp⟩ := hp
    refine j_callV (st := [.ref (ad 1)]) X 6 (by omega) hY_Un_begin (c_Un_begin l D aC ad n hn c0 S 4 k_4 o6) mw_247 hI_Un_begin hS_Un_begin x_Un rfl rfl rfl (Nat.le_of_ble_eq_true rfl) d_Ma_perform_56 rfl rfl ⟨by decide, by decide⟩ ⟨Nat.zero_le _, Nat.zero_le _⟩ (j_st (st' := [.ref (ad (iN (f_Un_begin S 4).1)), .ref (ad 1)]) rfl ?_)
    refine x_gen (fun S7 e8 => ?_)
    replace hp := hp S7 e8
    replace hF := hF.trans (px_let_eq e8)
    refine j_put X fp_Ma_38_Ma 1 (by omega) x_Ma (Nat.le_of_ble_eq_true rfl) rfl rfl d_Ma_perform_59 (j_w (x_putMa_5 (k := (f_Un_begin S 4).1)) ?_)
    refine x_gen (fun S9 e10 => ?_)
    replace hp := hp S9 e10
    replace hF := hF.trans (px_let_eq e10)
    refine j_aload_n X d_Ma_perform_62 2 rfl ?_
    refine j_get X fd_Ma_23_Ma 1 (by omega) x_Ma rfl d_Ma_perform_63 ?_
    refine j_dup X d_Ma_perform_66 rfl ?_
    refine j_get X fd_Ma_85_St 4 (k_lt k_4 hn) (x_St k_4) rfl d_Ma_perform_67 ?_
    refine j_iconst X (v := 1) d_Ma_perform_70 (by decide) ?_
    refine j_iadd X d_Ma_perform_71 ?_
    refine j_put X fp_Ma_85_St 4 (k_lt k_4 hn) (x_St k_4) (Nat.le_of_ble_eq_true rfl) rfl rfl d_Ma_perform_72 (j_w (x_putSt_0 k_4) ?_)
    refine x_gen (fun S11 e12 => ?_)
    replace hp := hp S11 e12
    replace hF := hF.trans (px_let_eq e12)
    refine j_aload_n X d_Ma_perform_75 2 rfl ?_
    refine j_get X fd_Ma_23_Ma 1 (by omega) x_Ma rfl d_Ma_perform_76 ?_
    refine j_dup X d_Ma_perform_79 rfl ?_
    refine j_get X fd_Ma_46_St 4 (k_lt k_4 hn) (x_St k_4) rfl d_Ma_perform_80 ?_
    refine j_iconst X (v := 1) d_Ma_perform_83 (by decide) ?_
    refine j_iadd X d_Ma_perform_84 ?_
    refine j_put X fp_Ma_46_St 4 (k_lt k_4 hn) (x_St k_4) (Nat.le_of_ble_eq_true rfl) rfl rfl d_Ma_perform_85 (j_w (x_putSt_1 k_4) ?_)
    refine x_gen (fun S13 e14 => ?_)
    replace hp := hp S13 e14
    replace hF := hF.trans (px_let_eq e14)
    refine j_aload_n X d_Ma_perform_88 2 rfl ?_
    refine j_get X fd_Ma_23_Ma 1 (by omega) x_Ma rfl d_Ma_perform_89 ?_
    refine j_iconst X (v := (-1)) d_Ma_perform_92 (by decide) ?_
    refine j_put X fp_Ma_88_St 4 (k_lt k_4 hn) (x_St k_4) (Nat.le_of_ble_eq_true rfl) rfl rfl d_Ma_perform_93 (j_w (x_putSt_6 k_4) ?_)
    refine x_gen (fun S15 e16 => ?_)
    replace hp := hp S15 e16
    replace hF := hF.trans (px_let_eq e16)
    refine j_iload_n X d_Ma_perform_96 1 rfl ?_
    by_cases h17 : ((gR S 2 (gI S 4 1).toNatClampNeg) &&& 31) = 1
    · replace hp := hp.1 h17
      replace hF := hF.trans (if_pos h17)
      refine j_tableIn X (tgt := 192) d_Ma_perform_97 (by rw [h17]; decide) (by rw [h17]; decide) (by rw [h17]; rfl) (by decide) ?_
      refine j_aload_n X d_Ma_perform_192 2 rfl ?_
      refine j_iload_n X d_Ma_perform_193 0 rfl ?_
      obtain ⟨o18, hp⟩ := hp
      refine j_callV (st := []) X 1 (by omega) hY_Ma_push (c_Ma_push l D aC ad n hn c0 S15 ((gR S 2 (gI S 4 1).toNatClampNeg) >>> ((5 : Int32) &&& 31))  o18) mw_264 hI_Ma_push hS_Ma_push x_Ma rfl rfl rfl (Nat.le_of_ble_eq_true rfl) d_Ma_perform_194 rfl rfl ⟨by decide, by decide⟩ ⟨Nat.zero_le _, Nat.zero_le _⟩ (j_st (st' := []) rfl ?_)
      refine x_gen (fun S19 e20 => ?_)
      replace hp := hp S19 e20
      replace hF := hF.trans (px_let_eq e20)
      refine j_goto X (tgt := 386) d_Ma_perform_197 (by decide) ?_
      exact j_vret X hr hk rfl (by rw [hF]) d_Ma_perform_386
    replace hp := hp.2 h17
    replace hF := hF.trans (if_neg h17)
    by_cases h21 : ((gR S 2 (gI S 4 1).toNatClampNeg) &&& 31) = 2
    · replace hp := hp.1 h21
      replace hF := hF.trans (if_pos h21)
      refine j_tableIn X (tgt := 200) d_Ma_perform_97 (by rw [h21]; decide) (by rw [h21]; decide) (by rw [h21]; rfl) (by decide) ?_
      refine j_aload_n X d_Ma_perform_200 2 rfl ?_
      refine j_get X fd_Ma_23_Ma 1 (by omega) x_Ma rfl d_Ma_perform_201 ?_
      refine j_dup X d_Ma_perform_204 rfl ?_
      refine j_get X fd_Ma_63_St 4 (k_lt k_4 hn) (x_St k_4) rfl d_Ma_perform_205 ?_
      refine j_iconst X (v := 1) d_Ma_perform_208 (by decide) ?_
      refine j_isub X d_Ma_perform_209 ?_
      refine j_put X fp_Ma_63_St 4 (k_lt k_4 hn) (x_St k_4) (Nat.le_of_ble_eq_true rfl) rfl rfl d_Ma_perform_210 (j_w (x_putSt_5 k_4) ?_)
      refine x_gen (fun S22 e23 => ?_)
      replace hp := hp S22 e23
      replace hF := hF.trans (px_let_eq e23)
      refine j_goto X (tgt := 386) d_Ma_perform_213 (by decide) ?_
      exact j_vret X hr hk rfl (by rw [hF]) d_Ma_perform_386
    replace hp := hp.2 h21
    replace hF := hF.trans (if_neg h21)
    by_cases h24 : ((gR S 2 (gI S 4 1).toNatClampNeg) &&& 31) = 3
    · replace hp := hp.1 h24
      replace hF := hF.trans (if_pos h24)
      refine j_tableIn X (tgt := 216) d_Ma_perform_97 (by rw [h24]; decide) (by rw [h24]; decide) (by rw [h24]; rfl) (by decide) ?_
      refine j_aload_n X d_Ma_perform_216 2 rfl ?_
      refine j_aload_n X d_Ma_perform_217 2 rfl ?_
      refine j_iconst X (v := 0) d_Ma_perform_218 (by decide) ?_
      obtain ⟨o25, hp⟩ := hp
      refine j_callV (st := [.ref (ad 1)]) X 1 (by omega) hY_Ma_fromTop (c_Ma_fromTop l D aC ad n hn c0 S15 0  o25) mw_232 hI_Ma_fromTop hS_Ma_fromTop x_Ma rfl rfl rfl (Nat.le_of_ble_eq_true rfl) d_Ma_perform_219 rfl rfl ⟨by decide, by decide⟩ ⟨Nat.zero_le _, Nat.zero_le _⟩ (j_st (st' := [.int (f_Ma_fromTop S15 0), .ref (ad 1)]) rfl ?_)
      refine j_topi (fun r26 e27 => ?_)
      replace hp := hp r26 e27
      replace hF := hF.trans (px_let_eq e27)
      obtain ⟨o28, hp⟩ := hp
      refine j_callV (st := []) X 1 (by omega) hY_Ma_push (c_Ma_push l D aC ad n hn c0 S15 r26  o28) mw_264 hI_Ma_push hS_Ma_push x_Ma rfl rfl rfl (Nat.le_of_ble_eq_true rfl) d_Ma_perform_222 rfl rfl ⟨by decide, by decide⟩ ⟨Nat.zero_le _, Nat.zero_le _⟩ (j_st (st' := []) rfl ?_)
      refine x_gen (fun S29 e30 => ?_)
      replace hp := hp S29 e30
      replace hF := hF.trans (px_let_eq e30)
      refine j_goto X (tgt := 386) d_Ma_perform_225 (by decide) ?_
      exact j_vret X hr hk rfl (by rw [hF]) d_Ma_perform_386
    replace hp := hp.2 h24
    replace hF := hF.trans (if_neg h24)
    by_cases h31 : ((gR S 2 (gI S 4 1).toNatClampNeg) &&& 31) = 4
    · replace hp := hp.1 h31
      replace hF := hF.trans (if_pos h31)
      refine j_tableIn X (tgt := 228) d_Ma_perform_97 (by rw [h31]; decide) (by rw [h31]; decide) (by rw [h31]; rfl) (by decide) ?_
      refine j_aload_n X d_Ma_perform_228 2 rfl ?_
      obtain ⟨o32, hp⟩ := hp
      refine j_callV (st := []) X 1 (by omega) hY_Ma_exchange (c_Ma_exchange l D aC ad n hn c0 S15   o32) mw_276 hI_Ma_exchange hS_Ma_exchange x_Ma rfl rfl rfl (Nat.le_of_ble_eq_true rfl) d_Ma_perform_229 rfl rfl ⟨by decide, by decide⟩ ⟨Nat.zero_le _, Nat.zero_le _⟩ (j_st (st' := []) rfl ?_)
      refine x_gen (fun S33 e34 => ?_)
      replace hp := hp S33 e34
      replace hF := hF.trans (px_let_eq e34)
      refine j_goto X (tgt := 386) d_Ma_perform_232 (by decide) ?_
      exact j_vret X hr hk rfl (by rw [hF]) d_Ma_perform_386
    replace hp := hp.2 h31
    replace hF := hF.trans (if_neg h31)
    by_cases h35 : ((gR S 2 (gI S 4 1).toNatClampNeg) &&& 31) = 5
    · replace hp := hp.1 h35
      replace hF := hF.trans (if_pos h35)
      refine j_tableIn X (tgt := 235) d_Ma_perform_97 (by rw [h35]; decide) (by rw [h35]; decide) (by rw [h35]; rfl) (by decide) ?_
      refine j_aload_n X d_Ma_perform_235 2 rfl ?_
      refine j_iload_n X d_Ma_perform_236 1 rfl ?_
      refine j_aload_n X d_Ma_perform_237 2 rfl ?_
      refine j_iconst X (v := 1) d_Ma_perform_238 (by decide) ?_
      obtain ⟨o36, hp⟩ := hp
      refine j_callV (st := [.int ((gR S 2 (gI S 4 1).toNatClampNeg) &&& 31), .ref (ad 1)]) X 1 (by omega) hY_Ma_fromTop (c_Ma_fromTop l D aC ad n hn c0 S15 1  o36) mw_232 hI_Ma_fromTop hS_Ma_fromTop x_Ma rfl rfl rfl (Nat.le_of_ble_eq_true rfl) d_Ma_perform_239 rfl rfl ⟨by decide, by decide⟩ ⟨Nat.zero_le _, Nat.zero_le _⟩ (j_st (st' := [.int (f_Ma_fromTop S15 1), .int ((gR S 2 (gI S 4 1).toNatClampNeg) &&& 31), .ref (ad 1)]) rfl ?_)
      refine j_topi (fun r37 e38 => ?_)
      replace hp := hp r37 e38
      replace hF := hF.trans (px_let_eq e38)
      refine j_aload_n X d_Ma_perform_242 2 rfl ?_
      refine j_iconst X (v := 0) d_Ma_perform_243 (by decide) ?_
      obtain ⟨o39, hp⟩ := hp
      refine j_callV (st := [.int r37, .int ((gR S 2 (gI S 4 1).toNatClampNeg) &&& 31), .ref (ad 1)]) X 1 (by omega) hY_Ma_fromTop (c_Ma_fromTop l D aC ad n hn c0 S15 0  o39) mw_232 hI_Ma_fromTop hS_Ma_fromTop x_Ma rfl rfl rfl (Nat.le_of_ble_eq_true rfl) d_Ma_perform_244 rfl rfl ⟨by decide, by decide⟩ ⟨Nat.zero_le _, Nat.zero_le _⟩ (j_st (st' := [.int (f_Ma_fromTop S15 0), .int r37, .int ((gR S 2 (gI S 4 1).toNatClampNeg) &&& 31), .ref (ad 1)]) rfl ?_)
      refine j_topi (fun r40 e41 => ?_)
      replace hp := hp r40 e41
      replace hF := hF.trans (px_let_eq e41)
      obtain ⟨o42, hp⟩ := hp
      refine j_callP (st := [.ref (ad 1)]) X hY_Ma_result (c_Ma_result l ((gR S 2 (gI S 4 1).toNatClampNeg) &&& 31) r37 r40 o42) mw_280 hT_Ma_result rfl rfl (Nat.le_of_ble_eq_true rfl) d_Ma_perform_247 rfl rfl ⟨by decide, by decide⟩ ⟨Nat.zero_le _, Nat.zero_le _⟩ (j_st (st' := [.int (f_Ma_result ((gR S 2 (gI S 4 1).toNatClampNeg) &&& 31) r37 r40), .ref (ad 1)]) rfl ?_)
      refine j_topi (fun r43 e44 => ?_)
      replace hp := hp r43 e44
      replace hF := hF.trans (px_let_eq e44)
      obtain ⟨o45, hp⟩ := hp
      refine j_callV (st := []) X 1 (by omega) hY_Ma_replaceTwo (c_Ma_replaceTwo l D aC ad n hn c0 S15 r43  o45) mw_283 hI_Ma_replaceTwo hS_Ma_replaceTwo x_Ma rfl rfl rfl (Nat.le_of_ble_eq_true rfl) d_Ma_perform_250 rfl rfl ⟨by decide, by decide⟩ ⟨Nat.zero_le _, Nat.zero_le _⟩ (j_st (st' := []) rfl ?_)
      refine x_gen (fun S46 e47 => ?_)
      replace hp := hp S46 e47
      replace hF := hF.trans (px_let_eq e47)
      refine j_goto X (tgt := 386) d_Ma_perform_253 (by decide) ?_
      exact j_vret X hr hk rfl (by rw [hF]) d_Ma_perform_386
    replace hp := hp.2 h35
    replace hF := hF.trans (if_neg h35)
    by_cases h48 : ((gR S 2 (gI S 4 1).toNatClampNeg) &&& 31) = 6
    · replace hp := hp.1 h48
      replace hF := hF.trans (if_pos h48)
      refine j_tableIn X (tgt := 235) d_Ma_perform_97 (by rw [h48]; decide) (by rw [h48]; decide) (by rw [h48]; rfl) (by decide) ?_
      refine j_aload_n X d_Ma_perform_235 2 rfl ?_
      refine j_iload_n X d_Ma_perform_236 1 rfl ?_
      refine j_aload_n X d_Ma_perform_237 2 rfl ?_
      refine j_iconst X (v := 1) d_Ma_perform_238 (by decide) ?_
      obtain ⟨o49, hp⟩ := hp
      refine j_callV (st := [.int ((gR S 2 (gI S 4 1).toNatClampNeg) &&& 31), .ref (ad 1)]) X 1 (by omega) hY_Ma_fromTop (c_Ma_fromTop l D aC ad n hn c0 S15 1  o49) mw_232 hI_Ma_fromTop hS_Ma_fromTop x_Ma rfl rfl rfl (Nat.le_of_ble_eq_true rfl) d_Ma_perform_239 rfl rfl ⟨by decide, by decide⟩ ⟨Nat.zero_le _, Nat.zero_le _⟩ (j_st (st' := [.int (f_Ma_fromTop S15 1), .int ((gR S 2 (gI S 4 1).toNatClampNeg) &&& 31), .ref (ad 1)]) rfl ?_)
      refine j_topi (fun r50 e51 => ?_)
      replace hp := hp r50 e51
      replace hF := hF.trans (px_let_eq e51)
      refine j_aload_n X d_Ma_perform_242 2 rfl ?_
      refine j_iconst X (v := 0) d_Ma_perform_243 (by decide) ?_
      obtain ⟨o52, hp⟩ := hp
      refine j_callV (st := [.int r50, .int ((gR S 2 (gI S 4 1).toNatClampNeg) &&& 31), .ref (ad 1)]) X 1 (by omega) hY_Ma_fromTop (c_Ma_fromTop l D aC ad n hn c0 S15 0  o52) mw_232 hI_Ma_fromTop hS_Ma_fromTop x_Ma rfl rfl rfl (Nat.le_of_ble_eq_true rfl) d_Ma_perform_244 rfl rfl ⟨by decide, by decide⟩ ⟨Nat.zero_le _, Nat.zero_le _⟩ (j_st (st' := [.int (f_Ma_fromTop S15 0), .int r50, .int ((gR S 2 (gI S 4 1).toNatClampNeg) &&& 31), .ref (ad 1)]) rfl ?_)
      refine j_topi (fun r53 e54 => ?_)
      replace hp := hp r53 e54
      replace hF := hF.trans (px_let_eq e54)
      obtain ⟨o55, hp⟩ := hp
      refine j_callP (st := [.ref (ad 1)]) X hY_Ma_result (c_Ma_result l ((gR S 2 (gI S 4 1).toNatClampNeg) &&& 31) r50 r53 o55) mw_280 hT_Ma_result rfl rfl (Nat.le_of_ble_eq_true rfl) d_Ma_perform_247 rfl rfl ⟨by decide, by decide⟩ ⟨Nat.zero_le _, Nat.zero_le _⟩ (j_st (st' := [.int (f_Ma_result ((gR S 2 (gI S 4 1).toNatClampNeg) &&& 31) r50 r53), .ref (ad 1)]) rfl ?_)
      refine j_topi (fun r56 e57 => ?_)
      replace hp := hp r56 e57
      replace hF := hF.trans (px_let_eq e57)
      obtain ⟨o58, hp⟩ := hp
      refine j_callV (st := []) X 1 (by omega) hY_Ma_replaceTwo (c_Ma_replaceTwo l D aC ad n hn c0 S15 r56  o58) mw_283 hI_Ma_replaceTwo hS_Ma_replaceTwo x_Ma rfl rfl rfl (Nat.le_of_ble_eq_true rfl) d_Ma_perform_250 rfl rfl ⟨by decide, by decide⟩ ⟨Nat.zero_le _, Nat.zero_le _⟩ (j_st (st' := []) rfl ?_)
      refine x_gen (fun S59 e60 => ?_)
      replace hp := hp S59 e60
      replace hF := hF.trans (px_let_eq e60)
      refine j_goto X (tgt := 386) d_Ma_perform_253 (by decide) ?_
      exact j_vret X hr hk rfl (by rw [hF]) d_Ma_perform_386
    replace hp := hp.2 h48
    replace hF := hF.trans (if_neg h48)
    by_cases h61 : ((gR S 2 (gI S 4 1).toNatClampNeg) &&& 31) = 7
    · replace hp := hp.1 h61
      replace hF := hF.trans (if_pos h61)
      refine j_tableIn X (tgt := 235) d_Ma_perform_97 (by rw [h61]; decide) (by rw [h61]; decide) (by rw [h61]; rfl) (by decide) ?_
      refine j_aload_n X d_Ma_perform_235 2 rfl ?_
      refine j_iload_n X d_Ma_perform_236 1 rfl ?_
      refine j_aload_n X d_Ma_perform_237 2 rfl ?_
      refine j_iconst X (v := 1) d_Ma_perform_238 (by decide) ?_
      obtain ⟨o62, hp⟩ := hp
      refine j_callV (st := [.int ((gR S 2 (gI S 4 1).toNatClampNeg) &&& 31), .ref (ad 1)]) X 1 (by omega) hY_Ma_fromTop (c_Ma_fromTop l D aC ad n hn c0 S15 1  o62) mw_232 hI_Ma_fromTop hS_Ma_fromTop x_Ma rfl rfl rfl (Nat.le_of_ble_eq_true rfl) d_Ma_perform_239 rfl rfl ⟨by decide, by decide⟩ ⟨Nat.zero_le _, Nat.zero_le _⟩ (j_st (st' := [.int (f_Ma_fromTop S15 1), .int ((gR S 2 (gI S 4 1).toNatClampNeg) &&& 31), .ref (ad 1)]) rfl ?_)
      refine j_topi (fun r63 e64 => ?_)
      replace hp := hp r63 e64
      replace hF := hF.trans (px_let_eq e64)
      refine j_aload_n X d_Ma_perform_242 2 rfl ?_
      refine j_iconst X (v := 0) d_Ma_perform_243 (by decide) ?_
      obtain ⟨o65, hp⟩ := hp
      refine j_callV (st := [.int r63, .int ((gR S 2 (gI S 4 1).toNatClampNeg) &&& 31), .ref (ad 1)]) X 1 (by omega) hY_Ma_fromTop (c_Ma_fromTop l D aC ad n hn c0 S15 0  o65) mw_232 hI_Ma_fromTop hS_Ma_fromTop x_Ma rfl rfl rfl (Nat.le_of_ble_eq_true rfl) d_Ma_perform_244 rfl rfl ⟨by decide, by decide⟩ ⟨Nat.zero_le _, Nat.zero_le _⟩ (j_st (st' := [.int (f_Ma_fromTop S15 0), .int r63, .int ((gR S 2 (gI S 4 1).toNatClampNeg) &&& 31), .ref (ad 1)]) rfl ?_)
      refine j_topi (fun r66 e67 => ?_)
      replace hp := hp r66 e67
      replace hF := hF.trans (px_let_eq e67)
      obtain ⟨o68, hp⟩ := hp
      refine j_callP (st := [.ref (ad 1)]) X hY_Ma_result (c_Ma_result l ((gR S 2 (gI S 4 1).toNatClampNeg) &&& 31) r63 r66 o68) mw_280 hT_Ma_result rfl rfl (Nat.le_of_ble_eq_true rfl) d_Ma_perform_247 rfl rfl ⟨by decide, by decide⟩ ⟨Nat.zero_le _, Nat.zero_le _⟩ (j_st (st' := [.int (f_Ma_result ((gR S 2 (gI S 4 1).toNatClampNeg) &&& 31) r63 r66), .ref (ad 1)]) rfl ?_)
      refine j_topi (fun r69 e70 => ?_)
      replace hp := hp r69 e70
      replace hF := hF.trans (px_let_eq e70)
      obtain ⟨o71, hp⟩ := hp
      refine j_callV (st := []) X 1 (by omega) hY_Ma_replaceTwo (c_Ma_replaceTwo l D aC ad n hn c0 S15 r69  o71) mw_283 hI_Ma_replaceTwo hS_Ma_replaceTwo x_Ma rfl rfl rfl (Nat.le_of_ble_eq_true rfl) d_Ma_perform_250 rfl rfl ⟨by decide, by decide⟩ ⟨Nat.zero_le _, Nat.zero_le _⟩ (j_st (st' := []) rfl ?_)
      refine x_gen (fun S72 e73 => ?_)
      replace hp := hp S72 e73
      replace hF := hF.trans (px_let_eq e73)
      refine j_goto X (tgt := 386) d_Ma_perform_253 (by decide) ?_
      exact j_vret X hr hk rfl (by rw [hF]) d_Ma_perform_386
    replace hp := hp.2 h61
    replace hF := hF.trans (if_neg h61)
    by_cases h74 : ((gR S 2 (gI S 4 1).toNatClampNeg) &&& 31) = 8
    · replace hp := hp.1 h74
      replace hF := hF.trans (if_pos h74)
      refine j_tableIn X (tgt := 235) d_Ma_perform_97 (by rw [h74]; decide) (by rw [h74]; decide) (by rw [h74]; rfl) (by decide) ?_
      refine j_aload_n X d_Ma_perform_235 2 rfl ?_
      refine j_iload_n X d_Ma_perform_236 1 rfl ?_
      refine j_aload_n X d_Ma_perform_237 2 rfl ?_
      refine j_iconst X (v := 1) d_Ma_perform_238 (by decide) ?_
      obtain ⟨o75, hp⟩ := hp
      refine j_callV (st := [.int ((gR S 2 (gI S 4 1).toNatClampNeg) &&& 31), .ref (ad 1)]) X 1 (by omega) hY_Ma_fromTop (c_Ma_fromTop l D aC ad n hn c0 S15 1  o75) mw_232 hI_Ma_fromTop hS_Ma_fromTop x_Ma rfl rfl rfl (Nat.le_of_ble_eq_true rfl) d_Ma_perform_239 rfl rfl ⟨by decide, by decide⟩ ⟨Nat.zero_le _, Nat.zero_le _⟩ (j_st (st' := [.int (f_Ma_fromTop S15 1), .int ((gR S 2 (gI S 4 1).toNatClampNeg) &&& 31), .ref (ad 1)]) rfl ?_)
      refine j_topi (fun r76 e77 => ?_)
      replace hp := hp r76 e77
      replace hF := hF.trans (px_let_eq e77)
      refine j_aload_n X d_Ma_perform_242 2 rfl ?_
      refine j_iconst X (v := 0) d_Ma_perform_243 (by decide) ?_
      obtain ⟨o78, hp⟩ := hp
      refine j_callV (st := [.int r76, .int ((gR S 2 (gI S 4 1).toNatClampNeg) &&& 31), .ref (ad 1)]) X 1 (by omega) hY_Ma_fromTop (c_Ma_fromTop l D aC ad n hn c0 S15 0  o78) mw_232 hI_Ma_fromTop hS_Ma_fromTop x_Ma rfl rfl rfl (Nat.le_of_ble_eq_true rfl) d_Ma_perform_244 rfl rfl ⟨by decide, by decide⟩ ⟨Nat.zero_le _, Nat.zero_le _⟩ (j_st (st' := [.int (f_Ma_fromTop S15 0), .int r76, .int ((gR S 2 (gI S 4 1).toNatClampNeg) &&& 31), .ref (ad 1)]) rfl ?_)
      refine j_topi (fun r79 e80 => ?_)
      replace hp := hp r79 e80
      replace hF := hF.trans (px_let_eq e80)
      obtain ⟨o81, hp⟩ := hp
      refine j_callP (st := [.ref (ad 1)]) X hY_Ma_result (c_Ma_result l ((gR S 2 (gI S 4 1).toNatClampNeg) &&& 31) r76 r79 o81) mw_280 hT_Ma_result rfl rfl (Nat.le_of_ble_eq_true rfl) d_Ma_perform_247 rfl rfl ⟨by decide, by decide⟩ ⟨Nat.zero_le _, Nat.zero_le _⟩ (j_st (st' := [.int (f_Ma_result ((gR S 2 (gI S 4 1).toNatClampNeg) &&& 31) r76 r79), .ref (ad 1)]) rfl ?_)
      refine j_topi (fun r82 e83 => ?_)
      replace hp := hp r82 e83
      replace hF := hF.trans (px_let_eq e83)
      obtain ⟨o84, hp⟩ := hp
      refine j_callV (st := []) X 1 (by omega) hY_Ma_replaceTwo (c_Ma_replaceTwo l D aC ad n hn c0 S15 r82  o84) mw_283 hI_Ma_replaceTwo hS_Ma_replaceTwo x_Ma rfl rfl rfl (Nat.le_of_ble_eq_true rfl) d_Ma_perform_250 rfl rfl ⟨by decide, by decide⟩ ⟨Nat.zero_le _, Nat.zero_le _⟩ (j_st (st' := []) rfl ?_)
      refine x_gen (fun S85 e86 => ?_)
      replace hp := hp S85 e86
      replace hF := hF.trans (px_let_eq e86)
      refine j_goto X (tgt := 386) d_Ma_perform_253 (by decide) ?_
      exact j_vret X hr hk rfl (by rw [hF]) d_Ma_perform_386
    replace hp := hp.2 h74
    replace hF := hF.trans (if_neg h74)
    by_cases h87 : ((gR S 2 (gI S 4 1).toNatClampNeg) &&& 31) = 9
    · replace hp := hp.1 h87
      replace hF := hF.trans (if_pos h87)
      refine j_tableIn X (tgt := 235) d_Ma_perform_97 (by rw [h87]; decide) (by rw [h87]; decide) (by rw [h87]; rfl) (by decide) ?_
      refine j_aload_n X d_Ma_perform_235 2 rfl ?_
      refine j_iload_n X d_Ma_perform_236 1 rfl ?_
      refine j_aload_n X d_Ma_perform_237 2 rfl ?_
      refine j_iconst X (v := 1) d_Ma_perform_238 (by decide) ?_
      obtain ⟨o88, hp⟩ := hp
      refine j_callV (st := [.int ((gR S 2 (gI S 4 1).toNatClampNeg) &&& 31), .ref (ad 1)]) X 1 (by omega) hY_Ma_fromTop (c_Ma_fromTop l D aC ad n hn c0 S15 1  o88) mw_232 hI_Ma_fromTop hS_Ma_fromTop x_Ma rfl rfl rfl (Nat.le_of_ble_eq_true rfl) d_Ma_perform_239 rfl rfl ⟨by decide, by decide⟩ ⟨Nat.zero_le _, Nat.zero_le _⟩ (j_st (st' := [.int (f_Ma_fromTop S15 1), .int ((gR S 2 (gI S 4 1).toNatClampNeg) &&& 31), .ref (ad 1)]) rfl ?_)
      refine j_topi (fun r89 e90 => ?_)
      replace hp := hp r89 e90
      replace hF := hF.trans (px_let_eq e90)
      refine j_aload_n X d_Ma_perform_242 2 rfl ?_
      refine j_iconst X (v := 0) d_Ma_perform_243 (by decide) ?_
      obtain ⟨o91, hp⟩ := hp
      refine j_callV (st := [.int r89, .int ((gR S 2 (gI S 4 1).toNatClampNeg) &&& 31), .ref (ad 1)]) X 1 (by omega) hY_Ma_fromTop (c_Ma_fromTop l D aC ad n hn c0 S15 0  o91) mw_232 hI_Ma_fromTop hS_Ma_fromTop x_Ma rfl rfl rfl (Nat.le_of_ble_eq_true rfl) d_Ma_perform_244 rfl rfl ⟨by decide, by decide⟩ ⟨Nat.zero_le _, Nat.zero_le _⟩ (j_st (st' := [.int (f_Ma_fromTop S15 0), .int r89, .int ((gR S 2 (gI S 4 1).toNatClampNeg) &&& 31), .ref (ad 1)]) rfl ?_)
      refine j_topi (fun r92 e93 => ?_)
      replace hp := hp r92 e93
      replace hF := hF.trans (px_let_eq e93)
      obtain ⟨o94, hp⟩ := hp
      refine j_callP (st := [.ref (ad 1)]) X hY_Ma_result (c_Ma_result l ((gR S 2 (gI S 4 1).toNatClampNeg) &&& 31) r89 r92 o94) mw_280 hT_Ma_result rfl rfl (Nat.le_of_ble_eq_true rfl) d_Ma_perform_247 rfl rfl ⟨by decide, by decide⟩ ⟨Nat.zero_le _, Nat.zero_le _⟩ (j_st (st' := [.int (f_Ma_result ((gR S 2 (gI S 4 1).toNatClampNeg) &&& 31) r89 r92), .ref (ad 1)]) rfl ?_)
      refine j_topi (fun r95 e96 => ?_)
      replace hp := hp r95 e96
      replace hF := hF.trans (px_let_eq e96)
      obtain ⟨o97, hp⟩ := hp
      refine j_callV (st := []) X 1 (by omega) hY_Ma_replaceTwo (c_Ma_replaceTwo l D aC ad n hn c0 S15 r95  o97) mw_283 hI_Ma_replaceTwo hS_Ma_replaceTwo x_Ma rfl rfl rfl (Nat.le_of_ble_eq_true rfl) d_Ma_perform_250 rfl rfl ⟨by decide, by decide⟩ ⟨Nat.zero_le _, Nat.zero_le _⟩ (j_st (st' := []) rfl ?_)
      refine x_gen (fun S98 e99 => ?_)
      replace hp := hp S98 e99
      replace hF := hF.trans (px_let_eq e99)
      refine j_goto X (tgt := 386) d_Ma_perform_253 (by decide) ?_
      exact j_vret X hr hk rfl (by rw [hF]) d_Ma_perform_386
    replace hp := hp.2 h87
    replace hF := hF.trans (if_neg h87)
    by_cases h100 : ((gR S 2 (gI S 4 1).toNatClampNeg) &&& 31) = 10
    · replace hp := hp.1 h100
      replace hF := hF.trans (if_pos h100)
      refine j_tableIn X (tgt := 256) d_Ma_perform_97 (by rw [h100]; decide) (by rw [h100]; decide) (by rw [h100]; rfl) (by decide) ?_
      refine j_aload_n X d_Ma_perform_256 2 rfl ?_
      obtain ⟨o101, hp⟩ := hp
      refine j_callV (st := []) X 1 (by omega) hY_Ma_load (c_Ma_load l D aC ad n hn c0 S15   o101) mw_287 hI_Ma_load hS_Ma_load x_Ma rfl rfl rfl (Nat.le_of_ble_eq_true rfl) d_Ma_perform_257 rfl rfl ⟨by decide, by decide⟩ ⟨Nat.zero_le _, Nat.zero_le _⟩ (j_st (st' := []) rfl ?_)
      refine x_gen (fun S102 e103 => ?_)
      replace hp := hp S102 e103
      replace hF := hF.trans (px_let_eq e103)
      refine j_goto X (tgt := 386) d_Ma_perform_260 (by decide) ?_
      exact j_vret X hr hk rfl (by rw [hF]) d_Ma_perform_386
    replace hp := hp.2 h100
    replace hF := hF.trans (if_neg h100)
    by_cases h104 : ((gR S 2 (gI S 4 1).toNatClampNeg) &&& 31) = 11
    · replace hp := hp.1 h104
      replace hF := hF.trans (if_pos h104)
      refine j_tableIn X (tgt := 263) d_Ma_perform_97 (by rw [h104]; decide) (by rw [h104]; decide) (by rw [h104]; rfl) (by decide) ?_
      refine j_aload_n X d_Ma_perform_263 2 rfl ?_
      obtain ⟨o105, hp⟩ := hp
      refine j_callV (st := []) X 1 (by omega) hY_Ma_store (c_Ma_store l D aC ad n hn c0 S15   o105) mw_291 hI_Ma_store hS_Ma_store x_Ma rfl rfl rfl (Nat.le_of_ble_eq_true rfl) d_Ma_perform_264 rfl rfl ⟨by decide, by decide⟩ ⟨Nat.zero_le _, Nat.zero_le _⟩ (j_st (st' := []) rfl ?_)
      refine x_gen (fun S106 e107 => ?_)
      replace hp := hp S106 e107
      replace hF := hF.trans (px_let_eq e107)
      refine j_goto X (tgt := 386) d_Ma_perform_267 (by decide) ?_
      exact j_vret X hr hk rfl (by rw [hF]) d_Ma_perform_386
    replace hp := hp.2 h104
    replace hF := hF.trans (if_neg h104)
    by_cases h108 : ((gR S 2 (gI S 4 1).toNatClampNeg) &&& 31) = 12
    · replace hp := hp.1 h108
      replace hF := hF.trans (if_pos h108)
      refine j_tableIn X (tgt := 270) d_Ma_perform_97 (by rw [h108]; decide) (by rw [h108]; decide) (by rw [h108]; rfl) (by decide) ?_
      refine j_aload_n X d_Ma_perform_270 2 rfl ?_
      refine j_get X fd_Ma_23_Ma 1 (by omega) x_Ma rfl d_Ma_perform_271 ?_
      refine j_iload_n X d_Ma_perform_274 0 rfl ?_
      refine j_put X fp_Ma_46_St 4 (k_lt k_4 hn) (x_St k_4) (Nat.le_of_ble_eq_true rfl) rfl rfl d_Ma_perform_275 (j_w (x_putSt_1 k_4) ?_)
      refine x_gen (fun S109 e110 => ?_)
      replace hp := hp S109 e110
      replace hF := hF.trans (px_let_eq e110)
      refine j_goto X (tgt := 386) d_Ma_perform_278 (by decide) ?_
      exact j_vret X hr hk rfl (by rw [hF]) d_Ma_perform_386
    replace hp := hp.2 h108
    replace hF := hF.trans (if_neg h108)
    by_cases h111 : ((gR S 2 (gI S 4 1).toNatClampNeg) &&& 31) = 13
    · replace hp := hp.1 h111
      replace hF := hF.trans (if_pos h111)
      refine j_tableIn X (tgt := 281) d_Ma_perform_97 (by rw [h111]; decide) (by rw [h111]; decide) (by rw [h111]; rfl) (by decide) ?_
      refine j_aload_n X d_Ma_perform_281 2 rfl ?_
      refine j_aload_n X d_Ma_perform_282 2 rfl ?_
      refine j_iconst X (v := 0) d_Ma_perform_283 (by decide) ?_
      obtain ⟨o112, hp⟩ := hp
      refine j_callV (st := [.ref (ad 1)]) X 1 (by omega) hY_Ma_fromTop (c_Ma_fromTop l D aC ad n hn c0 S15 0  o112) mw_232 hI_Ma_fromTop hS_Ma_fromTop x_Ma rfl rfl rfl (Nat.le_of_ble_eq_true rfl) d_Ma_perform_284 rfl rfl ⟨by decide, by decide⟩ ⟨Nat.zero_le _, Nat.zero_le _⟩ (j_st (st' := [.int (f_Ma_fromTop S15 0), .ref (ad 1)]) rfl ?_)
      refine j_topi (fun r113 e114 => ?_)
      replace hp := hp r113 e114
      replace hF := hF.trans (px_let_eq e114)
      refine j_if_ne X (tgt := 294) d_Ma_perform_287 (by decide) (fun h115 => ?_) (fun h115 => ?_)
      · replace hp := hp.2 h115
        replace hF := hF.trans (if_neg h115)
        refine j_iconst X (v := 0) d_Ma_perform_294 (by decide) ?_
        refine j_iload_n X d_Ma_perform_295 0 rfl ?_
        refine j_callV (st := []) X 1 (by omega) hY_Ma_jumpIf (c_Ma_jumpIf l D aC ad n hn c0 S15 0 ((gR S 2 (gI S 4 1).toNatClampNeg) >>> ((5 : Int32) &&& 31))  ) mw_295 hI_Ma_jumpIf hS_Ma_jumpIf x_Ma rfl rfl rfl (Nat.le_of_ble_eq_true rfl) d_Ma_perform_296 rfl rfl ⟨by decide, by decide⟩ ⟨Nat.zero_le _, Nat.zero_le _⟩ (j_st (st' := []) rfl ?_)
        refine x_gen (fun S118 e119 => ?_)
        replace hp := hp S118 e119
        replace hF := hF.trans (px_let_eq e119)
        refine j_goto X (tgt := 386) d_Ma_perform_299 (by decide) ?_
        exact j_vret X hr hk rfl (by rw [hF]) d_Ma_perform_386
      · replace hp := hp.1 h115
        replace hF := hF.trans (if_pos h115)
        refine j_iconst X (v := 1) d_Ma_perform_290 (by decide) ?_
        refine j_goto X (tgt := 295) d_Ma_perform_291 (by decide) ?_
        refine j_iload_n X d_Ma_perform_295 0 rfl ?_
        refine j_callV (st := []) X 1 (by omega) hY_Ma_jumpIf (c_Ma_jumpIf l D aC ad n hn c0 S15 1 ((gR S 2 (gI S 4 1).toNatClampNeg) >>> ((5 : Int32) &&& 31))  ) mw_295 hI_Ma_jumpIf hS_Ma_jumpIf x_Ma rfl rfl rfl (Nat.le_of_ble_eq_true rfl) d_Ma_perform_296 rfl rfl ⟨by decide, by decide⟩ ⟨Nat.zero_le _, Nat.zero_le _⟩ (j_st (st' := []) rfl ?_)
        refine x_gen (fun S116 e117 => ?_)
        replace hp := hp S116 e117
        replace hF := hF.trans (px_let_eq e117)
        refine j_goto X (tgt := 386) d_Ma_perform_299 (by decide) ?_
        exact j_vret X hr hk rfl (by rw [hF]) d_Ma_perform_386
    replace hp := hp.2 h111
    replace hF := hF.trans (if_neg h111)
    by_cases h120 : ((gR S 2 (gI S 4 1).toNatClampNeg) &&& 31) = 14
    · replace hp := hp.1 h120
      replace hF := hF.trans (if_pos h120)
      refine j_tableIn X (tgt := 302) d_Ma_perform_97 (by rw [h120]; decide) (by rw [h120]; decide) (by rw [h120]; rfl) (by decide) ?_
      refine j_aload_n X d_Ma_perform_302 2 rfl ?_
      refine j_aload_n X d_Ma_perform_303 2 rfl ?_
      refine j_iconst X (v := 0) d_Ma_perform_304 (by decide) ?_
      obtain ⟨o121, hp⟩ := hp
      refine j_callV (st := [.ref (ad 1)]) X 1 (by omega) hY_Ma_fromTop (c_Ma_fromTop l D aC ad n hn c0 S15 0  o121) mw_232 hI_Ma_fromTop hS_Ma_fromTop x_Ma rfl rfl rfl (Nat.le_of_ble_eq_true rfl) d_Ma_perform_305 rfl rfl ⟨by decide, by decide⟩ ⟨Nat.zero_le _, Nat.zero_le _⟩ (j_st (st' := [.int (f_Ma_fromTop S15 0), .ref (ad 1)]) rfl ?_)
      refine j_topi (fun r122 e123 => ?_)
      replace hp := hp r122 e123
      replace hF := hF.trans (px_let_eq e123)
      refine j_if_ge X (tgt := 315) d_Ma_perform_308 (by decide) (fun h124 => ?_) (fun h124 => ?_)
      · replace hp := hp.1 h124
        replace hF := hF.trans (if_pos h124)
        refine j_iconst X (v := 0) d_Ma_perform_315 (by decide) ?_
        refine j_iload_n X d_Ma_perform_316 0 rfl ?_
        refine j_callV (st := []) X 1 (by omega) hY_Ma_jumpIf (c_Ma_jumpIf l D aC ad n hn c0 S15 0 ((gR S 2 (gI S 4 1).toNatClampNeg) >>> ((5 : Int32) &&& 31))  ) mw_295 hI_Ma_jumpIf hS_Ma_jumpIf x_Ma rfl rfl rfl (Nat.le_of_ble_eq_true rfl) d_Ma_perform_317 rfl rfl ⟨by decide, by decide⟩ ⟨Nat.zero_le _, Nat.zero_le _⟩ (j_st (st' := []) rfl ?_)
        refine x_gen (fun S125 e126 => ?_)
        replace hp := hp S125 e126
        replace hF := hF.trans (px_let_eq e126)
        refine j_goto X (tgt := 386) d_Ma_perform_320 (by decide) ?_
        exact j_vret X hr hk rfl (by rw [hF]) d_Ma_perform_386
      · replace hp := hp.2 h124
        replace hF := hF.trans (if_neg h124)
        refine j_iconst X (v := 1) d_Ma_perform_311 (by decide) ?_
        refine j_goto X (tgt := 316) d_Ma_perform_312 (by decide) ?_
        refine j_iload_n X d_Ma_perform_316 0 rfl ?_
        refine j_callV (st := []) X 1 (by omega) hY_Ma_jumpIf (c_Ma_jumpIf l D aC ad n hn c0 S15 1 ((gR S 2 (gI S 4 1).toNatClampNeg) >>> ((5 : Int32) &&& 31))  ) mw_295 hI_Ma_jumpIf hS_Ma_jumpIf x_Ma rfl rfl rfl (Nat.le_of_ble_eq_true rfl) d_Ma_perform_317 rfl rfl ⟨by decide, by decide⟩ ⟨Nat.zero_le _, Nat.zero_le _⟩ (j_st (st' := []) rfl ?_)
        refine x_gen (fun S127 e128 => ?_)
        replace hp := hp S127 e128
        replace hF := hF.trans (px_let_eq e128)
        refine j_goto X (tgt := 386) d_Ma_perform_320 (by decide) ?_
        exact j_vret X hr hk rfl (by rw [hF]) d_Ma_perform_386
    replace hp := hp.2 h120
    replace hF := hF.trans (if_neg h120)
    by_cases h129 : ((gR S 2 (gI S 4 1).toNatClampNeg) &&& 31) = 15
    · replace hp := hp.1 h129
      replace hF := hF.trans (if_pos h129)
      refine j_tableIn X (tgt := 323) d_Ma_perform_97 (by rw [h129]; decide) (by rw [h129]; decide) (by rw [h129]; rfl) (by decide) ?_
      refine j_aload_n X d_Ma_perform_323 2 rfl ?_
      refine j_iload_n X d_Ma_perform_324 0 rfl ?_
      obtain ⟨o130, hp⟩ := hp
      refine j_callV (st := []) X 1 (by omega) hY_Ma_enter (c_Ma_enter l D aC ad n hn c0 S15 ((gR S 2 (gI S 4 1).toNatClampNeg) >>> ((5 : Int32) &&& 31))  o130) mw_299 hI_Ma_enter hS_Ma_enter x_Ma rfl rfl rfl (Nat.le_of_ble_eq_true rfl) d_Ma_perform_325 rfl rfl ⟨by decide, by decide⟩ ⟨Nat.zero_le _, Nat.zero_le _⟩ (j_st (st' := []) rfl ?_)
      refine x_gen (fun S131 e132 => ?_)
      replace hp := hp S131 e132
      replace hF := hF.trans (px_let_eq e132)
      refine j_goto X (tgt := 386) d_Ma_perform_328 (by decide) ?_
      exact j_vret X hr hk rfl (by rw [hF]) d_Ma_perform_386
    replace hp := hp.2 h129
    replace hF := hF.trans (if_neg h129)
    by_cases h133 : ((gR S 2 (gI S 4 1).toNatClampNeg) &&& 31) = 16
    · replace hp := hp.1 h133
      replace hF := hF.trans (if_pos h133)
      refine j_tableIn X (tgt := 331) d_Ma_perform_97 (by rw [h133]; decide) (by rw [h133]; decide) (by rw [h133]; rfl) (by decide) ?_
      refine j_aload_n X d_Ma_perform_331 2 rfl ?_
      obtain ⟨o134, hp⟩ := hp
      refine j_callV (st := []) X 1 (by omega) hY_Ma_leave (c_Ma_leave l D aC ad n hn c0 S15   o134) mw_303 hI_Ma_leave hS_Ma_leave x_Ma rfl rfl rfl (Nat.le_of_ble_eq_true rfl) d_Ma_perform_332 rfl rfl ⟨by decide, by decide⟩ ⟨Nat.zero_le _, Nat.zero_le _⟩ (j_st (st' := []) rfl ?_)
      refine x_gen (fun S135 e136 => ?_)
      replace hp := hp S135 e136
      replace hF := hF.trans (px_let_eq e136)
      refine j_goto X (tgt := 386) d_Ma_perform_335 (by decide) ?_
      exact j_vret X hr hk rfl (by rw [hF]) d_Ma_perform_386
    replace hp := hp.2 h133
    replace hF := hF.trans (if_neg h133)
    by_cases h137 : ((gR S 2 (gI S 4 1).toNatClampNeg) &&& 31) = 17
    · replace hp := hp.1 h137
      replace hF := hF.trans (if_pos h137)
      refine j_tableIn X (tgt := 338) d_Ma_perform_97 (by rw [h137]; decide) (by rw [h137]; decide) (by rw [h137]; rfl) (by decide) ?_
      refine j_aload_n X d_Ma_perform_338 2 rfl ?_
      refine j_aload_n X d_Ma_perform_339 2 rfl ?_
      refine j_get X fd_Ma_23_Ma 1 (by omega) x_Ma rfl d_Ma_perform_340 ?_
      refine j_aload_n X d_Ma_perform_343 2 rfl ?_
      refine j_iload_n X d_Ma_perform_344 0 rfl ?_
      refine j_callV (st := [.ref (ad 4), .ref (ad 1)]) X 1 (by omega) hY_Ma_argumentPlace (c_Ma_argumentPlace l D aC ad n hn c0 S15 ((gR S 2 (gI S 4 1).toNatClampNeg) >>> ((5 : Int32) &&& 31))  ) mw_226 hI_Ma_argumentPlace hS_Ma_argumentPlace x_Ma rfl rfl rfl (Nat.le_of_ble_eq_true rfl) d_Ma_perform_345 rfl rfl ⟨by decide, by decide⟩ ⟨Nat.zero_le _, Nat.zero_le _⟩ (j_st (st' := [.int (f_Ma_argumentPlace S15 ((gR S 2 (gI S 4 1).toNatClampNeg) >>> ((5 : Int32) &&& 31))), .ref (ad 4), .ref (ad 1)]) rfl ?_)
      refine j_topi (fun r138 e139 => ?_)
      replace hp := hp r138 e139
      replace hF := hF.trans (px_let_eq e139)
      obtain ⟨o140, hp⟩ := hp
      refine j_callV (st := [.ref (ad 1)]) X 4 (k_lt k_4 hn) hY_St_number (c_St_number l D aC ad n hn c0 S15 4 r138 k_4 o140) mw_236 hI_St_number hS_St_number (x_St k_4) rfl rfl rfl (Nat.le_of_ble_eq_true rfl) d_Ma_perform_348 rfl rfl ⟨by decide, by decide⟩ ⟨Nat.zero_le _, Nat.zero_le _⟩ (j_st (st' := [.int (f_St_number S15 4 r138), .ref (ad 1)]) rfl ?_)
      refine j_topi (fun r141 e142 => ?_)
      replace hp := hp r141 e142
      replace hF := hF.trans (px_let_eq e142)
      obtain ⟨o143, hp⟩ := hp
      refine j_callV (st := []) X 1 (by omega) hY_Ma_push (c_Ma_push l D aC ad n hn c0 S15 r141  o143) mw_264 hI_Ma_push hS_Ma_push x_Ma rfl rfl rfl (Nat.le_of_ble_eq_true rfl) d_Ma_perform_351 rfl rfl ⟨by decide, by decide⟩ ⟨Nat.zero_le _, Nat.zero_le _⟩ (j_st (st' := []) rfl ?_)
      refine x_gen (fun S144 e145 => ?_)
      replace hp := hp S144 e145
      replace hF := hF.trans (px_let_eq e145)
      refine j_goto X (tgt := 386) d_Ma_perform_354 (by decide) ?_
      exact j_vret X hr hk rfl (by rw [hF]) d_Ma_perform_386
    replace hp := hp.2 h137
    replace hF := hF.trans (if_neg h137)
    by_cases h146 : ((gR S 2 (gI S 4 1).toNatClampNeg) &&& 31) = 18
    · replace hp := hp.1 h146
      replace hF := hF.trans (if_pos h146)
      refine j_tableIn X (tgt := 357) d_Ma_perform_97 (by rw [h146]; decide) (by rw [h146]; decide) (by rw [h146]; rfl) (by decide) ?_
      refine j_aload_n X d_Ma_perform_357 2 rfl ?_
      obtain ⟨o147, hp⟩ := hp
      refine j_callV (st := []) X 1 (by omega) hY_Ma_takeInput (c_Ma_takeInput l D aC ad n hn c0 S15   o147) mw_307 hI_Ma_takeInput hS_Ma_takeInput x_Ma rfl rfl rfl (Nat.le_of_ble_eq_true rfl) d_Ma_perform_358 rfl rfl ⟨by decide, by decide⟩ ⟨Nat.zero_le _, Nat.zero_le _⟩ (j_st (st' := []) rfl ?_)
      refine x_gen (fun S148 e149 => ?_)
      replace hp := hp S148 e149
      replace hF := hF.trans (px_let_eq e149)
      refine j_goto X (tgt := 386) d_Ma_perform_361 (by decide) ?_
      exact j_vret X hr hk rfl (by rw [hF]) d_Ma_perform_386
    replace hp := hp.2 h146
    replace hF := hF.trans (if_neg h146)
    by_cases h150 : ((gR S 2 (gI S 4 1).toNatClampNeg) &&& 31) = 19
    · replace hp := hp.1 h150
      replace hF := hF.trans (if_pos h150)
      refine j_tableIn X (tgt := 364) d_Ma_perform_97 (by rw [h150]; decide) (by rw [h150]; decide) (by rw [h150]; rfl) (by decide) ?_
      refine j_aload_n X d_Ma_perform_364 2 rfl ?_
      refine j_iload_n X d_Ma_perform_365 0 rfl ?_
      obtain ⟨o151, hp⟩ := hp
      refine j_callV (st := []) X 1 (by omega) hY_Ma_pushRandom (c_Ma_pushRandom l D aC ad n hn c0 S15 ((gR S 2 (gI S 4 1).toNatClampNeg) >>> ((5 : Int32) &&& 31))  o151) mw_311 hI_Ma_pushRandom hS_Ma_pushRandom x_Ma rfl rfl rfl (Nat.le_of_ble_eq_true rfl) d_Ma_perform_366 rfl rfl ⟨by decide, by decide⟩ ⟨Nat.zero_le _, Nat.zero_le _⟩ (j_st (st' := []) rfl ?_)
      refine x_gen (fun S152 e153 => ?_)
      replace hp := hp S152 e153
      replace hF := hF.trans (px_let_eq e153)
      refine j_goto X (tgt := 386) d_Ma_perform_369 (by decide) ?_
      exact j_vret X hr hk rfl (by rw [hF]) d_Ma_perform_386
    replace hp := hp.2 h150
    replace hF := hF.trans (if_neg h150)
    by_cases h154 : ((gR S 2 (gI S 4 1).toNatClampNeg) &&& 31) = 20
    · replace hp := hp.1 h154
      replace hF := hF.trans (if_pos h154)
      refine j_tableIn X (tgt := 372) d_Ma_perform_97 (by rw [h154]; decide) (by rw [h154]; decide) (by rw [h154]; rfl) (by decide) ?_
      refine j_aload_n X d_Ma_perform_372 2 rfl ?_
      refine j_aload_n X d_Ma_perform_373 2 rfl ?_
      refine j_get X fd_Ma_23_Ma 1 (by omega) x_Ma rfl d_Ma_perform_374 ?_
      refine j_get X fd_Ma_69_St 4 (k_lt k_4 hn) (x_St k_4) rfl d_Ma_perform_377 ?_
      obtain ⟨o155, hp⟩ := hp
      refine j_callV (st := []) X 1 (by omega) hY_Ma_push (c_Ma_push l D aC ad n hn c0 S15 (gI S15 4 2)  o155) mw_264 hI_Ma_push hS_Ma_push x_Ma rfl rfl rfl (Nat.le_of_ble_eq_true rfl) d_Ma_perform_380 rfl rfl ⟨by decide, by decide⟩ ⟨Nat.zero_le _, Nat.zero_le _⟩ (j_st (st' := []) rfl ?_)
      refine x_gen (fun S156 e157 => ?_)
      replace hp := hp S156 e157
      replace hF := hF.trans (px_let_eq e157)
      refine j_goto X (tgt := 386) d_Ma_perform_383 (by decide) ?_
      exact j_vret X hr hk rfl (by rw [hF]) d_Ma_perform_386
    replace hp := hp.2 h154
    replace hF := hF.trans (if_neg h154)
    refine j_tableOut X (tgt := 386) d_Ma_perform_97 (by have := True.intro; have q0 := lv_neT h17 (a := 1) (by decide); have q1 := lv_neT h21 (a := 2) (by decide); have q2 := lv_neT h24 (a := 3) (by decide); have q3 := lv_neT h31 (a := 4) (by decide); have q4 := lv_neT h35 (a := 5) (by decide); have q5 := lv_neT h48 (a := 6) (by decide); have q6 := lv_neT h61 (a := 7) (by decide); have q7 := lv_neT h74 (a := 8) (by decide); have q8 := lv_neT h87 (a := 9) (by decide); have q9 := lv_neT h100 (a := 10) (by decide); have q10 := lv_neT h104 (a := 11) (by decide); have q11 := lv_neT h108 (a := 12) (by decide); have q12 := lv_neT h111 (a := 13) (by decide); have q13 := lv_neT h120 (a := 14) (by decide); have q14 := lv_neT h129 (a := 15) (by decide); have q15 := lv_neT h133 (a := 16) (by decide); have q16 := lv_neT h137 (a := 17) (by decide); have q17 := lv_neT h146 (a := 18) (by decide); have q18 := lv_neT h150 (a := 19) (by decide); have q19 := lv_neT h154 (a := 20) (by decide); omega) (by decide) ?_
    exact j_vret X hr hk rfl (by rw [hF]) d_Ma_perform_386
  · replace hp := hp.1 h3
    replace hF := hF.trans (if_pos h3)
    exact j_vret X hr hk rfl (by rw [hF]) d_Ma_perform_15
