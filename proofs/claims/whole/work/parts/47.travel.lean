def g_RM_travel  : Nat → xS → Int32 → Int32 → Int32 → Int32 × xS
  | 0, S, _, _, _ => ((0 : Int32), S)
  | k + 1, S, t, u, v => if u ≤ v then px_let (sI S 0 5 ((gI S 0 5) + u)) (fun S2 : xS => ((0 : Int32), S2)) else px_let ((f_Ma_perform S ).2) (fun S5 : xS => g_RM_travel k S5 t u (v + 1))
def q_RM_travel  : Nat → xS → Int32 → Int32 → Int32 → Prop
  | 0, _, _, _, _ => False
  | k + 1, S, t, u, v => (u ≤ v → (∀ S2 : xS, S2 = sI S 0 5 ((gI S 0 5) + u) → True)) ∧ (¬ u ≤ v → (p_Ma_perform S) ∧ ((∀ S5 : xS, S5 = (f_Ma_perform S ).2 → q_RM_travel k S5 t u (v + 1))))
def f_RM_travel (S : xS) (t : Int32) : Int32 × xS := if t = (gI S 4 0) then ((0 : Int32), S) else if (gI S 4 0) ≤ t then if t < (gI S 4 0) then px_let ((f_St_copyState S 4 (iS (f_Cp_latestUpTo S t))).2) (fun S5 : xS => px_let (sI S5 6 2 0) (fun S7 : xS => g_RM_travel 3001 S7 t (t - (gI S7 4 0)) 0)) else if (gI S (iS (f_Cp_latestUpTo S t)) 0) ≤ (gI S 4 0) then g_RM_travel 3001 S t (t - (gI S 4 0)) 0 else px_let ((f_St_copyState S 4 (iS (f_Cp_latestUpTo S t))).2) (fun S10 : xS => px_let (sI S10 6 2 0) (fun S12 : xS => g_RM_travel 3001 S12 t (t - (gI S12 4 0)) 0)) else if (gI S 6 2) < ((gI S 4 0) - t) then if t < (gI S 4 0) then px_let ((f_St_copyState S 4 (iS (f_Cp_latestUpTo S t))).2) (fun S17 : xS => px_let (sI S17 6 2 0) (fun S19 : xS => g_RM_travel 3001 S19 t (t - (gI S19 4 0)) 0)) else if (gI S (iS (f_Cp_latestUpTo S t)) 0) ≤ (gI S 4 0) then g_RM_travel 3001 S t (t - (gI S 4 0)) 0 else px_let ((f_St_copyState S 4 (iS (f_Cp_latestUpTo S t))).2) (fun S22 : xS => px_let (sI S22 6 2 0) (fun S24 : xS => g_RM_travel 3001 S24 t (t - (gI S24 4 0)) 0)) else px_let ((f_Un_takeBack S ((gI S 4 0) - t) 4).2) (fun S27 : xS => ((0 : Int32), S27))
def p_RM_travel (S : xS) (t : Int32) : Prop := (t = (gI S 4 0) → True) ∧ (¬ t = (gI S 4 0) → ((gI S 4 0) ≤ t → (p_Cp_latestUpTo S t) ∧ ((t < (gI S 4 0) → (∀ S5 : xS, S5 = (f_St_copyState S 4 (iS (f_Cp_latestUpTo S t))).2 → (∀ S7 : xS, S7 = sI S5 6 2 0 → q_RM_travel 3001 S7 t (t - (gI S7 4 0)) 0))) ∧ (¬ t < (gI S 4 0) → ((gI S (iS (f_Cp_latestUpTo S t)) 0) ≤ (gI S 4 0) → q_RM_travel 3001 S t (t - (gI S 4 0)) 0) ∧ (¬ (gI S (iS (f_Cp_latestUpTo S t)) 0) ≤ (gI S 4 0) → (∀ S10 : xS, S10 = (f_St_copyState S 4 (iS (f_Cp_latestUpTo S t))).2 → (∀ S12 : xS, S12 = sI S10 6 2 0 → q_RM_travel 3001 S12 t (t - (gI S12 4 0)) 0)))))) ∧ (¬ (gI S 4 0) ≤ t → ((gI S 6 2) < ((gI S 4 0) - t) → (p_Cp_latestUpTo S t) ∧ ((t < (gI S 4 0) → (∀ S17 : xS, S17 = (f_St_copyState S 4 (iS (f_Cp_latestUpTo S t))).2 → (∀ S19 : xS, S19 = sI S17 6 2 0 → q_RM_travel 3001 S19 t (t - (gI S19 4 0)) 0))) ∧ (¬ t < (gI S 4 0) → ((gI S (iS (f_Cp_latestUpTo S t)) 0) ≤ (gI S 4 0) → q_RM_travel 3001 S t (t - (gI S 4 0)) 0) ∧ (¬ (gI S (iS (f_Cp_latestUpTo S t)) 0) ≤ (gI S 4 0) → (∀ S22 : xS, S22 = (f_St_copyState S 4 (iS (f_Cp_latestUpTo S t))).2 → (∀ S24 : xS, S24 = sI S22 6 2 0 → q_RM_travel 3001 S24 t (t - (gI S24 4 0)) 0)))))) ∧ (¬ (gI S 6 2) < ((gI S 4 0) - t) → (p_Un_takeBack S ((gI S 4 0) - t) 4) ∧ ((∀ S27 : xS, S27 = (f_Un_takeBack S ((gI S 4 0) - t) 4).2 → True)))))
abbrev rm_RM_travel : Room := { frames := 5, cells := 0, slots := 0, locals := 108 }
set_option maxHeartbeats 4000000 in
set_option maxRecDepth 100000 in
theorem w_RM_travel (l : Launch) (D : va_G) (aC : Nat → ClassId) (ad : Nat → Nat) (n : Nat) (hn : 124 ≤ n) (c0 : Nat → va_E)   {p : Program} {e : Env} {s : State} {m : MethodId} {args : Array Value} {below : List Frame} {meth : Method} {cd : Code} (X : px_X p s m args cd b_RM_travel 6 WS y_RM_travel.cls GG D CLS (TYS aC) (px_A ad n s.heap.size) ad n) (hr : meth.sig.returnType = none) (hk : meth.locks = false) : ∀ (k : Nat) (S : xS) (t : Int32) (u : Int32) (v : Int32), q_RM_travel  k S t u v → ∀ F, F = g_RM_travel  k S t u v → px_J p l e rm_RM_travel s m args below meth cd D CLS (px_A ad n s.heap.size) ad n 6 0 0 (MQ below (px_Qc D CLS ad n s.heap.size none (xe aC ad F.2 c0)) args s 0 0 (px_A ad n s.heap.size)) (xe aC ad S c0) 117 [(0, .ref (ad 0)), (1, .int t), (2, .ref (ad 4)), (4, .int u), (5, .int v)] [] := by
  intro k
  induction k with
  | zero => intro S t u v hp; exact hp.elim
  | succ k ih =>
    intro S t u v hp F hF
    rw [q_RM_travel] at hp
    rw [g_RM_travel] at hF
    refine j_iload X d_RM_travel_117 4 rfl ?_
    refine j_iload X d_RM_travel_119 3 rfl ?_
    refine j_icmp_ge X (tgt := 137) d_RM_travel_121 (by decide) (fun h1 => ?_) (fun h1 => ?_)
    · replace hp := hp.1 h1
      replace hF := hF.trans (if_pos h1)
      refine j_aload_n X d_RM_travel_137 0 rfl ?_
      refine j_dup X d_RM_travel_138 rfl ?_
      refine j_get X fd_RM_60_RM 0 (by omega) x_RM rfl d_RM_travel_139 ?_
      refine j_iload X d_RM_travel_142 3 rfl ?_
      refine j_iadd X d_RM_travel_144 ?_
      refine j_put X fp_RM_60_RM 0 (by omega) x_RM (Nat.le_of_ble_eq_true rfl) rfl rfl d_RM_travel_145 (j_w (x_putRM_5) ?_)
      refine x_gen (fun S2 e3 => ?_)
      replace hp := hp S2 e3
      replace hF := hF.trans (px_let_eq e3)
      exact j_vret X hr hk rfl (by rw [hF]) d_RM_travel_148
    · replace hp := hp.2 h1
      replace hF := hF.trans (if_neg h1)
      refine j_aload_n X d_RM_travel_124 0 rfl ?_
      refine j_get X fd_RM_14_RM 0 (by omega) x_RM rfl d_RM_travel_125 ?_
      obtain ⟨o4, hp⟩ := hp
      refine j_callV (st := []) X 1 (by omega) hY_Ma_perform (c_Ma_perform l D aC ad n hn c0 S   o4) mw_243 hI_Ma_perform hS_Ma_perform x_Ma rfl rfl rfl (Nat.le_of_ble_eq_true rfl) d_RM_travel_128 rfl rfl ⟨by decide, by decide⟩ ⟨Nat.zero_le _, Nat.zero_le _⟩ (j_st (st' := []) rfl ?_)
      refine x_gen (fun S5 e6 => ?_)
      replace hp := hp S5 e6
      replace hF := hF.trans (px_let_eq e6)
      refine j_iinc X d_RM_travel_131 4 [(5, .int (v + 1)), (0, .ref (ad 0)), (1, .int t), (2, .ref (ad 4)), (4, .int u)] rfl rfl (by decide) rfl ?_
      refine j_goto X (tgt := 117) d_RM_travel_134 (by decide) ?_
      refine j_sub (L' := [(0, .ref (ad 0)), (1, .int t), (2, .ref (ad 4)), (4, .int u), (5, .int (v + 1))]) [1, 2, 3, 4, 0] rfl ?_
      exact ih S5 t u (v + 1) hp F hF
set_option maxHeartbeats 4000000 in
set_option maxRecDepth 100000 in
theorem c_RM_travel (l : Launch) (D : va_G) (aC : Nat → ClassId) (ad : Nat → Nat) (n : Nat) (hn : 124 ≤ n) (c0 : Nat → va_E) (S : xS) (t : Int32)  (hp : p_RM_travel S t) : px_M l y_RM_travel (Cond.code y_RM_travel b_RM_travel 6 none :: WS) rm_RM_travel GG D CLS (TYS aC) [.ref (ad 0), .int t] ad (xe aC ad S c0) n none (xe aC ad (f_RM_travel S t).2 c0) := by
  obtain ⟨F, hF⟩ : ∃ F, F = f_RM_travel S t := ⟨_, rfl⟩
  rw [← hF]
  unfold f_RM_travel at hF
  refine px_start GG_k (by decide) (Nat.le_of_ble_eq_true rfl) ?_
  intro p e s m args below meth cd X hr hk
  refine j_L (L' := [(0, .ref (ad 0)), (1, .int t)]) rfl ?_
  unfold p_RM_travel at hp
  refine j_aload_n X d_RM_travel_0 0 rfl ?_
  refine j_get X fd_RM_14_RM 0 (by omega) x_RM rfl d_RM_travel_1 ?_
  refine j_get X fd_RM_79_Ma 1 (by omega) x_Ma rfl d_RM_travel_4 ?_
  refine j_astore_n X d_RM_travel_7 [(2, .ref (ad 4)), (0, .ref (ad 0)), (1, .int t)] (by decide) rfl ?_
  refine j_iload_n X d_RM_travel_8 2 rfl ?_
  refine j_aload_n X d_RM_travel_9 0 rfl ?_
  refine j_get X fd_RM_83_St 4 (k_lt k_4 hn) (x_St k_4) rfl d_RM_travel_10 ?_
  refine j_icmp_ne X (tgt := 17) d_RM_travel_13 (by decide) (fun h1 => ?_) (fun h1 => ?_)
  · replace hp := hp.2 h1
    replace hF := hF.trans (if_neg h1)
    refine j_iload_n X d_RM_travel_17 2 rfl ?_
    refine j_aload_n X d_RM_travel_18 0 rfl ?_
    refine j_get X fd_RM_83_St 4 (k_lt k_4 hn) (x_St k_4) rfl d_RM_travel_19 ?_
    refine j_icmp_ge X (tgt := 62) d_RM_travel_22 (by decide) (fun h2 => ?_) (fun h2 => ?_)
    · replace hp := hp.1 h2
      replace hF := hF.trans (if_pos h2)
      refine j_aload_n X d_RM_travel_62 1 rfl ?_
      refine j_get X fd_RM_21_RM 0 (by omega) x_RM rfl d_RM_travel_63 ?_
      refine j_iload_n X d_RM_travel_66 2 rfl ?_
      obtain ⟨o3, hp⟩ := hp
      refine j_callV (st := []) X 104 (by omega) hY_Cp_latestUpTo (c_Cp_latestUpTo l D aC ad n hn c0 S t  o3) mw_490 hI_Cp_latestUpTo hS_Cp_latestUpTo x_Cp rfl rfl rfl (Nat.le_of_ble_eq_true rfl) d_RM_travel_67 rfl rfl ⟨by decide, by decide⟩ ⟨Nat.zero_le _, Nat.zero_le _⟩ (j_st (st' := [.ref (ad (iS (f_Cp_latestUpTo S t)))]) rfl ?_)
      refine j_astore_n X d_RM_travel_70 [(3, .ref (ad (iS (f_Cp_latestUpTo S t)))), (2, .ref (ad 4)), (0, .ref (ad 0)), (1, .int t)] (by decide) rfl ?_
      refine j_iload_n X d_RM_travel_71 3 rfl ?_
      refine j_aload_n X d_RM_travel_72 1 rfl ?_
      refine j_get X fd_RM_83_St 4 (k_lt k_4 hn) (x_St k_4) rfl d_RM_travel_73 ?_
      refine j_icmp_lt X (tgt := 90) d_RM_travel_76 (by decide) (fun h4 => ?_) (fun h4 => ?_)
      · replace hp := hp.1 h4
        replace hF := hF.trans (if_pos h4)
        refine j_aload_n X d_RM_travel_90 1 rfl ?_
        refine j_aload_n X d_RM_travel_91 0 rfl ?_
        refine j_callV (st := []) X 4 (k_lt k_4 hn) hY_St_copyState (c_St_copyState l D aC ad n hn c0 S 4 (iS (f_Cp_latestUpTo S t)) k_4 (k_S _) ) mw_494 hI_St_copyState hS_St_copyState (x_St k_4) rfl rfl rfl (Nat.le_of_ble_eq_true rfl) d_RM_travel_92 rfl rfl ⟨by decide, by decide⟩ ⟨Nat.zero_le _, Nat.zero_le _⟩ (j_st (st' := []) rfl ?_)
        refine x_gen (fun S5 e6 => ?_)
        replace hp := hp S5 e6
        replace hF := hF.trans (px_let_eq e6)
        refine j_aload_n X d_RM_travel_95 2 rfl ?_
        refine j_get X fd_RM_14_RM 0 (by omega) x_RM rfl d_RM_travel_96 ?_
        refine j_get X fd_RM_114_Ma 1 (by omega) x_Ma rfl d_RM_travel_99 ?_
        refine j_iconst X (v := 0) d_RM_travel_102 (by decide) ?_
        refine j_put X fp_RM_118_Un 6 (by omega) x_Un (Nat.le_of_ble_eq_true rfl) rfl rfl d_RM_travel_103 (j_w (x_putUn_2) ?_)
        refine x_gen (fun S7 e8 => ?_)
        replace hp := hp S7 e8
        replace hF := hF.trans (px_let_eq e8)
        refine j_iload_n X d_RM_travel_106 3 rfl ?_
        refine j_aload_n X d_RM_travel_107 1 rfl ?_
        refine j_get X fd_RM_83_St 4 (k_lt k_4 hn) (x_St k_4) rfl d_RM_travel_108 ?_
        refine j_isub X d_RM_travel_111 ?_
        refine j_istore X d_RM_travel_112 [(4, .int (t - (gI S7 4 0))), (3, .ref (ad (iS (f_Cp_latestUpTo S t)))), (2, .ref (ad 4)), (0, .ref (ad 0)), (1, .int t)] (by decide) rfl ?_
        refine j_iconst X (v := 0) d_RM_travel_114 (by decide) ?_
        refine j_istore X d_RM_travel_115 [(5, .int 0), (4, .int (t - (gI S7 4 0))), (3, .ref (ad (iS (f_Cp_latestUpTo S t)))), (2, .ref (ad 4)), (0, .ref (ad 0)), (1, .int t)] (by decide) rfl ?_
        refine j_sub (L' := [(0, .ref (ad 0)), (1, .int t), (2, .ref (ad 4)), (4, .int (t - (gI S7 4 0))), (5, .int 0)]) [4, 5, 3, 1, 0] rfl ?_
        exact w_RM_travel l D aC ad n hn c0  X hr hk 3001 S7 t (t - (gI S7 4 0)) 0 hp F hF
      · replace hp := hp.2 h4
        replace hF := hF.trans (if_neg h4)
        refine j_aload_n X d_RM_travel_79 0 rfl ?_
        refine j_get X fd_RM_83_St (iS (f_Cp_latestUpTo S t)) (k_lt (k_S _) hn) (x_St (k_S _)) rfl d_RM_travel_80 ?_
        refine j_aload_n X d_RM_travel_83 1 rfl ?_
        refine j_get X fd_RM_83_St 4 (k_lt k_4 hn) (x_St k_4) rfl d_RM_travel_84 ?_
        refine j_icmp_le X (tgt := 106) d_RM_travel_87 (by decide) (fun h9 => ?_) (fun h9 => ?_)
        · replace hp := hp.1 h9
          replace hF := hF.trans (if_pos h9)
          refine j_iload_n X d_RM_travel_106 3 rfl ?_
          refine j_aload_n X d_RM_travel_107 1 rfl ?_
          refine j_get X fd_RM_83_St 4 (k_lt k_4 hn) (x_St k_4) rfl d_RM_travel_108 ?_
          refine j_isub X d_RM_travel_111 ?_
          refine j_istore X d_RM_travel_112 [(4, .int (t - (gI S 4 0))), (3, .ref (ad (iS (f_Cp_latestUpTo S t)))), (2, .ref (ad 4)), (0, .ref (ad 0)), (1, .int t)] (by decide) rfl ?_
          refine j_iconst X (v := 0) d_RM_travel_114 (by decide) ?_
          refine j_istore X d_RM_travel_115 [(5, .int 0), (4, .int (t - (gI S 4 0))), (3, .ref (ad (iS (f_Cp_latestUpTo S t)))), (2, .ref (ad 4)), (0, .ref (ad 0)), (1, .int t)] (by decide) rfl ?_
          refine j_sub (L' := [(0, .ref (ad 0)), (1, .int t), (2, .ref (ad 4)), (4, .int (t - (gI S 4 0))), (5, .int 0)]) [4, 5, 3, 1, 0] rfl ?_
          exact w_RM_travel l D aC ad n hn c0  X hr hk 3001 S t (t - (gI S 4 0)) 0 hp F hF
        · replace hp := hp.2 h9
          replace hF := hF.trans (if_neg h9)
          refine j_aload_n X d_RM_travel_90 1 rfl ?_
          refine j_aload_n X d_RM_travel_91 0 rfl ?_
          refine j_callV (st := []) X 4 (k_lt k_4 hn) hY_St_copyState (c_St_copyState l D aC ad n hn c0 S 4 (iS (f_Cp_latestUpTo S t)) k_4 (k_S _) ) mw_494 hI_St_copyState hS_St_copyState (x_St k_4) rfl rfl rfl (Nat.le_of_ble_eq_true rfl) d_RM_travel_92 rfl rfl ⟨by decide, by decide⟩ ⟨Nat.zero_le _, Nat.zero_le _⟩ (j_st (st' := []) rfl ?_)
          refine x_gen (fun S10 e11 => ?_)
          replace hp := hp S10 e11
          replace hF := hF.trans (px_let_eq e11)
          refine j_aload_n X d_RM_travel_95 2 rfl ?_
          refine j_get X fd_RM_14_RM 0 (by omega) x_RM rfl d_RM_travel_96 ?_
          refine j_get X fd_RM_114_Ma 1 (by omega) x_Ma rfl d_RM_travel_99 ?_
          refine j_iconst X (v := 0) d_RM_travel_102 (by decide) ?_
          refine j_put X fp_RM_118_Un 6 (by omega) x_Un (Nat.le_of_ble_eq_true rfl) rfl rfl d_RM_travel_103 (j_w (x_putUn_2) ?_)
          refine x_gen (fun S12 e13 => ?_)
          replace hp := hp S12 e13
          replace hF := hF.trans (px_let_eq e13)
          refine j_iload_n X d_RM_travel_106 3 rfl ?_
          refine j_aload_n X d_RM_travel_107 1 rfl ?_
          refine j_get X fd_RM_83_St 4 (k_lt k_4 hn) (x_St k_4) rfl d_RM_travel_108 ?_
          refine j_isub X d_RM_travel_111 ?_
          refine j_istore X d_RM_travel_112 [(4, .int (t - (gI S12 4 0))), (3, .ref (ad (iS (f_Cp_latestUpTo S t)))), (2, .ref (ad 4)), (0, .ref (ad 0)), (1, .int t)] (by decide) rfl ?_
          refine j_iconst X (v := 0) d_RM_travel_114 (by decide) ?_
          refine j_istore X d_RM_travel_115 [(5, .int 0), (4, .int (t - (gI S12 4 0))), (3, .ref (ad (iS (f_Cp_latestUpTo S t)))), (2, .ref (ad 4)), (0, .ref (ad 0)), (1, .int t)] (by decide) rfl ?_
          refine j_sub (L' := [(0, .ref (ad 0)), (1, .int t), (2, .ref (ad 4)), (4, .int (t - (gI S12 4 0))), (5, .int 0)]) [4, 5, 3, 1, 0] rfl ?_
          exact w_RM_travel l D aC ad n hn c0  X hr hk 3001 S12 t (t - (gI S12 4 0)) 0 hp F hF
    · replace hp := hp.2 h2
      replace hF := hF.trans (if_neg h2)
      refine j_aload_n X d_RM_travel_25 0 rfl ?_
      refine j_get X fd_RM_83_St 4 (k_lt k_4 hn) (x_St k_4) rfl d_RM_travel_26 ?_
      refine j_iload_n X d_RM_travel_29 2 rfl ?_
      refine j_isub X d_RM_travel_30 ?_
      refine j_aload_n X d_RM_travel_31 1 rfl ?_
      refine j_get X fd_RM_14_RM 0 (by omega) x_RM rfl d_RM_travel_32 ?_
      refine j_get X fd_RM_114_Ma 1 (by omega) x_Ma rfl d_RM_travel_35 ?_
      refine j_get X fd_RM_118_Un 6 (by omega) x_Un rfl d_RM_travel_38 ?_
      refine j_icmp_gt X (tgt := 62) d_RM_travel_41 (by decide) (fun h14 => ?_) (fun h14 => ?_)
      · replace hp := hp.1 h14
        replace hF := hF.trans (if_pos h14)
        refine j_aload_n X d_RM_travel_62 1 rfl ?_
        refine j_get X fd_RM_21_RM 0 (by omega) x_RM rfl d_RM_travel_63 ?_
        refine j_iload_n X d_RM_travel_66 2 rfl ?_
        obtain ⟨o15, hp⟩ := hp
        refine j_callV (st := []) X 104 (by omega) hY_Cp_latestUpTo (c_Cp_latestUpTo l D aC ad n hn c0 S t  o15) mw_490 hI_Cp_latestUpTo hS_Cp_latestUpTo x_Cp rfl rfl rfl (Nat.le_of_ble_eq_true rfl) d_RM_travel_67 rfl rfl ⟨by decide, by decide⟩ ⟨Nat.zero_le _, Nat.zero_le _⟩ (j_st (st' := [.ref (ad (iS (f_Cp_latestUpTo S t)))]) rfl ?_)
        refine j_astore_n X d_RM_travel_70 [(3, .ref (ad (iS (f_Cp_latestUpTo S t)))), (2, .ref (ad 4)), (0, .ref (ad 0)), (1, .int t)] (by decide) rfl ?_
        refine j_iload_n X d_RM_travel_71 3 rfl ?_
        refine j_aload_n X d_RM_travel_72 1 rfl ?_
        refine j_get X fd_RM_83_St 4 (k_lt k_4 hn) (x_St k_4) rfl d_RM_travel_73 ?_
        refine j_icmp_lt X (tgt := 90) d_RM_travel_76 (by decide) (fun h16 => ?_) (fun h16 => ?_)
        · replace hp := hp.1 h16
          replace hF := hF.trans (if_pos h16)
          refine j_aload_n X d_RM_travel_90 1 rfl ?_
          refine j_aload_n X d_RM_travel_91 0 rfl ?_
          refine j_callV (st := []) X 4 (k_lt k_4 hn) hY_St_copyState (c_St_copyState l D aC ad n hn c0 S 4 (iS (f_Cp_latestUpTo S t)) k_4 (k_S _) ) mw_494 hI_St_copyState hS_St_copyState (x_St k_4) rfl rfl rfl (Nat.le_of_ble_eq_true rfl) d_RM_travel_92 rfl rfl ⟨by decide, by decide⟩ ⟨Nat.zero_le _, Nat.zero_le _⟩ (j_st (st' := []) rfl ?_)
          refine x_gen (fun S17 e18 => ?_)
          replace hp := hp S17 e18
          replace hF := hF.trans (px_let_eq e18)
          refine j_aload_n X d_RM_travel_95 2 rfl ?_
          refine j_get X fd_RM_14_RM 0 (by omega) x_RM rfl d_RM_travel_96 ?_
          refine j_get X fd_RM_114_Ma 1 (by omega) x_Ma rfl d_RM_travel_99 ?_
          refine j_iconst X (v := 0) d_RM_travel_102 (by decide) ?_
          refine j_put X fp_RM_118_Un 6 (by omega) x_Un (Nat.le_of_ble_eq_true rfl) rfl rfl d_RM_travel_103 (j_w (x_putUn_2) ?_)
          refine x_gen (fun S19 e20 => ?_)
          replace hp := hp S19 e20
          replace hF := hF.trans (px_let_eq e20)
          refine j_iload_n X d_RM_travel_106 3 rfl ?_
          refine j_aload_n X d_RM_travel_107 1 rfl ?_
          refine j_get X fd_RM_83_St 4 (k_lt k_4 hn) (x_St k_4) rfl d_RM_travel_108 ?_
          refine j_isub X d_RM_travel_111 ?_
          refine j_istore X d_RM_travel_112 [(4, .int (t - (gI S19 4 0))), (3, .ref (ad (iS (f_Cp_latestUpTo S t)))), (2, .ref (ad 4)), (0, .ref (ad 0)), (1, .int t)] (by decide) rfl ?_
          refine j_iconst X (v := 0) d_RM_travel_114 (by decide) ?_
          refine j_istore X d_RM_travel_115 [(5, .int 0), (4, .int (t - (gI S19 4 0))), (3, .ref (ad (iS (f_Cp_latestUpTo S t)))), (2, .ref (ad 4)), (0, .ref (ad 0)), (1, .int t)] (by decide) rfl ?_
          refine j_sub (L' := [(0, .ref (ad 0)), (1, .int t), (2, .ref (ad 4)), (4, .int (t - (gI S19 4 0))), (5, .int 0)]) [4, 5, 3, 1, 0] rfl ?_
          exact w_RM_travel l D aC ad n hn c0  X hr hk 3001 S19 t (t - (gI S19 4 0)) 0 hp F hF
        · replace hp := hp.2 h16
          replace hF := hF.trans (if_neg h16)
          refine j_aload_n X d_RM_travel_79 0 rfl ?_
          refine j_get X fd_RM_83_St (iS (f_Cp_latestUpTo S t)) (k_lt (k_S _) hn) (x_St (k_S _)) rfl d_RM_travel_80 ?_
          refine j_aload_n X d_RM_travel_83 1 rfl ?_
          refine j_get X fd_RM_83_St 4 (k_lt k_4 hn) (x_St k_4) rfl d_RM_travel_84 ?_
          refine j_icmp_le X (tgt := 106) d_RM_travel_87 (by decide) (fun h21 => ?_) (fun h21 => ?_)
          · replace hp := hp.1 h21
            replace hF := hF.trans (if_pos h21)
            refine j_iload_n X d_RM_travel_106 3 rfl ?_
            refine j_aload_n X d_RM_travel_107 1 rfl ?_
            refine j_get X fd_RM_83_St 4 (k_lt k_4 hn) (x_St k_4) rfl d_RM_travel_108 ?_
            refine j_isub X d_RM_travel_111 ?_
            refine j_istore X d_RM_travel_112 [(4, .int (t - (gI S 4 0))), (3, .ref (ad (iS (f_Cp_latestUpTo S t)))), (2, .ref (ad 4)), (0, .ref (ad 0)), (1, .int t)] (by decide) rfl ?_
            refine j_iconst X (v := 0) d_RM_travel_114 (by decide) ?_
            refine j_istore X d_RM_travel_115 [(5, .int 0), (4, .int (t - (gI S 4 0))), (3, .ref (ad (iS (f_Cp_latestUpTo S t)))), (2, .ref (ad 4)), (0, .ref (ad 0)), (1, .int t)] (by decide) rfl ?_
            refine j_sub (L' := [(0, .ref (ad 0)), (1, .int t), (2, .ref (ad 4)), (4, .int (t - (gI S 4 0))), (5, .int 0)]) [4, 5, 3, 1, 0] rfl ?_
            exact w_RM_travel l D aC ad n hn c0  X hr hk 3001 S t (t - (gI S 4 0)) 0 hp F hF
          · replace hp := hp.2 h21
            replace hF := hF.trans (if_neg h21)
            refine j_aload_n X d_RM_travel_90 1 rfl ?_
            refine j_aload_n X d_RM_travel_91 0 rfl ?_
            refine j_callV (st := []) X 4 (k_lt k_4 hn) hY_St_copyState (c_St_copyState l D aC ad n hn c0 S 4 (iS (f_Cp_latestUpTo S t)) k_4 (k_S _) ) mw_494 hI_St_copyState hS_St_copyState (x_St k_4) rfl rfl rfl (Nat.le_of_ble_eq_true rfl) d_RM_travel_92 rfl rfl ⟨by decide, by decide⟩ ⟨Nat.zero_le _, Nat.zero_le _⟩ (j_st (st' := []) rfl ?_)
            refine x_gen (fun S22 e23 => ?_)
            replace hp := hp S22 e23
            replace hF := hF.trans (px_let_eq e23)
            refine j_aload_n X d_RM_travel_95 2 rfl ?_
            refine j_get X fd_RM_14_RM 0 (by omega) x_RM rfl d_RM_travel_96 ?_
            refine j_get X fd_RM_114_Ma 1 (by omega) x_Ma rfl d_RM_travel_99 ?_
            refine j_iconst X (v := 0) d_RM_travel_102 (by decide) ?_
            refine j_put X fp_RM_118_Un 6 (by omega) x_Un (Nat.le_of_ble_eq_true rfl) rfl rfl d_RM_travel_103 (j_w (x_putUn_2) ?_)
            refine x_gen (fun S24 e25 => ?_)
            replace hp := hp S24 e25
            replace hF := hF.trans (px_let_eq e25)
            refine j_iload_n X d_RM_travel_106 3 rfl ?_
            refine j_aload_n X d_RM_travel_107 1 rfl ?_
            refine j_get X fd_RM_83_St 4 (k_lt k_4 hn) (x_St k_4) rfl d_RM_travel_108 ?_
            refine j_isub X d_RM_travel_111 ?_
            refine j_istore X d_RM_travel_112 [(4, .int (t - (gI S24 4 0))), (3, .ref (ad (iS (f_Cp_latestUpTo S t)))), (2, .ref (ad 4)), (0, .ref (ad 0)), (1, .int t)] (by decide) rfl ?_
            refine j_iconst X (v := 0) d_RM_travel_114 (by decide) ?_
            refine j_istore X d_RM_travel_115 [(5, .int 0), (4, .int (t - (gI S24 4 0))), (3, .ref (ad (iS (f_Cp_latestUpTo S t)))), (2, .ref (ad 4)), (0, .ref (ad 0)), (1, .int t)] (by decide) rfl ?_
            refine j_sub (L' := [(0, .ref (ad 0)), (1, .int t), (2, .ref (ad 4)), (4, .int (t - (gI S24 4 0))), (5, .int 0)]) [4, 5, 3, 1, 0] rfl ?_
            exact w_RM_travel l D aC ad n hn c0  X hr hk 3001 S24 t (t - (gI S24 4 0)) 0 hp F hF
      · replace hp := hp.2 h14
        replace hF := hF.trans (if_neg h14)
        refine j_aload_n X d_RM_travel_44 1 rfl ?_
        refine j_get X fd_RM_14_RM 0 (by omega) x_RM rfl d_RM_travel_45 ?_
        refine j_get X fd_RM_114_Ma 1 (by omega) x_Ma rfl d_RM_travel_48 ?_
        refine j_aload_n X d_RM_travel_51 0 rfl ?_
        refine j_get X fd_RM_83_St 4 (k_lt k_4 hn) (x_St k_4) rfl d_RM_travel_52 ?_
        refine j_iload_n X d_RM_travel_55 2 rfl ?_
        refine j_isub X d_RM_travel_56 ?_
        refine j_aload_n X d_RM_travel_57 0 rfl ?_
        obtain ⟨o26, hp⟩ := hp
        refine j_callV (st := []) X 6 (by omega) hY_Un_takeBack (c_Un_takeBack l D aC ad n hn c0 S ((gI S 4 0) - t) 4 k_4 o26) mw_481 hI_Un_takeBack hS_Un_takeBack x_Un rfl rfl rfl (Nat.le_of_ble_eq_true rfl) d_RM_travel_58 rfl rfl ⟨by decide, by decide⟩ ⟨Nat.zero_le _, Nat.zero_le _⟩ (j_st (st' := []) rfl ?_)
        refine x_gen (fun S27 e28 => ?_)
        replace hp := hp S27 e28
        replace hF := hF.trans (px_let_eq e28)
        exact j_vret X hr hk rfl (by rw [hF]) d_RM_travel_61
  · replace hp := hp.1 h1
    replace hF := hF.trans (if_pos h1)
    exact j_vret X hr hk rfl (by rw [hF]) d_RM_travel_16
