def g_Mo_mark_2  : Nat → xS → Int32 → Int32 → Int32 × xS
  | 0, S, _, _ => ((0 : Int32), S)
  | k + 1, S, k1, v => if 24 ≤ v then px_let (sR S 133 (upd (gR S 133) (5 * k1).toNatClampNeg (gI S 124 13))) (fun S2 : xS => px_let (sR S2 133 (upd (gR S2 133) ((5 * k1) + 1).toNatClampNeg (gI S2 124 14))) (fun S5 : xS => px_let (sR S5 133 (upd (gR S5 133) ((5 * k1) + 2).toNatClampNeg (gI S5 124 15))) (fun S8 : xS => px_let (sR S8 133 (upd (gR S8 133) ((5 * k1) + 3).toNatClampNeg (gI S8 124 16))) (fun S11 : xS => px_let (sR S11 133 (upd (gR S11 133) ((5 * k1) + 4).toNatClampNeg (gI S11 124 17))) (fun S14 : xS => ((0 : Int32), S14)))))) else px_let (sR S 132 (upd (gR S 132) (((56 * k1) + 32) + v).toNatClampNeg (gR S 130 v.toNatClampNeg))) (fun S18 : xS => g_Mo_mark_2 k S18 k1 (v + 1))
def q_Mo_mark_2  : Nat → xS → Int32 → Int32 → Prop
  | 0, _, _, _ => False
  | k + 1, S, k1, v => (24 ≤ v → (vp_in (5 * k1) 65) ∧ ((∀ S2 : xS, S2 = sR S 133 (upd (gR S 133) (5 * k1).toNatClampNeg (gI S 124 13)) → (vp_in ((5 * k1) + 1) 65) ∧ ((∀ S5 : xS, S5 = sR S2 133 (upd (gR S2 133) ((5 * k1) + 1).toNatClampNeg (gI S2 124 14)) → (vp_in ((5 * k1) + 2) 65) ∧ ((∀ S8 : xS, S8 = sR S5 133 (upd (gR S5 133) ((5 * k1) + 2).toNatClampNeg (gI S5 124 15)) → (vp_in ((5 * k1) + 3) 65) ∧ ((∀ S11 : xS, S11 = sR S8 133 (upd (gR S8 133) ((5 * k1) + 3).toNatClampNeg (gI S8 124 16)) → (vp_in ((5 * k1) + 4) 65) ∧ ((∀ S14 : xS, S14 = sR S11 133 (upd (gR S11 133) ((5 * k1) + 4).toNatClampNeg (gI S11 124 17)) → True))))))))))) ∧ (¬ 24 ≤ v → (vp_in v 24) ∧ ((vp_in (((56 * k1) + 32) + v) 728) ∧ ((∀ S18 : xS, S18 = sR S 132 (upd (gR S 132) (((56 * k1) + 32) + v).toNatClampNeg (gR S 130 v.toNatClampNeg)) → q_Mo_mark_2 k S18 k1 (v + 1)))))
def g_Mo_mark_1  : Nat → xS → Int32 → Int32 → Int32 × xS
  | 0, S, _, _ => ((0 : Int32), S)
  | k + 1, S, k1, v => if 32 ≤ v then g_Mo_mark_2 25 S k1 0 else px_let (sR S 132 (upd (gR S 132) ((56 * k1) + v).toNatClampNeg (gR S 129 v.toNatClampNeg))) (fun S3 : xS => g_Mo_mark_1 k S3 k1 (v + 1))
def q_Mo_mark_1  : Nat → xS → Int32 → Int32 → Prop
  | 0, _, _, _ => False
  | k + 1, S, k1, v => (32 ≤ v → q_Mo_mark_2 25 S k1 0) ∧ (¬ 32 ≤ v → (vp_in v 32) ∧ ((vp_in ((56 * k1) + v) 728) ∧ ((∀ S3 : xS, S3 = sR S 132 (upd (gR S 132) ((56 * k1) + v).toNatClampNeg (gR S 129 v.toNatClampNeg)) → q_Mo_mark_1 k S3 k1 (v + 1)))))
def f_Mo_mark (S : xS)  : Int32 × xS := g_Mo_mark_1 33 S ((gI S 124 12) / 250) 0
def p_Mo_mark (S : xS)  : Prop := q_Mo_mark_1 33 S ((gI S 124 12) / 250) 0
abbrev rm_Mo_mark : Room := { frames := 0, cells := 0, slots := 0, locals := 0 }
set_option maxHeartbeats 4000000 in
set_option maxRecDepth 100000 in
theorem w_Mo_mark_2 (l : Launch) (D : va_G) (aC : Nat → ClassId) (ad : Nat → Nat) (n : Nat) (hn : 135 ≤ n) (c0 : Nat → va_E)   {p : Program} {e : Env} {s : State} {m : MethodId} {args : Array Value} {below : List Frame} {meth : Method} {cd : Code} (X : px_X p s m args cd b_Mo_mark 3 WS y_Mo_mark.cls GG D CLS (TYS aC) (px_A ad n s.heap.size) ad n) (hr : meth.sig.returnType = none) (hk : meth.locks = false) : ∀ (k : Nat) (S : xS) (k1 : Int32) (v : Int32), q_Mo_mark_2  k S k1 v → ∀ F, F = g_Mo_mark_2  k S k1 v → px_J p l e rm_Mo_mark s m args below meth cd D CLS (px_A ad n s.heap.size) ad n 3 0 0 (MQ below (px_Qc D CLS ad n s.heap.size none (ye aC ad F.2 c0)) args s 0 0 (px_A ad n s.heap.size)) (ye aC ad S c0) 42 [(0, .ref (ad 124)), (1, .int k1), (2, .int v)] [] := by
  intro k
  induction k with
  | zero => intro S k1 v hp; exact hp.elim
  | succ k ih =>
    intro S k1 v hp F hF
    rw [q_Mo_mark_2] at hp
    rw [g_Mo_mark_2] at hF
    refine j_iload_n X d_Mo_mark_42 2 rfl ?_
    refine j_bipush X (v := 24) d_Mo_mark_43 (by decide) ?_
    refine j_icmp_ge X (tgt := 74) d_Mo_mark_45 (by decide) (fun h1 => ?_) (fun h1 => ?_)
    · replace hp := hp.1 h1
      replace hF := hF.trans (if_pos h1)
      refine j_aload_n X d_Mo_mark_74 0 rfl ?_
      refine j_get X fd_Mo_35_Mo 124 (by omega) y_Mo rfl d_Mo_mark_75 ?_
      refine j_iconst X (v := 5) d_Mo_mark_78 (by decide) ?_
      refine j_iload_n X d_Mo_mark_79 1 rfl ?_
      refine j_imul X d_Mo_mark_80 ?_
      refine j_aload_n X d_Mo_mark_81 0 rfl ?_
      refine j_get X fd_Mo_66_Mo 124 (by omega) y_Mo rfl d_Mo_mark_82 ?_
      obtain ⟨o4, hp⟩ := hp
      refine j_iast X 133 0 (by omega) y_markOthers rfl o4 d_Mo_mark_85 (j_w (y_ast_markOthers) ?_)
      refine y_gen (fun S2 e3 => ?_)
      replace hp := hp S2 e3
      replace hF := hF.trans (px_let_eq e3)
      refine j_aload_n X d_Mo_mark_86 0 rfl ?_
      refine j_get X fd_Mo_35_Mo 124 (by omega) y_Mo rfl d_Mo_mark_87 ?_
      refine j_iconst X (v := 5) d_Mo_mark_90 (by decide) ?_
      refine j_iload_n X d_Mo_mark_91 1 rfl ?_
      refine j_imul X d_Mo_mark_92 ?_
      refine j_iconst X (v := 1) d_Mo_mark_93 (by decide) ?_
      refine j_iadd X d_Mo_mark_94 ?_
      refine j_aload_n X d_Mo_mark_95 0 rfl ?_
      refine j_get X fd_Mo_69_Mo 124 (by omega) y_Mo rfl d_Mo_mark_96 ?_
      obtain ⟨o7, hp⟩ := hp
      refine j_iast X 133 0 (by omega) y_markOthers rfl o7 d_Mo_mark_99 (j_w (y_ast_markOthers) ?_)
      refine y_gen (fun S5 e6 => ?_)
      replace hp := hp S5 e6
      replace hF := hF.trans (px_let_eq e6)
      refine j_aload_n X d_Mo_mark_100 0 rfl ?_
      refine j_get X fd_Mo_35_Mo 124 (by omega) y_Mo rfl d_Mo_mark_101 ?_
      refine j_iconst X (v := 5) d_Mo_mark_104 (by decide) ?_
      refine j_iload_n X d_Mo_mark_105 1 rfl ?_
      refine j_imul X d_Mo_mark_106 ?_
      refine j_iconst X (v := 2) d_Mo_mark_107 (by decide) ?_
      refine j_iadd X d_Mo_mark_108 ?_
      refine j_aload_n X d_Mo_mark_109 0 rfl ?_
      refine j_get X fd_Mo_45_Mo 124 (by omega) y_Mo rfl d_Mo_mark_110 ?_
      obtain ⟨o10, hp⟩ := hp
      refine j_iast X 133 0 (by omega) y_markOthers rfl o10 d_Mo_mark_113 (j_w (y_ast_markOthers) ?_)
      refine y_gen (fun S8 e9 => ?_)
      replace hp := hp S8 e9
      replace hF := hF.trans (px_let_eq e9)
      refine j_aload_n X d_Mo_mark_114 0 rfl ?_
      refine j_get X fd_Mo_35_Mo 124 (by omega) y_Mo rfl d_Mo_mark_115 ?_
      refine j_iconst X (v := 5) d_Mo_mark_118 (by decide) ?_
      refine j_iload_n X d_Mo_mark_119 1 rfl ?_
      refine j_imul X d_Mo_mark_120 ?_
      refine j_iconst X (v := 3) d_Mo_mark_121 (by decide) ?_
      refine j_iadd X d_Mo_mark_122 ?_
      refine j_aload_n X d_Mo_mark_123 0 rfl ?_
      refine j_get X fd_Mo_72_Mo 124 (by omega) y_Mo rfl d_Mo_mark_124 ?_
      obtain ⟨o13, hp⟩ := hp
      refine j_iast X 133 0 (by omega) y_markOthers rfl o13 d_Mo_mark_127 (j_w (y_ast_markOthers) ?_)
      refine y_gen (fun S11 e12 => ?_)
      replace hp := hp S11 e12
      replace hF := hF.trans (px_let_eq e12)
      refine j_aload_n X d_Mo_mark_128 0 rfl ?_
      refine j_get X fd_Mo_35_Mo 124 (by omega) y_Mo rfl d_Mo_mark_129 ?_
      refine j_iconst X (v := 5) d_Mo_mark_132 (by decide) ?_
      refine j_iload_n X d_Mo_mark_133 1 rfl ?_
      refine j_imul X d_Mo_mark_134 ?_
      refine j_iconst X (v := 4) d_Mo_mark_135 (by decide) ?_
      refine j_iadd X d_Mo_mark_136 ?_
      refine j_aload_n X d_Mo_mark_137 0 rfl ?_
      refine j_get X fd_Mo_75_Mo 124 (by omega) y_Mo rfl d_Mo_mark_138 ?_
      obtain ⟨o16, hp⟩ := hp
      refine j_iast X 133 0 (by omega) y_markOthers rfl o16 d_Mo_mark_141 (j_w (y_ast_markOthers) ?_)
      refine y_gen (fun S14 e15 => ?_)
      replace hp := hp S14 e15
      replace hF := hF.trans (px_let_eq e15)
      exact j_vret X hr hk rfl (by rw [hF]) d_Mo_mark_142
    · replace hp := hp.2 h1
      replace hF := hF.trans (if_neg h1)
      refine j_aload_n X d_Mo_mark_48 0 rfl ?_
      refine j_get X fd_Mo_32_Mo 124 (by omega) y_Mo rfl d_Mo_mark_49 ?_
      refine j_bipush X (v := 56) d_Mo_mark_52 (by decide) ?_
      refine j_iload_n X d_Mo_mark_54 1 rfl ?_
      refine j_imul X d_Mo_mark_55 ?_
      refine j_bipush X (v := 32) d_Mo_mark_56 (by decide) ?_
      refine j_iadd X d_Mo_mark_58 ?_
      refine j_iload_n X d_Mo_mark_59 2 rfl ?_
      refine j_iadd X d_Mo_mark_60 ?_
      refine j_aload_n X d_Mo_mark_61 0 rfl ?_
      refine j_get X fd_Mo_26_Mo 124 (by omega) y_Mo rfl d_Mo_mark_62 ?_
      refine j_iload_n X d_Mo_mark_65 2 rfl ?_
      obtain ⟨o17, hp⟩ := hp
      refine j_iald X 130 0 (by omega) y_stack rfl o17 d_Mo_mark_66 ?_
      obtain ⟨o20, hp⟩ := hp
      refine j_iast X 132 0 (by omega) y_markWords rfl o20 d_Mo_mark_67 (j_w (y_ast_markWords) ?_)
      refine y_gen (fun S18 e19 => ?_)
      replace hp := hp S18 e19
      replace hF := hF.trans (px_let_eq e19)
      refine j_iinc X d_Mo_mark_68 2 [(2, .int (v + 1)), (0, .ref (ad 124)), (1, .int k1)] rfl rfl (by decide) rfl ?_
      refine j_goto X (tgt := 42) d_Mo_mark_71 (by decide) ?_
      refine j_sub (L' := [(0, .ref (ad 124)), (1, .int k1), (2, .int (v + 1))]) [1, 2, 0] rfl ?_
      exact ih S18 k1 (v + 1) hp F hF
set_option maxHeartbeats 4000000 in
set_option maxRecDepth 100000 in
theorem w_Mo_mark_1 (l : Launch) (D : va_G) (aC : Nat → ClassId) (ad : Nat → Nat) (n : Nat) (hn : 135 ≤ n) (c0 : Nat → va_E)   {p : Program} {e : Env} {s : State} {m : MethodId} {args : Array Value} {below : List Frame} {meth : Method} {cd : Code} (X : px_X p s m args cd b_Mo_mark 3 WS y_Mo_mark.cls GG D CLS (TYS aC) (px_A ad n s.heap.size) ad n) (hr : meth.sig.returnType = none) (hk : meth.locks = false) : ∀ (k : Nat) (S : xS) (k1 : Int32) (v : Int32), q_Mo_mark_1  k S k1 v → ∀ F, F = g_Mo_mark_1  k S k1 v → px_J p l e rm_Mo_mark s m args below meth cd D CLS (px_A ad n s.heap.size) ad n 3 0 0 (MQ below (px_Qc D CLS ad n s.heap.size none (ye aC ad F.2 c0)) args s 0 0 (px_A ad n s.heap.size)) (ye aC ad S c0) 11 [(0, .ref (ad 124)), (1, .int k1), (2, .int v)] [] := by
  intro k
  induction k with
  | zero => intro S k1 v hp; exact hp.elim
  | succ k ih =>
    intro S k1 v hp F hF
    rw [q_Mo_mark_1] at hp
    rw [g_Mo_mark_1] at hF
    refine j_iload_n X d_Mo_mark_11 2 rfl ?_
    refine j_bipush X (v := 32) d_Mo_mark_12 (by decide) ?_
    refine j_icmp_ge X (tgt := 40) d_Mo_mark_14 (by decide) (fun h1 => ?_) (fun h1 => ?_)
    · replace hp := hp.1 h1
      replace hF := hF.trans (if_pos h1)
      refine j_iconst X (v := 0) d_Mo_mark_40 (by decide) ?_
      refine j_istore_n X d_Mo_mark_41 [(2, .int 0), (0, .ref (ad 124)), (1, .int k1)] (by decide) rfl ?_
      refine j_sub (L' := [(0, .ref (ad 124)), (1, .int k1), (2, .int 0)]) [1, 2, 0] rfl ?_
      exact w_Mo_mark_2 l D aC ad n hn c0  X hr hk 25 S k1 0 hp F hF
    · replace hp := hp.2 h1
      replace hF := hF.trans (if_neg h1)
      refine j_aload_n X d_Mo_mark_17 0 rfl ?_
      refine j_get X fd_Mo_32_Mo 124 (by omega) y_Mo rfl d_Mo_mark_18 ?_
      refine j_bipush X (v := 56) d_Mo_mark_21 (by decide) ?_
      refine j_iload_n X d_Mo_mark_23 1 rfl ?_
      refine j_imul X d_Mo_mark_24 ?_
      refine j_iload_n X d_Mo_mark_25 2 rfl ?_
      refine j_iadd X d_Mo_mark_26 ?_
      refine j_aload_n X d_Mo_mark_27 0 rfl ?_
      refine j_get X fd_Mo_23_Mo 124 (by omega) y_Mo rfl d_Mo_mark_28 ?_
      refine j_iload_n X d_Mo_mark_31 2 rfl ?_
      obtain ⟨o2, hp⟩ := hp
      refine j_iald X 129 0 (by omega) y_cells rfl o2 d_Mo_mark_32 ?_
      obtain ⟨o5, hp⟩ := hp
      refine j_iast X 132 0 (by omega) y_markWords rfl o5 d_Mo_mark_33 (j_w (y_ast_markWords) ?_)
      refine y_gen (fun S3 e4 => ?_)
      replace hp := hp S3 e4
      replace hF := hF.trans (px_let_eq e4)
      refine j_iinc X d_Mo_mark_34 2 [(2, .int (v + 1)), (0, .ref (ad 124)), (1, .int k1)] rfl rfl (by decide) rfl ?_
      refine j_goto X (tgt := 11) d_Mo_mark_37 (by decide) ?_
      refine j_sub (L' := [(0, .ref (ad 124)), (1, .int k1), (2, .int (v + 1))]) [1, 2, 0] rfl ?_
      exact ih S3 k1 (v + 1) hp F hF
set_option maxHeartbeats 4000000 in
set_option maxRecDepth 100000 in
theorem c_Mo_mark (l : Launch) (D : va_G) (aC : Nat → ClassId) (ad : Nat → Nat) (n : Nat) (hn : 135 ≤ n) (c0 : Nat → va_E) (S : xS)   (hp : p_Mo_mark S ) : px_M l y_Mo_mark (Cond.code y_Mo_mark b_Mo_mark 3 none :: WS) rm_Mo_mark GG D CLS (TYS aC) [.ref (ad 124)] ad (ye aC ad S c0) n none (ye aC ad (f_Mo_mark S).2 c0) := by
  obtain ⟨F, hF⟩ : ∃ F, F = f_Mo_mark S := ⟨_, rfl⟩
  rw [← hF]
  unfold f_Mo_mark at hF
  refine px_start GG_k (by decide) (Nat.le_of_ble_eq_true rfl) ?_
  intro p e s m args below meth cd X hr hk
  refine j_L (L' := [(0, .ref (ad 124))]) rfl ?_
  unfold p_Mo_mark at hp
  refine j_aload_n X d_Mo_mark_0 0 rfl ?_
  refine j_get X fd_Mo_63_Mo 124 (by omega) y_Mo rfl d_Mo_mark_1 ?_
  refine j_sipush X (v := 250) d_Mo_mark_4 (by decide) ?_
  refine j_idiv X d_Mo_mark_7 (by decide) ?_
  refine j_istore_n X d_Mo_mark_8 [(1, .int ((gI S 124 12) / 250)), (0, .ref (ad 124))] (by decide) rfl ?_
  refine j_iconst X (v := 0) d_Mo_mark_9 (by decide) ?_
  refine j_istore_n X d_Mo_mark_10 [(2, .int 0), (1, .int ((gI S 124 12) / 250)), (0, .ref (ad 124))] (by decide) rfl ?_
  refine j_sub (L' := [(0, .ref (ad 124)), (1, .int ((gI S 124 12) / 250)), (2, .int 0)]) [2, 1, 0] rfl ?_
  exact w_Mo_mark_1 l D aC ad n hn c0  X hr hk 33 S ((gI S 124 12) / 250) 0 hp F hF
def g_Mo_seek_3  : Nat → xS → Int32 → Int32 × xS
  | 0, S, _ => ((0 : Int32), S)
  | k + 1, S, u => if u ≤ (gI S 124 12) then ((0 : Int32), S) else px_let ((f_Mo_perform S ).2) (fun S3 : xS => g_Mo_seek_3 k S3 u)
def q_Mo_seek_3  : Nat → xS → Int32 → Prop
  | 0, _, _ => False
  | k + 1, S, u => (u ≤ (gI S 124 12) → True) ∧ (¬ u ≤ (gI S 124 12) → (p_Mo_perform S) ∧ ((∀ S3 : xS, S3 = (f_Mo_perform S ).2 → q_Mo_seek_3 k S3 u)))
def g_Mo_seek_2  : Nat → xS → Int32 → Int32 → Int32 → Int32 × xS
  | 0, S, _, _, _ => ((0 : Int32), S)
  | k + 1, S, u, k1, v => if 24 ≤ v then px_let (sI S 124 13 (gR S 133 (5 * k1).toNatClampNeg)) (fun S3 : xS => px_let (sI S3 124 14 (gR S3 133 ((5 * k1) + 1).toNatClampNeg)) (fun S6 : xS => px_let (sI S6 124 15 (gR S6 133 ((5 * k1) + 2).toNatClampNeg)) (fun S9 : xS => px_let (sI S9 124 16 (gR S9 133 ((5 * k1) + 3).toNatClampNeg)) (fun S12 : xS => px_let (sI S12 124 17 (gR S12 133 ((5 * k1) + 4).toNatClampNeg)) (fun S15 : xS => px_let (sI S15 124 12 (250 * k1)) (fun S17 : xS => g_Mo_seek_3 3001 S17 u)))))) else px_let (sR S 130 (upd (gR S 130) v.toNatClampNeg (gR S 132 (((56 * k1) + 32) + v).toNatClampNeg))) (fun S20 : xS => g_Mo_seek_2 k S20 u k1 (v + 1))
def q_Mo_seek_2  : Nat → xS → Int32 → Int32 → Int32 → Prop
  | 0, _, _, _, _ => False
  | k + 1, S, u, k1, v => (24 ≤ v → (vp_in (5 * k1) 65) ∧ ((∀ S3 : xS, S3 = sI S 124 13 (gR S 133 (5 * k1).toNatClampNeg) → (vp_in ((5 * k1) + 1) 65) ∧ ((∀ S6 : xS, S6 = sI S3 124 14 (gR S3 133 ((5 * k1) + 1).toNatClampNeg) → (vp_in ((5 * k1) + 2) 65) ∧ ((∀ S9 : xS, S9 = sI S6 124 15 (gR S6 133 ((5 * k1) + 2).toNatClampNeg) → (vp_in ((5 * k1) + 3) 65) ∧ ((∀ S12 : xS, S12 = sI S9 124 16 (gR S9 133 ((5 * k1) + 3).toNatClampNeg) → (vp_in ((5 * k1) + 4) 65) ∧ ((∀ S15 : xS, S15 = sI S12 124 17 (gR S12 133 ((5 * k1) + 4).toNatClampNeg) → (∀ S17 : xS, S17 = sI S15 124 12 (250 * k1) → q_Mo_seek_3 3001 S17 u)))))))))))) ∧ (¬ 24 ≤ v → (vp_in (((56 * k1) + 32) + v) 728) ∧ ((vp_in v 24) ∧ ((∀ S20 : xS, S20 = sR S 130 (upd (gR S 130) v.toNatClampNeg (gR S 132 (((56 * k1) + 32) + v).toNatClampNeg)) → q_Mo_seek_2 k S20 u k1 (v + 1)))))
def g_Mo_seek_1  : Nat → xS → Int32 → Int32 → Int32 → Int32 × xS
  | 0, S, _, _, _ => ((0 : Int32), S)
  | k + 1, S, u, k1, v => if 32 ≤ v then g_Mo_seek_2 25 S u k1 0 else px_let (sR S 129 (upd (gR S 129) v.toNatClampNeg (gR S 132 ((56 * k1) + v).toNatClampNeg))) (fun S3 : xS => g_Mo_seek_1 k S3 u k1 (v + 1))
def q_Mo_seek_1  : Nat → xS → Int32 → Int32 → Int32 → Prop
  | 0, _, _, _, _ => False
  | k + 1, S, u, k1, v => (32 ≤ v → q_Mo_seek_2 25 S u k1 0) ∧ (¬ 32 ≤ v → (vp_in ((56 * k1) + v) 728) ∧ ((vp_in v 32) ∧ ((∀ S3 : xS, S3 = sR S 129 (upd (gR S 129) v.toNatClampNeg (gR S 132 ((56 * k1) + v).toNatClampNeg)) → q_Mo_seek_1 k S3 u k1 (v + 1)))))
def f_Mo_seek (S : xS) (u : Int32) : Int32 × xS := if (gI S 124 12) ≤ u then g_Mo_seek_3 3001 S u else g_Mo_seek_1 33 S u (u / 250) 0
def p_Mo_seek (S : xS) (u : Int32) : Prop := ((gI S 124 12) ≤ u → q_Mo_seek_3 3001 S u) ∧ (¬ (gI S 124 12) ≤ u → q_Mo_seek_1 33 S u (u / 250) 0)
abbrev rm_Mo_seek : Room := { frames := 3, cells := 0, slots := 0, locals := 66 }
set_option maxHeartbeats 4000000 in
set_option maxRecDepth 100000 in
theorem w_Mo_seek_3 (l : Launch) (D : va_G) (aC : Nat → ClassId) (ad : Nat → Nat) (n : Nat) (hn : 135 ≤ n) (c0 : Nat → va_E)   {p : Program} {e : Env} {s : State} {m : MethodId} {args : Array Value} {below : List Frame} {meth : Method} {cd : Code} (X : px_X p s m args cd b_Mo_seek 4 WS y_Mo_seek.cls GG D CLS (TYS aC) (px_A ad n s.heap.size) ad n) (hr : meth.sig.returnType = none) (hk : meth.locks = false) : ∀ (k : Nat) (S : xS) (u : Int32), q_Mo_seek_3  k S u → ∀ F, F = g_Mo_seek_3  k S u → px_J p l e rm_Mo_seek s m args below meth cd D CLS (px_A ad n s.heap.size) ad n 4 0 0 (MQ below (px_Qc D CLS ad n s.heap.size none (ye aC ad F.2 c0)) args s 0 0 (px_A ad n s.heap.size)) (ye aC ad S c0) 156 [(0, .ref (ad 124)), (1, .int u)] [] := by
  intro k
  induction k with
  | zero => intro S u hp; exact hp.elim
  | succ k ih =>
    intro S u hp F hF
    rw [q_Mo_seek_3] at hp
    rw [g_Mo_seek_3] at hF
    refine j_aload_n X d_Mo_seek_156 0 rfl ?_
    refine j_get X fd_Mo_63_Mo 124 (by omega) y_Mo rfl d_Mo_seek_157 ?_
    refine j_iload_n X d_Mo_seek_160 1 rfl ?_
    refine j_icmp_ge X (tgt := 171) d_Mo_seek_161 (by decide) (fun h1 => ?_) (fun h1 => ?_)
    · replace hp := hp.1 h1
      replace hF := hF.trans (if_pos h1)
      exact j_vret X hr hk rfl (by rw [hF]) d_Mo_seek_171
    · replace hp := hp.2 h1
      replace hF := hF.trans (if_neg h1)
      refine j_aload_n X d_Mo_seek_164 0 rfl ?_
      obtain ⟨o2, hp⟩ := hp
      refine j_callV (st := []) X 124 (by omega) hY_Mo_perform (c_Mo_perform l D aC ad n hn c0 S   o2) mw_674 hI_Mo_perform hS_Mo_perform y_Mo rfl rfl rfl (Nat.le_of_ble_eq_true rfl) d_Mo_seek_165 rfl rfl ⟨by decide, by decide⟩ ⟨Nat.zero_le _, Nat.zero_le _⟩ (j_st (st' := []) rfl ?_)
      refine y_gen (fun S3 e4 => ?_)
      replace hp := hp S3 e4
      replace hF := hF.trans (px_let_eq e4)
      refine j_goto X (tgt := 156) d_Mo_seek_168 (by decide) ?_
      refine j_sub (L' := [(0, .ref (ad 124)), (1, .int u)]) [0, 1] rfl ?_
      exact ih S3 u hp F hF
set_option maxHeartbeats 4000000 in
set_option maxRecDepth 100000 in
theorem w_Mo_seek_2 (l : Launch) (D : va_G) (aC : Nat → ClassId) (ad : Nat → Nat) (n : Nat) (hn : 135 ≤ n) (c0 : Nat → va_E)   {p : Program} {e : Env} {s : State} {m : MethodId} {args : Array Value} {below : List Frame} {meth : Method} {cd : Code} (X : px_X p s m args cd b_Mo_seek 4 WS y_Mo_seek.cls GG D CLS (TYS aC) (px_A ad n s.heap.size) ad n) (hr : meth.sig.returnType = none) (hk : meth.locks = false) : ∀ (k : Nat) (S : xS) (u : Int32) (k1 : Int32) (v : Int32), q_Mo_seek_2  k S u k1 v → ∀ F, F = g_Mo_seek_2  k S u k1 v → px_J p l e rm_Mo_seek s m args below meth cd D CLS (px_A ad n s.heap.size) ad n 4 0 0 (MQ below (px_Qc D CLS ad n s.heap.size none (ye aC ad F.2 c0)) args s 0 0 (px_A ad n s.heap.size)) (ye aC ad S c0) 47 [(0, .ref (ad 124)), (1, .int u), (2, .int k1), (3, .int v)] [] := by
  intro k
  induction k with
  | zero => intro S u k1 v hp; exact hp.elim
  | succ k ih =>
    intro S u k1 v hp F hF
    rw [q_Mo_seek_2] at hp
    rw [g_Mo_seek_2] at hF
    refine j_iload_n X d_Mo_seek_47 3 rfl ?_
    refine j_bipush X (v := 24) d_Mo_seek_48 (by decide) ?_
    refine j_icmp_ge X (tgt := 79) d_Mo_seek_50 (by decide) (fun h1 => ?_) (fun h1 => ?_)
    · replace hp := hp.1 h1
      replace hF := hF.trans (if_pos h1)
      refine j_aload_n X d_Mo_seek_79 0 rfl ?_
      refine j_aload_n X d_Mo_seek_80 0 rfl ?_
      refine j_get X fd_Mo_35_Mo 124 (by omega) y_Mo rfl d_Mo_seek_81 ?_
      refine j_iconst X (v := 5) d_Mo_seek_84 (by decide) ?_
      refine j_iload_n X d_Mo_seek_85 2 rfl ?_
      refine j_imul X d_Mo_seek_86 ?_
      obtain ⟨o2, hp⟩ := hp
      refine j_iald X 133 0 (by omega) y_markOthers rfl o2 d_Mo_seek_87 ?_
      refine j_put X fp_Mo_66_Mo 124 (by omega) y_Mo (Nat.le_of_ble_eq_true rfl) rfl rfl d_Mo_seek_88 (j_w (y_put_13) ?_)
      refine y_gen (fun S3 e4 => ?_)
      replace hp := hp S3 e4
      replace hF := hF.trans (px_let_eq e4)
      refine j_aload_n X d_Mo_seek_91 0 rfl ?_
      refine j_aload_n X d_Mo_seek_92 0 rfl ?_
      refine j_get X fd_Mo_35_Mo 124 (by omega) y_Mo rfl d_Mo_seek_93 ?_
      refine j_iconst X (v := 5) d_Mo_seek_96 (by decide) ?_
      refine j_iload_n X d_Mo_seek_97 2 rfl ?_
      refine j_imul X d_Mo_seek_98 ?_
      refine j_iconst X (v := 1) d_Mo_seek_99 (by decide) ?_
      refine j_iadd X d_Mo_seek_100 ?_
      obtain ⟨o5, hp⟩ := hp
      refine j_iald X 133 0 (by omega) y_markOthers rfl o5 d_Mo_seek_101 ?_
      refine j_put X fp_Mo_69_Mo 124 (by omega) y_Mo (Nat.le_of_ble_eq_true rfl) rfl rfl d_Mo_seek_102 (j_w (y_put_14) ?_)
      refine y_gen (fun S6 e7 => ?_)
      replace hp := hp S6 e7
      replace hF := hF.trans (px_let_eq e7)
      refine j_aload_n X d_Mo_seek_105 0 rfl ?_
      refine j_aload_n X d_Mo_seek_106 0 rfl ?_
      refine j_get X fd_Mo_35_Mo 124 (by omega) y_Mo rfl d_Mo_seek_107 ?_
      refine j_iconst X (v := 5) d_Mo_seek_110 (by decide) ?_
      refine j_iload_n X d_Mo_seek_111 2 rfl ?_
      refine j_imul X d_Mo_seek_112 ?_
      refine j_iconst X (v := 2) d_Mo_seek_113 (by decide) ?_
      refine j_iadd X d_Mo_seek_114 ?_
      obtain ⟨o8, hp⟩ := hp
      refine j_iald X 133 0 (by omega) y_markOthers rfl o8 d_Mo_seek_115 ?_
      refine j_put X fp_Mo_45_Mo 124 (by omega) y_Mo (Nat.le_of_ble_eq_true rfl) rfl rfl d_Mo_seek_116 (j_w (y_put_15) ?_)
      refine y_gen (fun S9 e10 => ?_)
      replace hp := hp S9 e10
      replace hF := hF.trans (px_let_eq e10)
      refine j_aload_n X d_Mo_seek_119 0 rfl ?_
      refine j_aload_n X d_Mo_seek_120 0 rfl ?_
      refine j_get X fd_Mo_35_Mo 124 (by omega) y_Mo rfl d_Mo_seek_121 ?_
      refine j_iconst X (v := 5) d_Mo_seek_124 (by decide) ?_
      refine j_iload_n X d_Mo_seek_125 2 rfl ?_
      refine j_imul X d_Mo_seek_126 ?_
      refine j_iconst X (v := 3) d_Mo_seek_127 (by decide) ?_
      refine j_iadd X d_Mo_seek_128 ?_
      obtain ⟨o11, hp⟩ := hp
      refine j_iald X 133 0 (by omega) y_markOthers rfl o11 d_Mo_seek_129 ?_
      refine j_put X fp_Mo_72_Mo 124 (by omega) y_Mo (Nat.le_of_ble_eq_true rfl) rfl rfl d_Mo_seek_130 (j_w (y_put_16) ?_)
      refine y_gen (fun S12 e13 => ?_)
      replace hp := hp S12 e13
      replace hF := hF.trans (px_let_eq e13)
      refine j_aload_n X d_Mo_seek_133 0 rfl ?_
      refine j_aload_n X d_Mo_seek_134 0 rfl ?_
      refine j_get X fd_Mo_35_Mo 124 (by omega) y_Mo rfl d_Mo_seek_135 ?_
      refine j_iconst X (v := 5) d_Mo_seek_138 (by decide) ?_
      refine j_iload_n X d_Mo_seek_139 2 rfl ?_
      refine j_imul X d_Mo_seek_140 ?_
      refine j_iconst X (v := 4) d_Mo_seek_141 (by decide) ?_
      refine j_iadd X d_Mo_seek_142 ?_
      obtain ⟨o14, hp⟩ := hp
      refine j_iald X 133 0 (by omega) y_markOthers rfl o14 d_Mo_seek_143 ?_
      refine j_put X fp_Mo_75_Mo 124 (by omega) y_Mo (Nat.le_of_ble_eq_true rfl) rfl rfl d_Mo_seek_144 (j_w (y_put_17) ?_)
      refine y_gen (fun S15 e16 => ?_)
      replace hp := hp S15 e16
      replace hF := hF.trans (px_let_eq e16)
      refine j_aload_n X d_Mo_seek_147 0 rfl ?_
      refine j_sipush X (v := 250) d_Mo_seek_148 (by decide) ?_
      refine j_iload_n X d_Mo_seek_151 2 rfl ?_
      refine j_imul X d_Mo_seek_152 ?_
      refine j_put X fp_Mo_63_Mo 124 (by omega) y_Mo (Nat.le_of_ble_eq_true rfl) rfl rfl d_Mo_seek_153 (j_w (y_put_12) ?_)
      refine y_gen (fun S17 e18 => ?_)
      replace hp := hp S17 e18
      replace hF := hF.trans (px_let_eq e18)
      refine j_sub (L' := [(0, .ref (ad 124)), (1, .int u)]) [0, 1] rfl ?_
      exact w_Mo_seek_3 l D aC ad n hn c0  X hr hk 3001 S17 u hp F hF
    · replace hp := hp.2 h1
      replace hF := hF.trans (if_neg h1)
      refine j_aload_n X d_Mo_seek_53 0 rfl ?_
      refine j_get X fd_Mo_26_Mo 124 (by omega) y_Mo rfl d_Mo_seek_54 ?_
      refine j_iload_n X d_Mo_seek_57 3 rfl ?_
      refine j_aload_n X d_Mo_seek_58 0 rfl ?_
      refine j_get X fd_Mo_32_Mo 124 (by omega) y_Mo rfl d_Mo_seek_59 ?_
      refine j_bipush X (v := 56) d_Mo_seek_62 (by decide) ?_
      refine j_iload_n X d_Mo_seek_64 2 rfl ?_
      refine j_imul X d_Mo_seek_65 ?_
      refine j_bipush X (v := 32) d_Mo_seek_66 (by decide) ?_
      refine j_iadd X d_Mo_seek_68 ?_
      refine j_iload_n X d_Mo_seek_69 3 rfl ?_
      refine j_iadd X d_Mo_seek_70 ?_
      obtain ⟨o19, hp⟩ := hp
      refine j_iald X 132 0 (by omega) y_markWords rfl o19 d_Mo_seek_71 ?_
      obtain ⟨o22, hp⟩ := hp
      refine j_iast X 130 0 (by omega) y_stack rfl o22 d_Mo_seek_72 (j_w (y_ast_stack) ?_)
      refine y_gen (fun S20 e21 => ?_)
      replace hp := hp S20 e21
      replace hF := hF.trans (px_let_eq e21)
      refine j_iinc X d_Mo_seek_73 3 [(3, .int (v + 1)), (0, .ref (ad 124)), (1, .int u), (2, .int k1)] rfl rfl (by decide) rfl ?_
      refine j_goto X (tgt := 47) d_Mo_seek_76 (by decide) ?_
      refine j_sub (L' := [(0, .ref (ad 124)), (1, .int u), (2, .int k1), (3, .int (v + 1))]) [1, 2, 3, 0] rfl ?_
      exact ih S20 u k1 (v + 1) hp F hF
set_option maxHeartbeats 4000000 in
set_option maxRecDepth 100000 in
theorem w_Mo_seek_1 (l : Launch) (D : va_G) (aC : Nat → ClassId) (ad : Nat → Nat) (n : Nat) (hn : 135 ≤ n) (c0 : Nat → va_E)   {p : Program} {e : Env} {s : State} {m : MethodId} {args : Array Value} {below : List Frame} {meth : Method} {cd : Code} (X : px_X p s m args cd b_Mo_seek 4 WS y_Mo_seek.cls GG D CLS (TYS aC) (px_A ad n s.heap.size) ad n) (hr : meth.sig.returnType = none) (hk : meth.locks = false) : ∀ (k : Nat) (S : xS) (u : Int32) (k1 : Int32) (v : Int32), q_Mo_seek_1  k S u k1 v → ∀ F, F = g_Mo_seek_1  k S u k1 v → px_J p l e rm_Mo_seek s m args below meth cd D CLS (px_A ad n s.heap.size) ad n 4 0 0 (MQ below (px_Qc D CLS ad n s.heap.size none (ye aC ad F.2 c0)) args s 0 0 (px_A ad n s.heap.size)) (ye aC ad S c0) 16 [(0, .ref (ad 124)), (1, .int u), (2, .int k1), (3, .int v)] [] := by
  intro k
  induction k with
  | zero => intro S u k1 v hp; exact hp.elim
  | succ k ih =>
    intro S u k1 v hp F hF
    rw [q_Mo_seek_1] at hp
    rw [g_Mo_seek_1] at hF
    refine j_iload_n X d_Mo_seek_16 3 rfl ?_
    refine j_bipush X (v := 32) d_Mo_seek_17 (by decide) ?_
    refine j_icmp_ge X (tgt := 45) d_Mo_seek_19 (by decide) (fun h1 => ?_) (fun h1 => ?_)
    · replace hp := hp.1 h1
      replace hF := hF.trans (if_pos h1)
      refine j_iconst X (v := 0) d_Mo_seek_45 (by decide) ?_
      refine j_istore_n X d_Mo_seek_46 [(3, .int 0), (0, .ref (ad 124)), (1, .int u), (2, .int k1)] (by decide) rfl ?_
      refine j_sub (L' := [(0, .ref (ad 124)), (1, .int u), (2, .int k1), (3, .int 0)]) [1, 2, 3, 0] rfl ?_
      exact w_Mo_seek_2 l D aC ad n hn c0  X hr hk 25 S u k1 0 hp F hF
    · replace hp := hp.2 h1
      replace hF := hF.trans (if_neg h1)
      refine j_aload_n X d_Mo_seek_22 0 rfl ?_
      refine j_get X fd_Mo_23_Mo 124 (by omega) y_Mo rfl d_Mo_seek_23 ?_
      refine j_iload_n X d_Mo_seek_26 3 rfl ?_
      refine j_aload_n X d_Mo_seek_27 0 rfl ?_
      refine j_get X fd_Mo_32_Mo 124 (by omega) y_Mo rfl d_Mo_seek_28 ?_
      refine j_bipush X (v := 56) d_Mo_seek_31 (by decide) ?_
      refine j_iload_n X d_Mo_seek_33 2 rfl ?_
      refine j_imul X d_Mo_seek_34 ?_
      refine j_iload_n X d_Mo_seek_35 3 rfl ?_
      refine j_iadd X d_Mo_seek_36 ?_
      obtain ⟨o2, hp⟩ := hp
      refine j_iald X 132 0 (by omega) y_markWords rfl o2 d_Mo_seek_37 ?_
      obtain ⟨o5, hp⟩ := hp
      refine j_iast X 129 0 (by omega) y_cells rfl o5 d_Mo_seek_38 (j_w (y_ast_cells) ?_)
      refine y_gen (fun S3 e4 => ?_)
      replace hp := hp S3 e4
      replace hF := hF.trans (px_let_eq e4)
      refine j_iinc X d_Mo_seek_39 3 [(3, .int (v + 1)), (0, .ref (ad 124)), (1, .int u), (2, .int k1)] rfl rfl (by decide) rfl ?_
      refine j_goto X (tgt := 16) d_Mo_seek_42 (by decide) ?_
      refine j_sub (L' := [(0, .ref (ad 124)), (1, .int u), (2, .int k1), (3, .int (v + 1))]) [1, 2, 3, 0] rfl ?_
      exact ih S3 u k1 (v + 1) hp F hF
set_option maxHeartbeats 4000000 in
set_option maxRecDepth 100000 in
theorem c_Mo_seek (l : Launch) (D : va_G) (aC : Nat → ClassId) (ad : Nat → Nat) (n : Nat) (hn : 135 ≤ n) (c0 : Nat → va_E) (S : xS) (u : Int32)  (hp : p_Mo_seek S u) : px_M l y_Mo_seek (Cond.code y_Mo_seek b_Mo_seek 4 none :: WS) rm_Mo_seek GG D CLS (TYS aC) [.ref (ad 124), .int u] ad (ye aC ad S c0) n none (ye aC ad (f_Mo_seek S u).2 c0) := by
  obtain ⟨F, hF⟩ : ∃ F, F = f_Mo_seek S u := ⟨_, rfl⟩
  rw [← hF]
  unfold f_Mo_seek at hF
  refine px_start GG_k (by decide) (Nat.le_of_ble_eq_true rfl) ?_
  intro p e s m args below meth cd X hr hk
  refine j_L (L' := [(0, .ref (ad 124)), (1, .int u)]) rfl ?_
  unfold p_Mo_seek at hp
  refine j_iload_n X d_Mo_seek_0 1 rfl ?_
  refine j_aload_n X d_Mo_seek_1 0 rfl ?_
  refine j_get X fd_Mo_63_Mo 124 (by omega) y_Mo rfl d_Mo_seek_2 ?_
  refine j_icmp_ge X (tgt := 156) d_Mo_seek_5 (by decide) (fun h1 => ?_) (fun h1 => ?_)
  · replace hp := hp.1 h1
    replace hF := hF.trans (if_pos h1)
    refine j_sub (L' := [(0, .ref (ad 124)), (1, .int u)]) [0, 1] rfl ?_
    exact w_Mo_seek_3 l D aC ad n hn c0  X hr hk 3001 S u hp F hF
  · replace hp := hp.2 h1
    replace hF := hF.trans (if_neg h1)
    refine j_iload_n X d_Mo_seek_8 1 rfl ?_
    refine j_sipush X (v := 250) d_Mo_seek_9 (by decide) ?_
    refine j_idiv X d_Mo_seek_12 (by decide) ?_
    refine j_istore_n X d_Mo_seek_13 [(2, .int (u / 250)), (0, .ref (ad 124)), (1, .int u)] (by decide) rfl ?_
    refine j_iconst X (v := 0) d_Mo_seek_14 (by decide) ?_
    refine j_istore_n X d_Mo_seek_15 [(3, .int 0), (2, .int (u / 250)), (0, .ref (ad 124)), (1, .int u)] (by decide) rfl ?_
    refine j_sub (L' := [(0, .ref (ad 124)), (1, .int u), (2, .int (u / 250)), (3, .int 0)]) [2, 3, 1, 0] rfl ?_
    exact w_Mo_seek_1 l D aC ad n hn c0  X hr hk 33 S u (u / 250) 0 hp F hF
def g_Mo_grow  : Nat → xS → Int32 → Int32 × xS
  | 0, S, _ => ((0 : Int32), S)
  | k + 1, S, v => if 9 ≤ v then ((0 : Int32), S) else if ((gR S 134 v.toNatClampNeg) - (gR S 134 v.toNatClampNeg) / (gI S 124 21) * (gI S 124 21)) = 0 then px_let (sR S 134 (upd (gR S 134) (gI S 124 22).toNatClampNeg (gR S 134 v.toNatClampNeg))) (fun S6 : xS => px_let (sI S6 124 22 ((gI S6 124 22) + 1)) (fun S9 : xS => g_Mo_grow k S9 (v + 1))) else g_Mo_grow k S (v + 1)
def q_Mo_grow  : Nat → xS → Int32 → Prop
  | 0, _, _ => False
  | k + 1, S, v => (9 ≤ v → True) ∧ (¬ 9 ≤ v → (vp_in v 9) ∧ ((¬ (gI S 124 21) = 0) ∧ ((((gR S 134 v.toNatClampNeg) - (gR S 134 v.toNatClampNeg) / (gI S 124 21) * (gI S 124 21)) = 0 → (vp_in v 9) ∧ ((vp_in (gI S 124 22) 9) ∧ ((∀ S6 : xS, S6 = sR S 134 (upd (gR S 134) (gI S 124 22).toNatClampNeg (gR S 134 v.toNatClampNeg)) → (∀ S9 : xS, S9 = sI S6 124 22 ((gI S6 124 22) + 1) → q_Mo_grow k S9 (v + 1)))))) ∧ (¬ ((gR S 134 v.toNatClampNeg) - (gR S 134 v.toNatClampNeg) / (gI S 124 21) * (gI S 124 21)) = 0 → q_Mo_grow k S (v + 1)))))
def f_Mo_grow (S : xS)  : Int32 × xS := px_let (sI S 124 18 (gI S 124 12)) (fun S1 : xS => if ((gI S1 124 12) - (gI S1 124 12) / 250 * 250) = 0 then px_let ((f_Mo_mark S1 ).2) (fun S5 : xS => if ((gI S5 124 12) - (gI S5 124 12) / (gI S5 124 21) * (gI S5 124 21)) = 0 then px_let (sR S5 134 (upd (gR S5 134) (gI S5 124 22).toNatClampNeg (gI S5 124 12))) (fun S9 : xS => px_let (sI S9 124 22 ((gI S9 124 22) + 1)) (fun S12 : xS => if 9 ≤ (gI S12 124 22) then px_let (sI S12 124 21 (2 * (gI S12 124 21))) (fun S15 : xS => px_let (sI S15 124 22 0) (fun S17 : xS => g_Mo_grow 10 S17 0)) else ((0 : Int32), S12))) else ((0 : Int32), S5)) else if ((gI S1 124 12) - (gI S1 124 12) / (gI S1 124 21) * (gI S1 124 21)) = 0 then px_let (sR S1 134 (upd (gR S1 134) (gI S1 124 22).toNatClampNeg (gI S1 124 12))) (fun S21 : xS => px_let (sI S21 124 22 ((gI S21 124 22) + 1)) (fun S24 : xS => if 9 ≤ (gI S24 124 22) then px_let (sI S24 124 21 (2 * (gI S24 124 21))) (fun S27 : xS => px_let (sI S27 124 22 0) (fun S29 : xS => g_Mo_grow 10 S29 0)) else ((0 : Int32), S24))) else ((0 : Int32), S1))
def p_Mo_grow (S : xS)  : Prop := (∀ S1 : xS, S1 = sI S 124 18 (gI S 124 12) → (((gI S1 124 12) - (gI S1 124 12) / 250 * 250) = 0 → (p_Mo_mark S1) ∧ ((∀ S5 : xS, S5 = (f_Mo_mark S1 ).2 → (¬ (gI S5 124 21) = 0) ∧ ((((gI S5 124 12) - (gI S5 124 12) / (gI S5 124 21) * (gI S5 124 21)) = 0 → (vp_in (gI S5 124 22) 9) ∧ ((∀ S9 : xS, S9 = sR S5 134 (upd (gR S5 134) (gI S5 124 22).toNatClampNeg (gI S5 124 12)) → (∀ S12 : xS, S12 = sI S9 124 22 ((gI S9 124 22) + 1) → (9 ≤ (gI S12 124 22) → (∀ S15 : xS, S15 = sI S12 124 21 (2 * (gI S12 124 21)) → (∀ S17 : xS, S17 = sI S15 124 22 0 → q_Mo_grow 10 S17 0))) ∧ (¬ 9 ≤ (gI S12 124 22) → True))))) ∧ (¬ ((gI S5 124 12) - (gI S5 124 12) / (gI S5 124 21) * (gI S5 124 21)) = 0 → True))))) ∧ (¬ ((gI S1 124 12) - (gI S1 124 12) / 250 * 250) = 0 → (¬ (gI S1 124 21) = 0) ∧ ((((gI S1 124 12) - (gI S1 124 12) / (gI S1 124 21) * (gI S1 124 21)) = 0 → (vp_in (gI S1 124 22) 9) ∧ ((∀ S21 : xS, S21 = sR S1 134 (upd (gR S1 134) (gI S1 124 22).toNatClampNeg (gI S1 124 12)) → (∀ S24 : xS, S24 = sI S21 124 22 ((gI S21 124 22) + 1) → (9 ≤ (gI S24 124 22) → (∀ S27 : xS, S27 = sI S24 124 21 (2 * (gI S24 124 21)) → (∀ S29 : xS, S29 = sI S27 124 22 0 → q_Mo_grow 10 S29 0))) ∧ (¬ 9 ≤ (gI S24 124 22) → True))))) ∧ (¬ ((gI S1 124 12) - (gI S1 124 12) / (gI S1 124 21) * (gI S1 124 21)) = 0 → True))))
abbrev rm_Mo_grow : Room := { frames := 1, cells := 0, slots := 0, locals := 22 }
set_option maxHeartbeats 4000000 in
set_option maxRecDepth 100000 in
theorem w_Mo_grow (l : Launch) (D : va_G) (aC : Nat → ClassId) (ad : Nat → Nat) (n : Nat) (hn : 135 ≤ n) (c0 : Nat → va_E)   {p : Program} {e : Env} {s : State} {m : MethodId} {args : Array Value} {below : List Frame} {meth : Method} {cd : Code} (X : px_X p s m args cd b_Mo_grow 2 WS y_Mo_grow.cls GG D CLS (TYS aC) (px_A ad n s.heap.size) ad n) (hr : meth.sig.returnType = none) (hk : meth.locks = false) : ∀ (k : Nat) (S : xS) (v : Int32), q_Mo_grow  k S v → ∀ F, F = g_Mo_grow  k S v → px_J p l e rm_Mo_grow s m args below meth cd D CLS (px_A ad n s.heap.size) ad n 2 0 0 (MQ below (px_Qc D CLS ad n s.heap.size none (ye aC ad F.2 c0)) args s 0 0 (px_A ad n s.heap.size)) (ye aC ad S c0) 86 [(0, .ref (ad 124)), (1, .int v)] [] := by
  intro k
  induction k with
  | zero => intro S v hp; exact hp.elim
  | succ k ih =>
    intro S v hp F hF
    rw [q_Mo_grow] at hp
    rw [g_Mo_grow] at hF
    refine j_iload_n X d_Mo_grow_86 1 rfl ?_
    refine j_bipush X (v := 9) d_Mo_grow_87 (by decide) ?_
    refine j_icmp_ge X (tgt := 140) d_Mo_grow_89 (by decide) (fun h1 => ?_) (fun h1 => ?_)
    · replace hp := hp.1 h1
      replace hF := hF.trans (if_pos h1)
      exact j_vret X hr hk rfl (by rw [hF]) d_Mo_grow_140
    · replace hp := hp.2 h1
      replace hF := hF.trans (if_neg h1)
      refine j_aload_n X d_Mo_grow_92 0 rfl ?_
      refine j_get X fd_Mo_42_Mo 124 (by omega) y_Mo rfl d_Mo_grow_93 ?_
      refine j_iload_n X d_Mo_grow_96 1 rfl ?_
      obtain ⟨o2, hp⟩ := hp
      refine j_iald X 134 0 (by omega) y_keptAt rfl o2 d_Mo_grow_97 ?_
      refine j_aload_n X d_Mo_grow_98 0 rfl ?_
      refine j_get X fd_Mo_38_Mo 124 (by omega) y_Mo rfl d_Mo_grow_99 ?_
      obtain ⟨o3, hp⟩ := hp
      refine j_irem X d_Mo_grow_102 o3 ?_
      refine j_if_eq X (tgt := 109) d_Mo_grow_103 (by decide) (fun h4 => ?_) (fun h4 => ?_)
      · replace hp := hp.1 h4
        replace hF := hF.trans (if_pos h4)
        refine j_aload_n X d_Mo_grow_109 0 rfl ?_
        refine j_get X fd_Mo_42_Mo 124 (by omega) y_Mo rfl d_Mo_grow_110 ?_
        refine j_aload_n X d_Mo_grow_113 0 rfl ?_
        refine j_get X fd_Mo_51_Mo 124 (by omega) y_Mo rfl d_Mo_grow_114 ?_
        refine j_aload_n X d_Mo_grow_117 0 rfl ?_
        refine j_get X fd_Mo_42_Mo 124 (by omega) y_Mo rfl d_Mo_grow_118 ?_
        refine j_iload_n X d_Mo_grow_121 1 rfl ?_
        obtain ⟨o5, hp⟩ := hp
        refine j_iald X 134 0 (by omega) y_keptAt rfl o5 d_Mo_grow_122 ?_
        obtain ⟨o8, hp⟩ := hp
        refine j_iast X 134 0 (by omega) y_keptAt rfl o8 d_Mo_grow_123 (j_w (y_ast_keptAt) ?_)
        refine y_gen (fun S6 e7 => ?_)
        replace hp := hp S6 e7
        replace hF := hF.trans (px_let_eq e7)
        refine j_aload_n X d_Mo_grow_124 0 rfl ?_
        refine j_dup X d_Mo_grow_125 rfl ?_
        refine j_get X fd_Mo_51_Mo 124 (by omega) y_Mo rfl d_Mo_grow_126 ?_
        refine j_iconst X (v := 1) d_Mo_grow_129 (by decide) ?_
        refine j_iadd X d_Mo_grow_130 ?_
        refine j_put X fp_Mo_51_Mo 124 (by omega) y_Mo (Nat.le_of_ble_eq_true rfl) rfl rfl d_Mo_grow_131 (j_w (y_put_22) ?_)
        refine y_gen (fun S9 e10 => ?_)
        replace hp := hp S9 e10
        replace hF := hF.trans (px_let_eq e10)
        refine j_iinc X d_Mo_grow_134 1 [(1, .int (v + 1)), (0, .ref (ad 124))] rfl rfl (by decide) rfl ?_
        refine j_goto X (tgt := 86) d_Mo_grow_137 (by decide) ?_
        refine j_sub (L' := [(0, .ref (ad 124)), (1, .int (v + 1))]) [1, 0] rfl ?_
        exact ih S9 (v + 1) hp F hF
      · replace hp := hp.2 h4
        replace hF := hF.trans (if_neg h4)
        refine j_goto X (tgt := 134) d_Mo_grow_106 (by decide) ?_
        refine j_iinc X d_Mo_grow_134 1 [(1, .int (v + 1)), (0, .ref (ad 124))] rfl rfl (by decide) rfl ?_
        refine j_goto X (tgt := 86) d_Mo_grow_137 (by decide) ?_
        refine j_sub (L' := [(0, .ref (ad 124)), (1, .int (v + 1))]) [1, 0] rfl ?_
        exact ih S (v + 1) hp F hF
set_option maxHeartbeats 4000000 in
set_option maxRecDepth 100000 in
theorem c_Mo_grow (l : Launch) (D : va_G) (aC : Nat → ClassId) (ad : Nat → Nat) (n : Nat) (hn : 135 ≤ n) (c0 : Nat → va_E) (S : xS)   (hp : p_Mo_grow S ) : px_M l y_Mo_grow (Cond.code y_Mo_grow b_Mo_grow 2 none :: WS) rm_Mo_grow GG D CLS (TYS aC) [.ref (ad 124)] ad (ye aC ad S c0) n none (ye aC ad (f_Mo_grow S).2 c0) := by
  obtain ⟨F, hF⟩ : ∃ F, F = f_Mo_grow S := ⟨_, rfl⟩
  rw [← hF]
  unfold f_Mo_grow at hF
  refine px_start GG_k (by decide) (Nat.le_of_ble_eq_true rfl) ?_
  intro p e s m args below meth cd X hr hk
  refine j_L (L' := [(0, .ref (ad 124))]) rfl ?_
  unfold p_Mo_grow at hp
  refine j_aload_n X d_Mo_grow_0 0 rfl ?_
  refine j_aload_n X d_Mo_grow_1 0 rfl ?_
  refine j_get X fd_Mo_63_Mo 124 (by omega) y_Mo rfl d_Mo_grow_2 ?_
  refine j_put X fp_Mo_57_Mo 124 (by omega) y_Mo (Nat.le_of_ble_eq_true rfl) rfl rfl d_Mo_grow_5 (j_w (y_put_18) ?_)
  refine y_gen (fun S1 e2 => ?_)
  replace hp := hp S1 e2
  replace hF := hF.trans (px_let_eq e2)
  refine j_aload_n X d_Mo_grow_8 0 rfl ?_
  refine j_get X fd_Mo_63_Mo 124 (by omega) y_Mo rfl d_Mo_grow_9 ?_
  refine j_sipush X (v := 250) d_Mo_grow_12 (by decide) ?_
  refine j_irem X d_Mo_grow_15 (by decide) ?_
  refine j_if_ne X (tgt := 23) d_Mo_grow_16 (by decide) (fun h3 => ?_) (fun h3 => ?_)
  · replace hp := hp.2 h3
    replace hF := hF.trans (if_neg h3)
    refine j_aload_n X d_Mo_grow_23 0 rfl ?_
    refine j_get X fd_Mo_63_Mo 124 (by omega) y_Mo rfl d_Mo_grow_24 ?_
    refine j_aload_n X d_Mo_grow_27 0 rfl ?_
    refine j_get X fd_Mo_38_Mo 124 (by omega) y_Mo rfl d_Mo_grow_28 ?_
    obtain ⟨o19, hp⟩ := hp
    refine j_irem X d_Mo_grow_31 o19 ?_
    refine j_if_eq X (tgt := 36) d_Mo_grow_32 (by decide) (fun h20 => ?_) (fun h20 => ?_)
    · replace hp := hp.1 h20
      replace hF := hF.trans (if_pos h20)
      refine j_aload_n X d_Mo_grow_36 0 rfl ?_
      refine j_get X fd_Mo_42_Mo 124 (by omega) y_Mo rfl d_Mo_grow_37 ?_
      refine j_aload_n X d_Mo_grow_40 0 rfl ?_
      refine j_get X fd_Mo_51_Mo 124 (by omega) y_Mo rfl d_Mo_grow_41 ?_
      refine j_aload_n X d_Mo_grow_44 0 rfl ?_
      refine j_get X fd_Mo_63_Mo 124 (by omega) y_Mo rfl d_Mo_grow_45 ?_
      obtain ⟨o23, hp⟩ := hp
      refine j_iast X 134 0 (by omega) y_keptAt rfl o23 d_Mo_grow_48 (j_w (y_ast_keptAt) ?_)
      refine y_gen (fun S21 e22 => ?_)
      replace hp := hp S21 e22
      replace hF := hF.trans (px_let_eq e22)
      refine j_aload_n X d_Mo_grow_49 0 rfl ?_
      refine j_dup X d_Mo_grow_50 rfl ?_
      refine j_get X fd_Mo_51_Mo 124 (by omega) y_Mo rfl d_Mo_grow_51 ?_
      refine j_iconst X (v := 1) d_Mo_grow_54 (by decide) ?_
      refine j_iadd X d_Mo_grow_55 ?_
      refine j_put X fp_Mo_51_Mo 124 (by omega) y_Mo (Nat.le_of_ble_eq_true rfl) rfl rfl d_Mo_grow_56 (j_w (y_put_22) ?_)
      refine y_gen (fun S24 e25 => ?_)
      replace hp := hp S24 e25
      replace hF := hF.trans (px_let_eq e25)
      refine j_aload_n X d_Mo_grow_59 0 rfl ?_
      refine j_get X fd_Mo_51_Mo 124 (by omega) y_Mo rfl d_Mo_grow_60 ?_
      refine j_bipush X (v := 9) d_Mo_grow_63 (by decide) ?_
      refine j_icmp_ge X (tgt := 69) d_Mo_grow_65 (by decide) (fun h26 => ?_) (fun h26 => ?_)
      · replace hp := hp.1 h26
        replace hF := hF.trans (if_pos h26)
        refine j_aload_n X d_Mo_grow_69 0 rfl ?_
        refine j_iconst X (v := 2) d_Mo_grow_70 (by decide) ?_
        refine j_aload_n X d_Mo_grow_71 0 rfl ?_
        refine j_get X fd_Mo_38_Mo 124 (by omega) y_Mo rfl d_Mo_grow_72 ?_
        refine j_imul X d_Mo_grow_75 ?_
        refine j_put X fp_Mo_38_Mo 124 (by omega) y_Mo (Nat.le_of_ble_eq_true rfl) rfl rfl d_Mo_grow_76 (j_w (y_put_21) ?_)
        refine y_gen (fun S27 e28 => ?_)
        replace hp := hp S27 e28
        replace hF := hF.trans (px_let_eq e28)
        refine j_aload_n X d_Mo_grow_79 0 rfl ?_
        refine j_iconst X (v := 0) d_Mo_grow_80 (by decide) ?_
        refine j_put X fp_Mo_51_Mo 124 (by omega) y_Mo (Nat.le_of_ble_eq_true rfl) rfl rfl d_Mo_grow_81 (j_w (y_put_22) ?_)
        refine y_gen (fun S29 e30 => ?_)
        replace hp := hp S29 e30
        replace hF := hF.trans (px_let_eq e30)
        refine j_iconst X (v := 0) d_Mo_grow_84 (by decide) ?_
        refine j_istore_n X d_Mo_grow_85 [(1, .int 0), (0, .ref (ad 124))] (by decide) rfl ?_
        refine j_sub (L' := [(0, .ref (ad 124)), (1, .int 0)]) [1, 0] rfl ?_
        exact w_Mo_grow l D aC ad n hn c0  X hr hk 10 S29 0 hp F hF
      · replace hp := hp.2 h26
        replace hF := hF.trans (if_neg h26)
        exact j_vret X hr hk rfl (by rw [hF]) d_Mo_grow_68
    · replace hp := hp.2 h20
      replace hF := hF.trans (if_neg h20)
      exact j_vret X hr hk rfl (by rw [hF]) d_Mo_grow_35
  · replace hp := hp.1 h3
    replace hF := hF.trans (if_pos h3)
    refine j_aload_n X d_Mo_grow_19 0 rfl ?_
    obtain ⟨o4, hp⟩ := hp
    refine j_callV (st := []) X 124 (by omega) hY_Mo_mark (c_Mo_mark l D aC ad n hn c0 S1   o4) mw_566 hI_Mo_mark hS_Mo_mark y_Mo rfl rfl rfl (Nat.le_of_ble_eq_true rfl) d_Mo_grow_20 rfl rfl ⟨by decide, by decide⟩ ⟨Nat.zero_le _, Nat.zero_le _⟩ (j_st (st' := []) rfl ?_)
    refine y_gen (fun S5 e6 => ?_)
    replace hp := hp S5 e6
    replace hF := hF.trans (px_let_eq e6)
    refine j_aload_n X d_Mo_grow_23 0 rfl ?_
    refine j_get X fd_Mo_63_Mo 124 (by omega) y_Mo rfl d_Mo_grow_24 ?_
    refine j_aload_n X d_Mo_grow_27 0 rfl ?_
    refine j_get X fd_Mo_38_Mo 124 (by omega) y_Mo rfl d_Mo_grow_28 ?_
    obtain ⟨o7, hp⟩ := hp
    refine j_irem X d_Mo_grow_31 o7 ?_
    refine j_if_eq X (tgt := 36) d_Mo_grow_32 (by decide) (fun h8 => ?_) (fun h8 => ?_)
    · replace hp := hp.1 h8
      replace hF := hF.trans (if_pos h8)
      refine j_aload_n X d_Mo_grow_36 0 rfl ?_
      refine j_get X fd_Mo_42_Mo 124 (by omega) y_Mo rfl d_Mo_grow_37 ?_
      refine j_aload_n X d_Mo_grow_40 0 rfl ?_
      refine j_get X fd_Mo_51_Mo 124 (by omega) y_Mo rfl d_Mo_grow_41 ?_
      refine j_aload_n X d_Mo_grow_44 0 rfl ?_
      refine j_get X fd_Mo_63_Mo 124 (by omega) y_Mo rfl d_Mo_grow_45 ?_
      obtain ⟨o11, hp⟩ := hp
      refine j_iast X 134 0 (by omega) y_keptAt rfl o11 d_Mo_grow_48 (j_w (y_ast_keptAt) ?_)
      refine y_gen (fun S9 e10 => ?_)
      replace hp := hp S9 e10
      replace hF := hF.trans (px_let_eq e10)
      refine j_aload_n X d_Mo_grow_49 0 rfl ?_
      refine j_dup X d_Mo_grow_50 rfl ?_
      refine j_get X fd_Mo_51_Mo 124 (by omega) y_Mo rfl d_Mo_grow_51 ?_
      refine j_iconst X (v := 1) d_Mo_grow_54 (by decide) ?_
      refine j_iadd X d_Mo_grow_55 ?_
      refine j_put X fp_Mo_51_Mo 124 (by omega) y_Mo (Nat.le_of_ble_eq_true rfl) rfl rfl d_Mo_grow_56 (j_w (y_put_22) ?_)
      refine y_gen (fun S12 e13 => ?_)
      replace hp := hp S12 e13
      replace hF := hF.trans (px_let_eq e13)
      refine j_aload_n X d_Mo_grow_59 0 rfl ?_
      refine j_get X fd_Mo_51_Mo 124 (by omega) y_Mo rfl d_Mo_grow_60 ?_
      refine j_bipush X (v := 9) d_Mo_grow_63 (by decide) ?_
      refine j_icmp_ge X (tgt := 69) d_Mo_grow_65 (by decide) (fun h14 => ?_) (fun h14 => ?_)
      · replace hp := hp.1 h14
        replace hF := hF.trans (if_pos h14)
        refine j_aload_n X d_Mo_grow_69 0 rfl ?_
        refine j_iconst X (v := 2) d_Mo_grow_70 (by decide) ?_
        refine j_aload_n X d_Mo_grow_71 0 rfl ?_
        refine j_get X fd_Mo_38_Mo 124 (by omega) y_Mo rfl d_Mo_grow_72 ?_
        refine j_imul X d_Mo_grow_75 ?_
        refine j_put X fp_Mo_38_Mo 124 (by omega) y_Mo (Nat.le_of_ble_eq_true rfl) rfl rfl d_Mo_grow_76 (j_w (y_put_21) ?_)
        refine y_gen (fun S15 e16 => ?_)
        replace hp := hp S15 e16
        replace hF := hF.trans (px_let_eq e16)
        refine j_aload_n X d_Mo_grow_79 0 rfl ?_
        refine j_iconst X (v := 0) d_Mo_grow_80 (by decide) ?_
        refine j_put X fp_Mo_51_Mo 124 (by omega) y_Mo (Nat.le_of_ble_eq_true rfl) rfl rfl d_Mo_grow_81 (j_w (y_put_22) ?_)
        refine y_gen (fun S17 e18 => ?_)
        replace hp := hp S17 e18
        replace hF := hF.trans (px_let_eq e18)
        refine j_iconst X (v := 0) d_Mo_grow_84 (by decide) ?_
        refine j_istore_n X d_Mo_grow_85 [(1, .int 0), (0, .ref (ad 124))] (by decide) rfl ?_
        refine j_sub (L' := [(0, .ref (ad 124)), (1, .int 0)]) [1, 0] rfl ?_
        exact w_Mo_grow l D aC ad n hn c0  X hr hk 10 S17 0 hp F hF
      · replace hp := hp.2 h14
        replace hF := hF.trans (if_neg h14)
        exact j_vret X hr hk rfl (by rw [hF]) d_Mo_grow_68
    · replace hp := hp.2 h8
      replace hF := hF.trans (if_neg h8)
      exact j_vret X hr hk rfl (by rw [hF]) d_Mo_grow_35
def g_Mo_remember  : Nat → xS → Int32 → Int32 × xS
  | 0, S, _ => ((0 : Int32), S)
  | k + 1, S, v => if 32 ≤ v then ((0 : Int32), S) else px_let (sR S 131 (upd (gR S 131) v.toNatClampNeg (gR S 129 v.toNatClampNeg))) (fun S3 : xS => g_Mo_remember k S3 (v + 1))
def q_Mo_remember  : Nat → xS → Int32 → Prop
  | 0, _, _ => False
  | k + 1, S, v => (32 ≤ v → True) ∧ (¬ 32 ≤ v → (vp_in v 32) ∧ ((vp_in v 32) ∧ ((∀ S3 : xS, S3 = sR S 131 (upd (gR S 131) v.toNatClampNeg (gR S 129 v.toNatClampNeg)) → q_Mo_remember k S3 (v + 1)))))
def f_Mo_remember (S : xS)  : Int32 × xS := g_Mo_remember 33 S 0
def p_Mo_remember (S : xS)  : Prop := q_Mo_remember 33 S 0
abbrev rm_Mo_remember : Room := { frames := 0, cells := 0, slots := 0, locals := 0 }
set_option maxHeartbeats 4000000 in
set_option maxRecDepth 100000 in
theorem w_Mo_remember (l : Launch) (D : va_G) (aC : Nat → ClassId) (ad : Nat → Nat) (n : Nat) (hn : 135 ≤ n) (c0 : Nat → va_E)   {p : Program} {e : Env} {s : State} {m : MethodId} {args : Array Value} {below : List Frame} {meth : Method} {cd : Code} (X : px_X p s m args cd b_Mo_remember 2 WS y_Mo_remember.cls GG D CLS (TYS aC) (px_A ad n s.heap.size) ad n) (hr : meth.sig.returnType = none) (hk : meth.locks = false) : ∀ (k : Nat) (S : xS) (v : Int32), q_Mo_remember  k S v → ∀ F, F = g_Mo_remember  k S v → px_J p l e rm_Mo_remember s m args below meth cd D CLS (px_A ad n s.heap.size) ad n 2 0 0 (MQ below (px_Qc D CLS ad n s.heap.size none (ye aC ad F.2 c0)) args s 0 0 (px_A ad n s.heap.size)) (ye aC ad S c0) 2 [(0, .ref (ad 124)), (1, .int v)] [] := by
  intro k
  induction k with
  | zero => intro S v hp; exact hp.elim
  | succ k ih =>
    intro S v hp F hF
    rw [q_Mo_remember] at hp
    rw [g_Mo_remember] at hF
    refine j_iload_n X d_Mo_remember_2 1 rfl ?_
    refine j_bipush X (v := 32) d_Mo_remember_3 (by decide) ?_
    refine j_icmp_ge X (tgt := 26) d_Mo_remember_5 (by decide) (fun h1 => ?_) (fun h1 => ?_)
    · replace hp := hp.1 h1
      replace hF := hF.trans (if_pos h1)
      exact j_vret X hr hk rfl (by rw [hF]) d_Mo_remember_26
    · replace hp := hp.2 h1
      replace hF := hF.trans (if_neg h1)
      refine j_aload_n X d_Mo_remember_8 0 rfl ?_
      refine j_get X fd_Mo_29_Mo 124 (by omega) y_Mo rfl d_Mo_remember_9 ?_
      refine j_iload_n X d_Mo_remember_12 1 rfl ?_
      refine j_aload_n X d_Mo_remember_13 0 rfl ?_
      refine j_get X fd_Mo_23_Mo 124 (by omega) y_Mo rfl d_Mo_remember_14 ?_
      refine j_iload_n X d_Mo_remember_17 1 rfl ?_
      obtain ⟨o2, hp⟩ := hp
      refine j_iald X 129 0 (by omega) y_cells rfl o2 d_Mo_remember_18 ?_
      obtain ⟨o5, hp⟩ := hp
      refine j_iast X 131 0 (by omega) y_were rfl o5 d_Mo_remember_19 (j_w (y_ast_were) ?_)
      refine y_gen (fun S3 e4 => ?_)
      replace hp := hp S3 e4
      replace hF := hF.trans (px_let_eq e4)
      refine j_iinc X d_Mo_remember_20 1 [(1, .int (v + 1)), (0, .ref (ad 124))] rfl rfl (by decide) rfl ?_
      refine j_goto X (tgt := 2) d_Mo_remember_23 (by decide) ?_
      refine j_sub (L' := [(0, .ref (ad 124)), (1, .int (v + 1))]) [1, 0] rfl ?_
      exact ih S3 (v + 1) hp F hF
set_option maxHeartbeats 4000000 in
set_option maxRecDepth 100000 in
theorem c_Mo_remember (l : Launch) (D : va_G) (aC : Nat → ClassId) (ad : Nat → Nat) (n : Nat) (hn : 135 ≤ n) (c0 : Nat → va_E) (S : xS)   (hp : p_Mo_remember S ) : px_M l y_Mo_remember (Cond.code y_Mo_remember b_Mo_remember 2 none :: WS) rm_Mo_remember GG D CLS (TYS aC) [.ref (ad 124)] ad (ye aC ad S c0) n none (ye aC ad (f_Mo_remember S).2 c0) := by
  obtain ⟨F, hF⟩ : ∃ F, F = f_Mo_remember S := ⟨_, rfl⟩
  rw [← hF]
  unfold f_Mo_remember at hF
  refine px_start GG_k (by decide) (Nat.le_of_ble_eq_true rfl) ?_
  intro p e s m args below meth cd X hr hk
  refine j_L (L' := [(0, .ref (ad 124))]) rfl ?_
  unfold p_Mo_remember at hp
  refine j_iconst X (v := 0) d_Mo_remember_0 (by decide) ?_
  refine j_istore_n X d_Mo_remember_1 [(1, .int 0), (0, .ref (ad 124))] (by decide) rfl ?_
  refine j_sub (L' := [(0, .ref (ad 124)), (1, .int 0)]) [1, 0] rfl ?_
  exact w_Mo_remember l D aC ad n hn c0  X hr hk 33 S 0 hp F hF
def g_Mo_stop  : Nat → xS → Int32 → Int32 → Int32
  | 0, S, _, _ => 0
  | k + 1, S, u, v => if 32 ≤ v then if u = 0 then 0 else 10 else if u = 0 then if (gR S 128 v.toNatClampNeg) = 0 then g_Mo_stop k S 0 (v + 1) else if (gR S 129 v.toNatClampNeg) = (gR S 131 v.toNatClampNeg) then g_Mo_stop k S 0 (v + 1) else g_Mo_stop k S 1 (v + 1) else g_Mo_stop k S 1 (v + 1)
def q_Mo_stop  : Nat → xS → Int32 → Int32 → Prop
  | 0, _, _, _ => False
  | k + 1, S, u, v => (32 ≤ v → (u = 0 → True) ∧ (¬ u = 0 → True)) ∧ (¬ 32 ≤ v → (u = 0 → (vp_in v 32) ∧ (((gR S 128 v.toNatClampNeg) = 0 → q_Mo_stop k S 0 (v + 1)) ∧ (¬ (gR S 128 v.toNatClampNeg) = 0 → (vp_in v 32) ∧ ((vp_in v 32) ∧ (((gR S 129 v.toNatClampNeg) = (gR S 131 v.toNatClampNeg) → q_Mo_stop k S 0 (v + 1)) ∧ (¬ (gR S 129 v.toNatClampNeg) = (gR S 131 v.toNatClampNeg) → q_Mo_stop k S 1 (v + 1))))))) ∧ (¬ u = 0 → q_Mo_stop k S 1 (v + 1)))
def f_Mo_stop (S : xS)  : Int32 := if (gI S 124 13) < 0 then g_Mo_stop 33 S 0 0 else if 64 ≤ (gI S 124 13) then g_Mo_stop 33 S 0 0 else if (gR S 127 (gI S 124 13).toNatClampNeg) = 0 then g_Mo_stop 33 S 0 0 else 9
def p_Mo_stop (S : xS)  : Prop := ((gI S 124 13) < 0 → q_Mo_stop 33 S 0 0) ∧ (¬ (gI S 124 13) < 0 → (64 ≤ (gI S 124 13) → q_Mo_stop 33 S 0 0) ∧ (¬ 64 ≤ (gI S 124 13) → (vp_in (gI S 124 13) 64) ∧ (((gR S 127 (gI S 124 13).toNatClampNeg) = 0 → q_Mo_stop 33 S 0 0) ∧ (¬ (gR S 127 (gI S 124 13).toNatClampNeg) = 0 → True))))
abbrev rm_Mo_stop : Room := { frames := 0, cells := 0, slots := 0, locals := 0 }
set_option maxHeartbeats 4000000 in
set_option maxRecDepth 100000 in
theorem w_Mo_stop (l : Launch) (D : va_G) (aC : Nat → ClassId) (ad : Nat → Nat) (n : Nat) (hn : 135 ≤ n) (c0 : Nat → va_E)   {p : Program} {e : Env} {s : State} {m : MethodId} {args : Array Value} {below : List Frame} {meth : Method} {cd : Code} (X : px_X p s m args cd b_Mo_stop 3 WS y_Mo_stop.cls GG D CLS (TYS aC) (px_A ad n s.heap.size) ad n) (hr : meth.sig.returnType = (some .int)) (hk : meth.locks = false) : ∀ (k : Nat) (S : xS) (u : Int32) (v : Int32), q_Mo_stop  k S u v → ∀ F, F = g_Mo_stop  k S u v → px_J p l e rm_Mo_stop s m args below meth cd D CLS (px_A ad n s.heap.size) ad n 3 0 0 (MQ below (px_Qc D CLS ad n s.heap.size (some (.int F)) (ye aC ad S c0)) args s 0 0 (px_A ad n s.heap.size)) (ye aC ad S c0) 35 [(0, .ref (ad 124)), (1, .int u), (2, .int v)] [] := by
  intro k
  induction k with
  | zero => intro S u v hp; exact hp.elim
  | succ k ih =>
    intro S u v hp F hF
    rw [q_Mo_stop] at hp
    rw [g_Mo_stop] at hF
    refine j_iload_n X d_Mo_stop_35 2 rfl ?_
    refine j_bipush X (v := 32) d_Mo_stop_36 (by decide) ?_
    refine j_icmp_ge X (tgt := 81) d_Mo_stop_38 (by decide) (fun h1 => ?_) (fun h1 => ?_)
    · replace hp := hp.1 h1
      replace hF := hF.trans (if_pos h1)
      refine j_iload_n X d_Mo_stop_81 1 rfl ?_
      refine j_if_eq X (tgt := 90) d_Mo_stop_82 (by decide) (fun h2 => ?_) (fun h2 => ?_)
      · replace hp := hp.1 h2
        replace hF := hF.trans (if_pos h2)
        refine j_iconst X (v := 0) d_Mo_stop_90 (by decide) ?_
        exact j_iret X hr hk (by rw [hF]) rfl d_Mo_stop_91
      · replace hp := hp.2 h2
        replace hF := hF.trans (if_neg h2)
        refine j_bipush X (v := 10) d_Mo_stop_85 (by decide) ?_
        refine j_goto X (tgt := 91) d_Mo_stop_87 (by decide) ?_
        exact j_iret X hr hk (by rw [hF]) rfl d_Mo_stop_91
    · replace hp := hp.2 h1
      replace hF := hF.trans (if_neg h1)
      refine j_iload_n X d_Mo_stop_41 1 rfl ?_
      refine j_if_ne X (tgt := 69) d_Mo_stop_42 (by decide) (fun h3 => ?_) (fun h3 => ?_)
      · replace hp := hp.2 h3
        replace hF := hF.trans (if_neg h3)
        refine j_iconst X (v := 1) d_Mo_stop_69 (by decide) ?_
        refine j_goto X (tgt := 74) d_Mo_stop_70 (by decide) ?_
        refine j_istore_n X d_Mo_stop_74 [(1, .int 1), (0, .ref (ad 124)), (2, .int v)] (by decide) rfl ?_
        refine j_iinc X d_Mo_stop_75 2 [(2, .int (v + 1)), (1, .int 1), (0, .ref (ad 124))] rfl rfl (by decide) rfl ?_
        refine j_goto X (tgt := 35) d_Mo_stop_78 (by decide) ?_
        refine j_sub (L' := [(0, .ref (ad 124)), (1, .int 1), (2, .int (v + 1))]) [2, 1, 0] rfl ?_
        exact ih S 1 (v + 1) hp F hF
      · replace hp := hp.1 h3
        replace hF := hF.trans (if_pos h3)
        refine j_aload_n X d_Mo_stop_45 0 rfl ?_
        refine j_get X fd_Mo_20_Mo 124 (by omega) y_Mo rfl d_Mo_stop_46 ?_
        refine j_iload_n X d_Mo_stop_49 2 rfl ?_
        obtain ⟨o4, hp⟩ := hp
        refine j_zald X 128 1 (by omega) y_watches rfl o4 d_Mo_stop_50 ?_
        refine j_if_eq X (tgt := 73) d_Mo_stop_51 (by decide) (fun h5 => ?_) (fun h5 => ?_)
        · replace hp := hp.1 h5
          replace hF := hF.trans (if_pos h5)
          refine j_iconst X (v := 0) d_Mo_stop_73 (by decide) ?_
          refine j_istore_n X d_Mo_stop_74 [(1, .int 0), (0, .ref (ad 124)), (2, .int v)] (by decide) rfl ?_
          refine j_iinc X d_Mo_stop_75 2 [(2, .int (v + 1)), (1, .int 0), (0, .ref (ad 124))] rfl rfl (by decide) rfl ?_
          refine j_goto X (tgt := 35) d_Mo_stop_78 (by decide) ?_
          refine j_sub (L' := [(0, .ref (ad 124)), (1, .int 0), (2, .int (v + 1))]) [2, 1, 0] rfl ?_
          exact ih S 0 (v + 1) hp F hF
        · replace hp := hp.2 h5
          replace hF := hF.trans (if_neg h5)
          refine j_aload_n X d_Mo_stop_54 0 rfl ?_
          refine j_get X fd_Mo_23_Mo 124 (by omega) y_Mo rfl d_Mo_stop_55 ?_
          refine j_iload_n X d_Mo_stop_58 2 rfl ?_
          obtain ⟨o6, hp⟩ := hp
          refine j_iald X 129 0 (by omega) y_cells rfl o6 d_Mo_stop_59 ?_
          refine j_aload_n X d_Mo_stop_60 0 rfl ?_
          refine j_get X fd_Mo_29_Mo 124 (by omega) y_Mo rfl d_Mo_stop_61 ?_
          refine j_iload_n X d_Mo_stop_64 2 rfl ?_
          obtain ⟨o7, hp⟩ := hp
          refine j_iald X 131 0 (by omega) y_were rfl o7 d_Mo_stop_65 ?_
          refine j_icmp_eq X (tgt := 73) d_Mo_stop_66 (by decide) (fun h8 => ?_) (fun h8 => ?_)
          · replace hp := hp.1 h8
            replace hF := hF.trans (if_pos h8)
            refine j_iconst X (v := 0) d_Mo_stop_73 (by decide) ?_
            refine j_istore_n X d_Mo_stop_74 [(1, .int 0), (0, .ref (ad 124)), (2, .int v)] (by decide) rfl ?_
            refine j_iinc X d_Mo_stop_75 2 [(2, .int (v + 1)), (1, .int 0), (0, .ref (ad 124))] rfl rfl (by decide) rfl ?_
            refine j_goto X (tgt := 35) d_Mo_stop_78 (by decide) ?_
            refine j_sub (L' := [(0, .ref (ad 124)), (1, .int 0), (2, .int (v + 1))]) [2, 1, 0] rfl ?_
            exact ih S 0 (v + 1) hp F hF
          · replace hp := hp.2 h8
            replace hF := hF.trans (if_neg h8)
            refine j_iconst X (v := 1) d_Mo_stop_69 (by decide) ?_
            refine j_goto X (tgt := 74) d_Mo_stop_70 (by decide) ?_
            refine j_istore_n X d_Mo_stop_74 [(1, .int 1), (0, .ref (ad 124)), (2, .int v)] (by decide) rfl ?_
            refine j_iinc X d_Mo_stop_75 2 [(2, .int (v + 1)), (1, .int 1), (0, .ref (ad 124))] rfl rfl (by decide) rfl ?_
            refine j_goto X (tgt := 35) d_Mo_stop_78 (by decide) ?_
            refine j_sub (L' := [(0, .ref (ad 124)), (1, .int 1), (2, .int (v + 1))]) [2, 1, 0] rfl ?_
            exact ih S 1 (v + 1) hp F hF
set_option maxHeartbeats 4000000 in
set_option maxRecDepth 100000 in
theorem c_Mo_stop (l : Launch) (D : va_G) (aC : Nat → ClassId) (ad : Nat → Nat) (n : Nat) (hn : 135 ≤ n) (c0 : Nat → va_E) (S : xS)   (hp : p_Mo_stop S ) : px_M l y_Mo_stop (Cond.code y_Mo_stop b_Mo_stop 3 (some .int) :: WS) rm_Mo_stop GG D CLS (TYS aC) [.ref (ad 124)] ad (ye aC ad S c0) n (some (.int (f_Mo_stop S))) (ye aC ad S c0) := by
  obtain ⟨F, hF⟩ : ∃ F, F = f_Mo_stop S := ⟨_, rfl⟩
  rw [← hF]
  unfold f_Mo_stop at hF
  refine px_start GG_k (by decide) (Nat.le_of_ble_eq_true rfl) ?_
  intro p e s m args below meth cd X hr hk
  refine j_L (L' := [(0, .ref (ad 124))]) rfl ?_
  unfold p_Mo_stop at hp
  refine j_aload_n X d_Mo_stop_0 0 rfl ?_
  refine j_get X fd_Mo_66_Mo 124 (by omega) y_Mo rfl d_Mo_stop_1 ?_
  refine j_if_lt X (tgt := 31) d_Mo_stop_4 (by decide) (fun h1 => ?_) (fun h1 => ?_)
  · replace hp := hp.1 h1
    replace hF := hF.trans (if_pos h1)
    refine j_iconst X (v := 0) d_Mo_stop_31 (by decide) ?_
    refine j_istore_n X d_Mo_stop_32 [(1, .int 0), (0, .ref (ad 124))] (by decide) rfl ?_
    refine j_iconst X (v := 0) d_Mo_stop_33 (by decide) ?_
    refine j_istore_n X d_Mo_stop_34 [(2, .int 0), (1, .int 0), (0, .ref (ad 124))] (by decide) rfl ?_
    refine j_sub (L' := [(0, .ref (ad 124)), (1, .int 0), (2, .int 0)]) [2, 1, 0] rfl ?_
    exact w_Mo_stop l D aC ad n hn c0  X hr hk 33 S 0 0 hp F hF
  · replace hp := hp.2 h1
    replace hF := hF.trans (if_neg h1)
    refine j_aload_n X d_Mo_stop_7 0 rfl ?_
    refine j_get X fd_Mo_66_Mo 124 (by omega) y_Mo rfl d_Mo_stop_8 ?_
    refine j_bipush X (v := 64) d_Mo_stop_11 (by decide) ?_
    refine j_icmp_ge X (tgt := 31) d_Mo_stop_13 (by decide) (fun h2 => ?_) (fun h2 => ?_)
    · replace hp := hp.1 h2
      replace hF := hF.trans (if_pos h2)
      refine j_iconst X (v := 0) d_Mo_stop_31 (by decide) ?_
      refine j_istore_n X d_Mo_stop_32 [(1, .int 0), (0, .ref (ad 124))] (by decide) rfl ?_
      refine j_iconst X (v := 0) d_Mo_stop_33 (by decide) ?_
      refine j_istore_n X d_Mo_stop_34 [(2, .int 0), (1, .int 0), (0, .ref (ad 124))] (by decide) rfl ?_
      refine j_sub (L' := [(0, .ref (ad 124)), (1, .int 0), (2, .int 0)]) [2, 1, 0] rfl ?_
      exact w_Mo_stop l D aC ad n hn c0  X hr hk 33 S 0 0 hp F hF
    · replace hp := hp.2 h2
      replace hF := hF.trans (if_neg h2)
      refine j_aload_n X d_Mo_stop_16 0 rfl ?_
      refine j_get X fd_Mo_16_Mo 124 (by omega) y_Mo rfl d_Mo_stop_17 ?_
      refine j_aload_n X d_Mo_stop_20 0 rfl ?_
      refine j_get X fd_Mo_66_Mo 124 (by omega) y_Mo rfl d_Mo_stop_21 ?_
      obtain ⟨o3, hp⟩ := hp
      refine j_zald X 127 1 (by omega) y_breaks rfl o3 d_Mo_stop_24 ?_
      refine j_if_eq X (tgt := 31) d_Mo_stop_25 (by decide) (fun h4 => ?_) (fun h4 => ?_)
      · replace hp := hp.1 h4
        replace hF := hF.trans (if_pos h4)
        refine j_iconst X (v := 0) d_Mo_stop_31 (by decide) ?_
        refine j_istore_n X d_Mo_stop_32 [(1, .int 0), (0, .ref (ad 124))] (by decide) rfl ?_
        refine j_iconst X (v := 0) d_Mo_stop_33 (by decide) ?_
        refine j_istore_n X d_Mo_stop_34 [(2, .int 0), (1, .int 0), (0, .ref (ad 124))] (by decide) rfl ?_
        refine j_sub (L' := [(0, .ref (ad 124)), (1, .int 0), (2, .int 0)]) [2, 1, 0] rfl ?_
        exact w_Mo_stop l D aC ad n hn c0  X hr hk 33 S 0 0 hp F hF
      · replace hp := hp.2 h4
        replace hF := hF.trans (if_neg h4)
        refine j_bipush X (v := 9) d_Mo_stop_28 (by decide) ?_
        exact j_iret X hr hk (by rw [hF]) rfl d_Mo_stop_30
def g_Mo_account  : Nat → xS → Int32 → Int32 → Int32 → Int32 × xS
  | 0, S, _, _, _ => ((0 : Int32), S)
  | k + 1, S, t, u, v => if (gI S 124 22) ≤ v then if t < (gI S 124 12) then px_let (sI S 124 19 (0 + (t - u))) (fun S5 : xS => if (gI S5 124 19) ≤ 32 then px_let (sI S5 124 19 (gI S5 124 19)) (fun S8 : xS => px_let (sI S8 124 20 ((gI S8 124 20) + (t - u))) (fun S10 : xS => ((0 : Int32), S10))) else px_let (sI S5 124 19 32) (fun S12 : xS => px_let (sI S12 124 20 ((gI S12 124 20) + (t - u))) (fun S14 : xS => ((0 : Int32), S14)))) else if u ≤ (gI S 124 12) then px_let (sI S 124 19 ((gI S 124 19) + (t - (gI S 124 12)))) (fun S19 : xS => if (gI S19 124 19) ≤ 32 then px_let (sI S19 124 19 (gI S19 124 19)) (fun S22 : xS => px_let (sI S22 124 20 ((gI S22 124 20) + (t - (gI S 124 12)))) (fun S24 : xS => ((0 : Int32), S24))) else px_let (sI S19 124 19 32) (fun S26 : xS => px_let (sI S26 124 20 ((gI S26 124 20) + (t - (gI S 124 12)))) (fun S28 : xS => ((0 : Int32), S28)))) else px_let (sI S 124 19 (0 + (t - u))) (fun S32 : xS => if (gI S32 124 19) ≤ 32 then px_let (sI S32 124 19 (gI S32 124 19)) (fun S35 : xS => px_let (sI S35 124 20 ((gI S35 124 20) + (t - u))) (fun S37 : xS => ((0 : Int32), S37))) else px_let (sI S32 124 19 32) (fun S39 : xS => px_let (sI S39 124 20 ((gI S39 124 20) + (t - u))) (fun S41 : xS => ((0 : Int32), S41)))) else if t < (gR S 134 v.toNatClampNeg) then g_Mo_account k S t u (v + 1) else g_Mo_account k S t (gR S 134 v.toNatClampNeg) (v + 1)
def q_Mo_account  : Nat → xS → Int32 → Int32 → Int32 → Prop
  | 0, _, _, _, _ => False
  | k + 1, S, t, u, v => ((gI S 124 22) ≤ v → (t < (gI S 124 12) → (∀ S5 : xS, S5 = sI S 124 19 (0 + (t - u)) → ((gI S5 124 19) ≤ 32 → (∀ S8 : xS, S8 = sI S5 124 19 (gI S5 124 19) → (∀ S10 : xS, S10 = sI S8 124 20 ((gI S8 124 20) + (t - u)) → True))) ∧ (¬ (gI S5 124 19) ≤ 32 → (∀ S12 : xS, S12 = sI S5 124 19 32 → (∀ S14 : xS, S14 = sI S12 124 20 ((gI S12 124 20) + (t - u)) → True))))) ∧ (¬ t < (gI S 124 12) → (u ≤ (gI S 124 12) → (∀ S19 : xS, S19 = sI S 124 19 ((gI S 124 19) + (t - (gI S 124 12))) → ((gI S19 124 19) ≤ 32 → (∀ S22 : xS, S22 = sI S19 124 19 (gI S19 124 19) → (∀ S24 : xS, S24 = sI S22 124 20 ((gI S22 124 20) + (t - (gI S 124 12))) → True))) ∧ (¬ (gI S19 124 19) ≤ 32 → (∀ S26 : xS, S26 = sI S19 124 19 32 → (∀ S28 : xS, S28 = sI S26 124 20 ((gI S26 124 20) + (t - (gI S 124 12))) → True))))) ∧ (¬ u ≤ (gI S 124 12) → (∀ S32 : xS, S32 = sI S 124 19 (0 + (t - u)) → ((gI S32 124 19) ≤ 32 → (∀ S35 : xS, S35 = sI S32 124 19 (gI S32 124 19) → (∀ S37 : xS, S37 = sI S35 124 20 ((gI S35 124 20) + (t - u)) → True))) ∧ (¬ (gI S32 124 19) ≤ 32 → (∀ S39 : xS, S39 = sI S32 124 19 32 → (∀ S41 : xS, S41 = sI S39 124 20 ((gI S39 124 20) + (t - u)) → True))))))) ∧ (¬ (gI S 124 22) ≤ v → (vp_in v 9) ∧ ((t < (gR S 134 v.toNatClampNeg) → q_Mo_account k S t u (v + 1)) ∧ (¬ t < (gR S 134 v.toNatClampNeg) → (vp_in v 9) ∧ (q_Mo_account k S t (gR S 134 v.toNatClampNeg) (v + 1)))))
def f_Mo_account (S : xS) (t : Int32) : Int32 × xS := if (gI S 124 12) ≤ t then g_Mo_account 10 S t 0 0 else if (gI S 124 19) < ((gI S 124 12) - t) then g_Mo_account 10 S t 0 0 else px_let (sI S 124 19 ((gI S 124 19) - ((gI S 124 12) - t))) (fun S3 : xS => ((0 : Int32), S3))
def p_Mo_account (S : xS) (t : Int32) : Prop := ((gI S 124 12) ≤ t → q_Mo_account 10 S t 0 0) ∧ (¬ (gI S 124 12) ≤ t → ((gI S 124 19) < ((gI S 124 12) - t) → q_Mo_account 10 S t 0 0) ∧ (¬ (gI S 124 19) < ((gI S 124 12) - t) → (∀ S3 : xS, S3 = sI S 124 19 ((gI S 124 19) - ((gI S 124 12) - t)) → True)))
abbrev rm_Mo_account : Room := { frames := 0, cells := 0, slots := 0, locals := 0 }
set_option maxHeartbeats 4000000 in
set_option maxRecDepth 100000 in
theorem w_Mo_account (l : Launch) (D : va_G) (aC : Nat → ClassId) (ad : Nat → Nat) (n : Nat) (hn : 135 ≤ n) (c0 : Nat → va_E)   {p : Program} {e : Env} {s : State} {m : MethodId} {args : Array Value} {below : List Frame} {meth : Method} {cd : Code} (X : px_X p s m args cd b_Mo_account 5 WS y_Mo_account.cls GG D CLS (TYS aC) (px_A ad n s.heap.size) ad n) (hr : meth.sig.returnType = none) (hk : meth.locks = false) : ∀ (k : Nat) (S : xS) (t : Int32) (u : Int32) (v : Int32), q_Mo_account  k S t u v → ∀ F, F = g_Mo_account  k S t u v → px_J p l e rm_Mo_account s m args below meth cd D CLS (px_A ad n s.heap.size) ad n 5 0 0 (MQ below (px_Qc D CLS ad n s.heap.size none (ye aC ad F.2 c0)) args s 0 0 (px_A ad n s.heap.size)) (ye aC ad S c0) 41 [(0, .ref (ad 124)), (1, .int t), (2, .int u), (3, .int v)] [] := by
  intro k
  induction k with
  | zero => intro S t u v hp; exact hp.elim
  | succ k ih =>
    intro S t u v hp F hF
    rw [q_Mo_account] at hp
    rw [g_Mo_account] at hF
    refine j_iload_n X d_Mo_account_41 3 rfl ?_
    refine j_aload_n X d_Mo_account_42 0 rfl ?_
    refine j_get X fd_Mo_51_Mo 124 (by omega) y_Mo rfl d_Mo_account_43 ?_
    refine j_icmp_ge X (tgt := 76) d_Mo_account_46 (by decide) (fun h1 => ?_) (fun h1 => ?_)
    · replace hp := hp.1 h1
      replace hF := hF.trans (if_pos h1)
      refine j_iload_n X d_Mo_account_76 1 rfl ?_
      refine j_aload_n X d_Mo_account_77 0 rfl ?_
      refine j_get X fd_Mo_63_Mo 124 (by omega) y_Mo rfl d_Mo_account_78 ?_
      refine j_icmp_lt X (tgt := 92) d_Mo_account_81 (by decide) (fun h2 => ?_) (fun h2 => ?_)
      · replace hp := hp.1 h2
        replace hF := hF.trans (if_pos h2)
        refine j_iconst X (v := 1) d_Mo_account_92 (by decide) ?_
        refine j_goto X (tgt := 97) d_Mo_account_93 (by decide) ?_
        refine j_istore_n X d_Mo_account_97 [(3, .int 1), (0, .ref (ad 124)), (1, .int t), (2, .int u)] (by decide) rfl ?_
        refine j_iload_n X d_Mo_account_98 0 rfl ?_
        refine j_if_eq X (tgt := 108) d_Mo_account_99 (by decide) (fun h => absurd h (by decide)) (fun _ => ?_)
        refine j_iload_n X d_Mo_account_102 2 rfl ?_
        refine j_iload_n X d_Mo_account_103 3 rfl ?_
        refine j_isub X d_Mo_account_104 ?_
        refine j_goto X (tgt := 114) d_Mo_account_105 (by decide) ?_
        refine j_istore X d_Mo_account_114 [(4, .int (t - u)), (3, .int 1), (0, .ref (ad 124)), (1, .int t), (2, .int u)] (by decide) rfl ?_
        refine j_aload_n X d_Mo_account_116 2 rfl ?_
        refine j_iload_n X d_Mo_account_117 1 rfl ?_
        refine j_if_eq X (tgt := 125) d_Mo_account_118 (by decide) (fun h => absurd h (by decide)) (fun _ => ?_)
        refine j_iconst X (v := 0) d_Mo_account_121 (by decide) ?_
        refine j_goto X (tgt := 129) d_Mo_account_122 (by decide) ?_
        refine j_iload X d_Mo_account_129 0 rfl ?_
        refine j_iadd X d_Mo_account_131 ?_
        refine j_put X fp_Mo_122_Mo 124 (by omega) y_Mo (Nat.le_of_ble_eq_true rfl) rfl rfl d_Mo_account_132 (j_w (y_put_19) ?_)
        refine y_gen (fun S5 e6 => ?_)
        replace hp := hp S5 e6
        replace hF := hF.trans (px_let_eq e6)
        refine j_aload_n X d_Mo_account_135 2 rfl ?_
        refine j_aload_n X d_Mo_account_136 2 rfl ?_
        refine j_get X fd_Mo_122_Mo 124 (by omega) y_Mo rfl d_Mo_account_137 ?_
        refine j_bipush X (v := 32) d_Mo_account_140 (by decide) ?_
        refine j_icmp_le X (tgt := 150) d_Mo_account_142 (by decide) (fun h7 => ?_) (fun h7 => ?_)
        · replace hp := hp.1 h7
          replace hF := hF.trans (if_pos h7)
          refine j_aload_n X d_Mo_account_150 2 rfl ?_
          refine j_get X fd_Mo_122_Mo 124 (by omega) y_Mo rfl d_Mo_account_151 ?_
          refine j_put X fp_Mo_122_Mo 124 (by omega) y_Mo (Nat.le_of_ble_eq_true rfl) rfl rfl d_Mo_account_154 (j_w (y_put_19) ?_)
          refine y_gen (fun S8 e9 => ?_)
          replace hp := hp S8 e9
          replace hF := hF.trans (px_let_eq e9)
          refine j_aload_n X d_Mo_account_157 2 rfl ?_
          refine j_dup X d_Mo_account_158 rfl ?_
          refine j_get X fd_Mo_128_Mo 124 (by omega) y_Mo rfl d_Mo_account_159 ?_
          refine j_iload X d_Mo_account_162 0 rfl ?_
          refine j_iadd X d_Mo_account_164 ?_
          refine j_put X fp_Mo_128_Mo 124 (by omega) y_Mo (Nat.le_of_ble_eq_true rfl) rfl rfl d_Mo_account_165 (j_w (y_put_20) ?_)
          refine y_gen (fun S10 e11 => ?_)
          replace hp := hp S10 e11
          replace hF := hF.trans (px_let_eq e11)
          exact j_vret X hr hk rfl (by rw [hF]) d_Mo_account_168
        · replace hp := hp.2 h7
          replace hF := hF.trans (if_neg h7)
          refine j_bipush X (v := 32) d_Mo_account_145 (by decide) ?_
          refine j_goto X (tgt := 154) d_Mo_account_147 (by decide) ?_
          refine j_put X fp_Mo_122_Mo 124 (by omega) y_Mo (Nat.le_of_ble_eq_true rfl) rfl rfl d_Mo_account_154 (j_w (y_put_19) ?_)
          refine y_gen (fun S12 e13 => ?_)
          replace hp := hp S12 e13
          replace hF := hF.trans (px_let_eq e13)
          refine j_aload_n X d_Mo_account_157 2 rfl ?_
          refine j_dup X d_Mo_account_158 rfl ?_
          refine j_get X fd_Mo_128_Mo 124 (by omega) y_Mo rfl d_Mo_account_159 ?_
          refine j_iload X d_Mo_account_162 0 rfl ?_
          refine j_iadd X d_Mo_account_164 ?_
          refine j_put X fp_Mo_128_Mo 124 (by omega) y_Mo (Nat.le_of_ble_eq_true rfl) rfl rfl d_Mo_account_165 (j_w (y_put_20) ?_)
          refine y_gen (fun S14 e15 => ?_)
          replace hp := hp S14 e15
          replace hF := hF.trans (px_let_eq e15)
          exact j_vret X hr hk rfl (by rw [hF]) d_Mo_account_168
      · replace hp := hp.2 h2
        replace hF := hF.trans (if_neg h2)
        refine j_iload_n X d_Mo_account_84 2 rfl ?_
        refine j_aload_n X d_Mo_account_85 0 rfl ?_
        refine j_get X fd_Mo_63_Mo 124 (by omega) y_Mo rfl d_Mo_account_86 ?_
        refine j_icmp_le X (tgt := 96) d_Mo_account_89 (by decide) (fun h16 => ?_) (fun h16 => ?_)
        · replace hp := hp.1 h16
          replace hF := hF.trans (if_pos h16)
          refine j_iconst X (v := 0) d_Mo_account_96 (by decide) ?_
          refine j_istore_n X d_Mo_account_97 [(3, .int 0), (0, .ref (ad 124)), (1, .int t), (2, .int u)] (by decide) rfl ?_
          refine j_iload_n X d_Mo_account_98 0 rfl ?_
          refine j_if_eq X (tgt := 108) d_Mo_account_99 (by decide) (fun _ => ?_) (fun h => absurd (by decide) h)
          refine j_iload_n X d_Mo_account_108 2 rfl ?_
          refine j_aload_n X d_Mo_account_109 1 rfl ?_
          refine j_get X fd_Mo_63_Mo 124 (by omega) y_Mo rfl d_Mo_account_110 ?_
          refine j_isub X d_Mo_account_113 ?_
          refine j_istore X d_Mo_account_114 [(4, .int (t - (gI S 124 12))), (3, .int 0), (0, .ref (ad 124)), (1, .int t), (2, .int u)] (by decide) rfl ?_
          refine j_aload_n X d_Mo_account_116 2 rfl ?_
          refine j_iload_n X d_Mo_account_117 1 rfl ?_
          refine j_if_eq X (tgt := 125) d_Mo_account_118 (by decide) (fun _ => ?_) (fun h => absurd (by decide) h)
          refine j_aload_n X d_Mo_account_125 2 rfl ?_
          refine j_get X fd_Mo_122_Mo 124 (by omega) y_Mo rfl d_Mo_account_126 ?_
          refine j_iload X d_Mo_account_129 0 rfl ?_
          refine j_iadd X d_Mo_account_131 ?_
          refine j_put X fp_Mo_122_Mo 124 (by omega) y_Mo (Nat.le_of_ble_eq_true rfl) rfl rfl d_Mo_account_132 (j_w (y_put_19) ?_)
          refine y_gen (fun S19 e20 => ?_)
          replace hp := hp S19 e20
          replace hF := hF.trans (px_let_eq e20)
          refine j_aload_n X d_Mo_account_135 2 rfl ?_
          refine j_aload_n X d_Mo_account_136 2 rfl ?_
          refine j_get X fd_Mo_122_Mo 124 (by omega) y_Mo rfl d_Mo_account_137 ?_
          refine j_bipush X (v := 32) d_Mo_account_140 (by decide) ?_
          refine j_icmp_le X (tgt := 150) d_Mo_account_142 (by decide) (fun h21 => ?_) (fun h21 => ?_)
          · replace hp := hp.1 h21
            replace hF := hF.trans (if_pos h21)
            refine j_aload_n X d_Mo_account_150 2 rfl ?_
            refine j_get X fd_Mo_122_Mo 124 (by omega) y_Mo rfl d_Mo_account_151 ?_
            refine j_put X fp_Mo_122_Mo 124 (by omega) y_Mo (Nat.le_of_ble_eq_true rfl) rfl rfl d_Mo_account_154 (j_w (y_put_19) ?_)
            refine y_gen (fun S22 e23 => ?_)
            replace hp := hp S22 e23
            replace hF := hF.trans (px_let_eq e23)
            refine j_aload_n X d_Mo_account_157 2 rfl ?_
            refine j_dup X d_Mo_account_158 rfl ?_
            refine j_get X fd_Mo_128_Mo 124 (by omega) y_Mo rfl d_Mo_account_159 ?_
            refine j_iload X d_Mo_account_162 0 rfl ?_
            refine j_iadd X d_Mo_account_164 ?_
            refine j_put X fp_Mo_128_Mo 124 (by omega) y_Mo (Nat.le_of_ble_eq_true rfl) rfl rfl d_Mo_account_165 (j_w (y_put_20) ?_)
            refine y_gen (fun S24 e25 => ?_)
            replace hp := hp S24 e25
            replace hF := hF.trans (px_let_eq e25)
            exact j_vret X hr hk rfl (by rw [hF]) d_Mo_account_168
          · replace hp := hp.2 h21
            replace hF := hF.trans (if_neg h21)
            refine j_bipush X (v := 32) d_Mo_account_145 (by decide) ?_
            refine j_goto X (tgt := 154) d_Mo_account_147 (by decide) ?_
            refine j_put X fp_Mo_122_Mo 124 (by omega) y_Mo (Nat.le_of_ble_eq_true rfl) rfl rfl d_Mo_account_154 (j_w (y_put_19) ?_)
            refine y_gen (fun S26 e27 => ?_)
            replace hp := hp S26 e27
            replace hF := hF.trans (px_let_eq e27)
            refine j_aload_n X d_Mo_account_157 2 rfl ?_
            refine j_dup X d_Mo_account_158 rfl ?_
            refine j_get X fd_Mo_128_Mo 124 (by omega) y_Mo rfl d_Mo_account_159 ?_
            refine j_iload X d_Mo_account_162 0 rfl ?_
            refine j_iadd X d_Mo_account_164 ?_
            refine j_put X fp_Mo_128_Mo 124 (by omega) y_Mo (Nat.le_of_ble_eq_true rfl) rfl rfl d_Mo_account_165 (j_w (y_put_20) ?_)
            refine y_gen (fun S28 e29 => ?_)
            replace hp := hp S28 e29
            replace hF := hF.trans (px_let_eq e29)
            exact j_vret X hr hk rfl (by rw [hF]) d_Mo_account_168
        · replace hp := hp.2 h16
          replace hF := hF.trans (if_neg h16)
          refine j_iconst X (v := 1) d_Mo_account_92 (by decide) ?_
          refine j_goto X (tgt := 97) d_Mo_account_93 (by decide) ?_
          refine j_istore_n X d_Mo_account_97 [(3, .int 1), (0, .ref (ad 124)), (1, .int t), (2, .int u)] (by decide) rfl ?_
          refine j_iload_n X d_Mo_account_98 0 rfl ?_
          refine j_if_eq X (tgt := 108) d_Mo_account_99 (by decide) (fun h => absurd h (by decide)) (fun _ => ?_)
          refine j_iload_n X d_Mo_account_102 2 rfl ?_
          refine j_iload_n X d_Mo_account_103 3 rfl ?_
          refine j_isub X d_Mo_account_104 ?_
          refine j_goto X (tgt := 114) d_Mo_account_105 (by decide) ?_
          refine j_istore X d_Mo_account_114 [(4, .int (t - u)), (3, .int 1), (0, .ref (ad 124)), (1, .int t), (2, .int u)] (by decide) rfl ?_
          refine j_aload_n X d_Mo_account_116 2 rfl ?_
          refine j_iload_n X d_Mo_account_117 1 rfl ?_
          refine j_if_eq X (tgt := 125) d_Mo_account_118 (by decide) (fun h => absurd h (by decide)) (fun _ => ?_)
          refine j_iconst X (v := 0) d_Mo_account_121 (by decide) ?_
          refine j_goto X (tgt := 129) d_Mo_account_122 (by decide) ?_
          refine j_iload X d_Mo_account_129 0 rfl ?_
          refine j_iadd X d_Mo_account_131 ?_
          refine j_put X fp_Mo_122_Mo 124 (by omega) y_Mo (Nat.le_of_ble_eq_true rfl) rfl rfl d_Mo_account_132 (j_w (y_put_19) ?_)
          refine y_gen (fun S32 e33 => ?_)
          replace hp := hp S32 e33
          replace hF := hF.trans (px_let_eq e33)
          refine j_aload_n X d_Mo_account_135 2 rfl ?_
          refine j_aload_n X d_Mo_account_136 2 rfl ?_
          refine j_get X fd_Mo_122_Mo 124 (by omega) y_Mo rfl d_Mo_account_137 ?_
          refine j_bipush X (v := 32) d_Mo_account_140 (by decide) ?_
          refine j_icmp_le X (tgt := 150) d_Mo_account_142 (by decide) (fun h34 => ?_) (fun h34 => ?_)
          · replace hp := hp.1 h34
            replace hF := hF.trans (if_pos h34)
            refine j_aload_n X d_Mo_account_150 2 rfl ?_
            refine j_get X fd_Mo_122_Mo 124 (by omega) y_Mo rfl d_Mo_account_151 ?_
            refine j_put X fp_Mo_122_Mo 124 (by omega) y_Mo (Nat.le_of_ble_eq_true rfl) rfl rfl d_Mo_account_154 (j_w (y_put_19) ?_)
            refine y_gen (fun S35 e36 => ?_)
            replace hp := hp S35 e36
            replace hF := hF.trans (px_let_eq e36)
            refine j_aload_n X d_Mo_account_157 2 rfl ?_
            refine j_dup X d_Mo_account_158 rfl ?_
            refine j_get X fd_Mo_128_Mo 124 (by omega) y_Mo rfl d_Mo_account_159 ?_
            refine j_iload X d_Mo_account_162 0 rfl ?_
            refine j_iadd X d_Mo_account_164 ?_
            refine j_put X fp_Mo_128_Mo 124 (by omega) y_Mo (Nat.le_of_ble_eq_true rfl) rfl rfl d_Mo_account_165 (j_w (y_put_20) ?_)
            refine y_gen (fun S37 e38 => ?_)
            replace hp := hp S37 e38
            replace hF := hF.trans (px_let_eq e38)
            exact j_vret X hr hk rfl (by rw [hF]) d_Mo_account_168
          · replace hp := hp.2 h34
            replace hF := hF.trans (if_neg h34)
            refine j_bipush X (v := 32) d_Mo_account_145 (by decide) ?_
            refine j_goto X (tgt := 154) d_Mo_account_147 (by decide) ?_
            refine j_put X fp_Mo_122_Mo 124 (by omega) y_Mo (Nat.le_of_ble_eq_true rfl) rfl rfl d_Mo_account_154 (j_w (y_put_19) ?_)
            refine y_gen (fun S39 e40 => ?_)
            replace hp := hp S39 e40
            replace hF := hF.trans (px_let_eq e40)
            refine j_aload_n X d_Mo_account_157 2 rfl ?_
            refine j_dup X d_Mo_account_158 rfl ?_
            refine j_get X fd_Mo_128_Mo 124 (by omega) y_Mo rfl d_Mo_account_159 ?_
            refine j_iload X d_Mo_account_162 0 rfl ?_
            refine j_iadd X d_Mo_account_164 ?_
            refine j_put X fp_Mo_128_Mo 124 (by omega) y_Mo (Nat.le_of_ble_eq_true rfl) rfl rfl d_Mo_account_165 (j_w (y_put_20) ?_)
            refine y_gen (fun S41 e42 => ?_)
            replace hp := hp S41 e42
            replace hF := hF.trans (px_let_eq e42)
            exact j_vret X hr hk rfl (by rw [hF]) d_Mo_account_168
    · replace hp := hp.2 h1
      replace hF := hF.trans (if_neg h1)
      refine j_aload_n X d_Mo_account_49 0 rfl ?_
      refine j_get X fd_Mo_42_Mo 124 (by omega) y_Mo rfl d_Mo_account_50 ?_
      refine j_iload_n X d_Mo_account_53 3 rfl ?_
      obtain ⟨o43, hp⟩ := hp
      refine j_iald X 134 0 (by omega) y_keptAt rfl o43 d_Mo_account_54 ?_
      refine j_iload_n X d_Mo_account_55 1 rfl ?_
      refine j_icmp_gt X (tgt := 68) d_Mo_account_56 (by decide) (fun h44 => ?_) (fun h44 => ?_)
      · replace hp := hp.1 h44
        replace hF := hF.trans (if_pos h44)
        refine j_iload_n X d_Mo_account_68 2 rfl ?_
        refine j_istore_n X d_Mo_account_69 [(2, .int u), (0, .ref (ad 124)), (1, .int t), (3, .int v)] (by decide) rfl ?_
        refine j_iinc X d_Mo_account_70 3 [(3, .int (v + 1)), (2, .int u), (0, .ref (ad 124)), (1, .int t)] rfl rfl (by decide) rfl ?_
        refine j_goto X (tgt := 41) d_Mo_account_73 (by decide) ?_
        refine j_sub (L' := [(0, .ref (ad 124)), (1, .int t), (2, .int u), (3, .int (v + 1))]) [2, 3, 1, 0] rfl ?_
        exact ih S t u (v + 1) hp F hF
      · replace hp := hp.2 h44
        replace hF := hF.trans (if_neg h44)
        refine j_aload_n X d_Mo_account_59 0 rfl ?_
        refine j_get X fd_Mo_42_Mo 124 (by omega) y_Mo rfl d_Mo_account_60 ?_
        refine j_iload_n X d_Mo_account_63 3 rfl ?_
        obtain ⟨o45, hp⟩ := hp
        refine j_iald X 134 0 (by omega) y_keptAt rfl o45 d_Mo_account_64 ?_
        refine j_goto X (tgt := 69) d_Mo_account_65 (by decide) ?_
        refine j_istore_n X d_Mo_account_69 [(2, .int (gR S 134 v.toNatClampNeg)), (0, .ref (ad 124)), (1, .int t), (3, .int v)] (by decide) rfl ?_
        refine j_iinc X d_Mo_account_70 3 [(3, .int (v + 1)), (2, .int (gR S 134 v.toNatClampNeg)), (0, .ref (ad 124)), (1, .int t)] rfl rfl (by decide) rfl ?_
        refine j_goto X (tgt := 41) d_Mo_account_73 (by decide) ?_
        refine j_sub (L' := [(0, .ref (ad 124)), (1, .int t), (2, .int (gR S 134 v.toNatClampNeg)), (3, .int (v + 1))]) [2, 3, 1, 0] rfl ?_
        exact ih S t (gR S 134 v.toNatClampNeg) (v + 1) hp F hF
set_option maxHeartbeats 4000000 in
set_option maxRecDepth 100000 in
theorem c_Mo_account (l : Launch) (D : va_G) (aC : Nat → ClassId) (ad : Nat → Nat) (n : Nat) (hn : 135 ≤ n) (c0 : Nat → va_E) (S : xS) (t : Int32)  (hp : p_Mo_account S t) : px_M l y_Mo_account (Cond.code y_Mo_account b_Mo_account 5 none :: WS) rm_Mo_account GG D CLS (TYS aC) [.ref (ad 124), .int t] ad (ye aC ad S c0) n none (ye aC ad (f_Mo_account S t).2 c0) := by
  obtain ⟨F, hF⟩ : ∃ F, F = f_Mo_account S t := ⟨_, rfl⟩
  rw [← hF]
  unfold f_Mo_account at hF
  refine px_start GG_k (by decide) (Nat.le_of_ble_eq_true rfl) ?_
  intro p e s m args below meth cd X hr hk
  refine j_L (L' := [(0, .ref (ad 124)), (1, .int t)]) rfl ?_
  unfold p_Mo_account at hp
  refine j_iload_n X d_Mo_account_0 1 rfl ?_
  refine j_aload_n X d_Mo_account_1 0 rfl ?_
  refine j_get X fd_Mo_63_Mo 124 (by omega) y_Mo rfl d_Mo_account_2 ?_
  refine j_icmp_ge X (tgt := 37) d_Mo_account_5 (by decide) (fun h1 => ?_) (fun h1 => ?_)
  · replace hp := hp.1 h1
    replace hF := hF.trans (if_pos h1)
    refine j_iconst X (v := 0) d_Mo_account_37 (by decide) ?_
    refine j_istore_n X d_Mo_account_38 [(2, .int 0), (0, .ref (ad 124)), (1, .int t)] (by decide) rfl ?_
    refine j_iconst X (v := 0) d_Mo_account_39 (by decide) ?_
    refine j_istore_n X d_Mo_account_40 [(3, .int 0), (2, .int 0), (0, .ref (ad 124)), (1, .int t)] (by decide) rfl ?_
    refine j_sub (L' := [(0, .ref (ad 124)), (1, .int t), (2, .int 0), (3, .int 0)]) [2, 3, 1, 0] rfl ?_
    exact w_Mo_account l D aC ad n hn c0  X hr hk 10 S t 0 0 hp F hF
  · replace hp := hp.2 h1
    replace hF := hF.trans (if_neg h1)
    refine j_aload_n X d_Mo_account_8 0 rfl ?_
    refine j_get X fd_Mo_63_Mo 124 (by omega) y_Mo rfl d_Mo_account_9 ?_
    refine j_iload_n X d_Mo_account_12 1 rfl ?_
    refine j_isub X d_Mo_account_13 ?_
    refine j_aload_n X d_Mo_account_14 0 rfl ?_
    refine j_get X fd_Mo_122_Mo 124 (by omega) y_Mo rfl d_Mo_account_15 ?_
    refine j_icmp_gt X (tgt := 37) d_Mo_account_18 (by decide) (fun h2 => ?_) (fun h2 => ?_)
    · replace hp := hp.1 h2
      replace hF := hF.trans (if_pos h2)
      refine j_iconst X (v := 0) d_Mo_account_37 (by decide) ?_
      refine j_istore_n X d_Mo_account_38 [(2, .int 0), (0, .ref (ad 124)), (1, .int t)] (by decide) rfl ?_
      refine j_iconst X (v := 0) d_Mo_account_39 (by decide) ?_
      refine j_istore_n X d_Mo_account_40 [(3, .int 0), (2, .int 0), (0, .ref (ad 124)), (1, .int t)] (by decide) rfl ?_
      refine j_sub (L' := [(0, .ref (ad 124)), (1, .int t), (2, .int 0), (3, .int 0)]) [2, 3, 1, 0] rfl ?_
      exact w_Mo_account l D aC ad n hn c0  X hr hk 10 S t 0 0 hp F hF
    · replace hp := hp.2 h2
      replace hF := hF.trans (if_neg h2)
      refine j_aload_n X d_Mo_account_21 0 rfl ?_
      refine j_dup X d_Mo_account_22 rfl ?_
      refine j_get X fd_Mo_122_Mo 124 (by omega) y_Mo rfl d_Mo_account_23 ?_
      refine j_aload_n X d_Mo_account_26 0 rfl ?_
      refine j_get X fd_Mo_63_Mo 124 (by omega) y_Mo rfl d_Mo_account_27 ?_
      refine j_iload_n X d_Mo_account_30 1 rfl ?_
      refine j_isub X d_Mo_account_31 ?_
      refine j_isub X d_Mo_account_32 ?_
      refine j_put X fp_Mo_122_Mo 124 (by omega) y_Mo (Nat.le_of_ble_eq_true rfl) rfl rfl d_Mo_account_33 (j_w (y_put_19) ?_)
      refine y_gen (fun S3 e4 => ?_)
      replace hp := hp S3 e4
      replace hF := hF.trans (px_let_eq e4)
      exact j_vret X hr hk rfl (by rw [hF]) d_Mo_account_36
