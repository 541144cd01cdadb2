def g_Nt_restore (i : Nat) (j : Nat) : Nat → xS → Int32 → Int32 × xS
  | 0, S, _ => ((0 : Int32), S)
  | k + 1, S, v => if v < 0 then px_let ((f_Rg_copySN S j i).2) (fun S2 : xS => ((0 : Int32), S2)) else px_let (sR S (j + 1) (upd (gR S (j + 1)) (gR S (i + 1) v.toNatClampNeg).toNatClampNeg (gR S (i + 2) v.toNatClampNeg))) (fun S6 : xS => g_Nt_restore i j k S6 (v + (-1)))
def q_Nt_restore (i : Nat) (j : Nat) : Nat → xS → Int32 → Prop
  | 0, _, _ => False
  | k + 1, S, v => (v < 0 → (∀ S2 : xS, S2 = (f_Rg_copySN S j i).2 → True)) ∧ (¬ v < 0 → (vp_in v 2) ∧ ((vp_in v 2) ∧ ((vp_in (gR S (i + 1) v.toNatClampNeg) 56) ∧ ((∀ S6 : xS, S6 = sR S (j + 1) (upd (gR S (j + 1)) (gR S (i + 1) v.toNatClampNeg).toNatClampNeg (gR S (i + 2) v.toNatClampNeg)) → q_Nt_restore i j k S6 (v + (-1)))))))
def f_Nt_restore (S : xS) (i : Nat) (j : Nat) : Int32 × xS := g_Nt_restore i j 3 S ((gI S i 9) - 1)
def p_Nt_restore (S : xS) (i : Nat) (j : Nat) : Prop := q_Nt_restore i j 3 S ((gI S i 9) - 1)
abbrev rm_Nt_restore : Room := { frames := 1, cells := 0, slots := 0, locals := 21 }
set_option maxHeartbeats 4000000 in
set_option maxRecDepth 100000 in
theorem w_Nt_restore (l : Launch) (D : va_G) (aC : Nat → ClassId) (ad : Nat → Nat) (n : Nat) (hn : 124 ≤ n) (c0 : Nat → va_E) (i : Nat) (j : Nat) (hi : kNt i) (hj : kSt j) {p : Program} {e : Env} {s : State} {m : MethodId} {args : Array Value} {below : List Frame} {meth : Method} {cd : Code} (X : px_X p s m args cd b_Nt_restore 3 WS y_Nt_restore.cls GG D CLS (TYS aC) (px_A ad n s.heap.size) ad n) (hr : meth.sig.returnType = none) (hk : meth.locks = false) : ∀ (k : Nat) (S : xS) (v : Int32), q_Nt_restore i j k S v → ∀ F, F = g_Nt_restore i j k S v → px_J p l e rm_Nt_restore s m args below meth cd D CLS (px_A ad n s.heap.size) ad n 3 0 0 (MQ below (px_Qc D CLS ad n s.heap.size none (xe aC ad F.2 c0)) args s 0 0 (px_A ad n s.heap.size)) (xe aC ad S c0) 7 [(0, .ref (ad i)), (1, .ref (ad j)), (2, .int v)] [] := by
  intro k
  induction k with
  | zero => intro S v hp; exact hp.elim
  | succ k ih =>
    intro S v hp F hF
    rw [q_Nt_restore] at hp
    rw [g_Nt_restore] at hF
    refine j_iload_n X d_Nt_restore_7 2 rfl ?_
    refine j_if_lt X (tgt := 34) d_Nt_restore_8 (by decide) (fun h1 => ?_) (fun h1 => ?_)
    · replace hp := hp.1 h1
      replace hF := hF.trans (if_pos h1)
      refine j_aload_n X d_Nt_restore_34 1 rfl ?_
      refine j_aload_n X d_Nt_restore_35 0 rfl ?_
      refine j_callU (st := []) X j (k_lt hj hn) hY_Rg_copyRegisters (c_Rg_copySN l D aC ad n hn c0 S j i hj hi ) ⟨mw_489, mw_333, mw_334, mw_262, rfl, by decide, by decide, by decide +kernel⟩ (x_St hj) rfl rfl rfl (Nat.le_of_ble_eq_true rfl) d_Nt_restore_36 rfl rfl ⟨by decide, by decide⟩ ⟨Nat.zero_le _, Nat.zero_le _⟩ (j_st (st' := []) rfl ?_)
      refine x_gen (fun S2 e3 => ?_)
      replace hp := hp S2 e3
      replace hF := hF.trans (px_let_eq e3)
      exact j_vret X hr hk rfl (by rw [hF]) d_Nt_restore_39
    · replace hp := hp.2 h1
      replace hF := hF.trans (if_neg h1)
      refine j_aload_n X d_Nt_restore_11 1 rfl ?_
      refine j_get X fd_Nt_24_St j (k_lt hj hn) (x_St hj) rfl d_Nt_restore_12 ?_
      refine j_aload_n X d_Nt_restore_15 0 rfl ?_
      refine j_get X fd_Nt_9_Nt i (k_ltN hi hn) (x_Nt hi) rfl d_Nt_restore_16 ?_
      refine j_iload_n X d_Nt_restore_19 2 rfl ?_
      obtain ⟨o4, hp⟩ := hp
      refine j_iald X (i + 1) 0 (k_ltN1 hi hn) (x_pl hi) rfl o4 d_Nt_restore_20 ?_
      refine j_aload_n X d_Nt_restore_21 0 rfl ?_
      refine j_get X fd_Nt_13_Nt i (k_ltN hi hn) (x_Nt hi) rfl d_Nt_restore_22 ?_
      refine j_iload_n X d_Nt_restore_25 2 rfl ?_
      obtain ⟨o5, hp⟩ := hp
      refine j_iald X (i + 2) 0 (k_ltN2 hi hn) (x_wd hi) rfl o5 d_Nt_restore_26 ?_
      obtain ⟨o8, hp⟩ := hp
      refine j_iast X (j + 1) 0 (k_lt1 hj hn) (x_mem hj) rfl o8 d_Nt_restore_27 (j_w (x_ast_mem hj) ?_)
      refine x_gen (fun S6 e7 => ?_)
      replace hp := hp S6 e7
      replace hF := hF.trans (px_let_eq e7)
      refine j_iinc X d_Nt_restore_28 2 [(2, .int (v + (-1))), (0, .ref (ad i)), (1, .ref (ad j))] rfl rfl (by decide) rfl ?_
      refine j_goto X (tgt := 7) d_Nt_restore_31 (by decide) ?_
      refine j_sub (L' := [(0, .ref (ad i)), (1, .ref (ad j)), (2, .int (v + (-1)))]) [1, 2, 0] rfl ?_
      exact ih S6 (v + (-1)) hp F hF
set_option maxHeartbeats 4000000 in
set_option maxRecDepth 100000 in
theorem c_Nt_restore (l : Launch) (D : va_G) (aC : Nat → ClassId) (ad : Nat → Nat) (n : Nat) (hn : 124 ≤ n) (c0 : Nat → va_E) (S : xS) (i : Nat) (j : Nat) (hi : kNt i) (hj : kSt j) (hp : p_Nt_restore S i j) : px_M l y_Nt_restore (Cond.code y_Nt_restore b_Nt_restore 3 none :: WS) rm_Nt_restore GG D CLS (TYS aC) [.ref (ad i), .ref (ad j)] ad (xe aC ad S c0) n none (xe aC ad (f_Nt_restore S i j).2 c0) := by
  obtain ⟨F, hF⟩ : ∃ F, F = f_Nt_restore S i j := ⟨_, rfl⟩
  rw [← hF]
  unfold f_Nt_restore at hF
  refine px_start GG_k (by decide) (Nat.le_of_ble_eq_true rfl) ?_
  intro p e s m args below meth cd X hr hk
  refine j_L (L' := [(0, .ref (ad i)), (1, .ref (ad j))]) rfl ?_
  unfold p_Nt_restore at hp
  refine j_aload_n X d_Nt_restore_0 0 rfl ?_
  refine j_get X fd_Nt_20_Nt i (k_ltN hi hn) (x_Nt hi) rfl d_Nt_restore_1 ?_
  refine j_iconst X (v := 1) d_Nt_restore_4 (by decide) ?_
  refine j_isub X d_Nt_restore_5 ?_
  refine j_istore_n X d_Nt_restore_6 [(2, .int ((gI S i 9) - 1)), (0, .ref (ad i)), (1, .ref (ad j))] (by decide) rfl ?_
  refine j_sub (L' := [(0, .ref (ad i)), (1, .ref (ad j)), (2, .int ((gI S i 9) - 1))]) [1, 2, 0] rfl ?_
  exact w_Nt_restore l D aC ad n hn c0 i j hi hj X hr hk 3 S ((gI S i 9) - 1) hp F hF
def g_Un_takeBack (j : Nat) : Nat → xS → Int32 → Int32 → Int32 × xS
  | 0, S, _, _ => ((0 : Int32), S)
  | k + 1, S, t, v => if t ≤ v then ((0 : Int32), S) else if (gI S 6 2) ≤ 0 then ((0 : Int32), S) else px_let ((f_Nt_restore S (iN (gI S 6 1).toNatClampNeg) j).2) (fun S5 : xS => px_let (sI S5 6 1 ((((gI S5 6 1) + 32) - 1) - (((gI S5 6 1) + 32) - 1) / 32 * 32)) (fun S7 : xS => px_let (sI S7 6 2 ((gI S7 6 2) - 1)) (fun S9 : xS => g_Un_takeBack j k S9 t (v + 1))))
def q_Un_takeBack (j : Nat) : Nat → xS → Int32 → Int32 → Prop
  | 0, _, _, _ => False
  | k + 1, S, t, v => (t ≤ v → True) ∧ (¬ t ≤ v → ((gI S 6 2) ≤ 0 → True) ∧ (¬ (gI S 6 2) ≤ 0 → (vp_in (gI S 6 1) 32) ∧ ((p_Nt_restore S (iN (gI S 6 1).toNatClampNeg) j) ∧ ((∀ S5 : xS, S5 = (f_Nt_restore S (iN (gI S 6 1).toNatClampNeg) j).2 → (∀ S7 : xS, S7 = sI S5 6 1 ((((gI S5 6 1) + 32) - 1) - (((gI S5 6 1) + 32) - 1) / 32 * 32) → (∀ S9 : xS, S9 = sI S7 6 2 ((gI S7 6 2) - 1) → q_Un_takeBack j k S9 t (v + 1))))))))
def f_Un_takeBack (S : xS) (t : Int32) (j : Nat) : Int32 × xS := g_Un_takeBack j 33 S t 0
def p_Un_takeBack (S : xS) (t : Int32) (j : Nat) : Prop := q_Un_takeBack j 33 S t 0
abbrev rm_Un_takeBack : Room := { frames := 2, cells := 0, slots := 0, locals := 43 }
set_option maxHeartbeats 4000000 in
set_option maxRecDepth 100000 in
theorem w_Un_takeBack (l : Launch) (D : va_G) (aC : Nat → ClassId) (ad : Nat → Nat) (n : Nat) (hn : 124 ≤ n) (c0 : Nat → va_E) (j : Nat) (hj : kSt j) {p : Program} {e : Env} {s : State} {m : MethodId} {args : Array Value} {below : List Frame} {meth : Method} {cd : Code} (X : px_X p s m args cd b_Un_takeBack 4 WS y_Un_takeBack.cls GG D CLS (TYS aC) (px_A ad n s.heap.size) ad n) (hr : meth.sig.returnType = none) (hk : meth.locks = false) : ∀ (k : Nat) (S : xS) (t : Int32) (v : Int32), q_Un_takeBack j k S t v → ∀ F, F = g_Un_takeBack j k S t v → px_J p l e rm_Un_takeBack s m args below meth cd D CLS (px_A ad n s.heap.size) ad n 4 0 0 (MQ below (px_Qc D CLS ad n s.heap.size none (xe aC ad F.2 c0)) args s 0 0 (px_A ad n s.heap.size)) (xe aC ad S c0) 2 [(0, .ref (ad 6)), (1, .int t), (2, .ref (ad j)), (3, .int v)] [] := by
  intro k
  induction k with
  | zero => intro S t v hp; exact hp.elim
  | succ k ih =>
    intro S t v hp F hF
    rw [q_Un_takeBack] at hp
    rw [g_Un_takeBack] at hF
    refine j_iload_n X d_Un_takeBack_2 3 rfl ?_
    refine j_iload_n X d_Un_takeBack_3 1 rfl ?_
    refine j_icmp_ge X (tgt := 59) d_Un_takeBack_4 (by decide) (fun h1 => ?_) (fun h1 => ?_)
    · replace hp := hp.1 h1
      replace hF := hF.trans (if_pos h1)
      exact j_vret X hr hk rfl (by rw [hF]) d_Un_takeBack_59
    · replace hp := hp.2 h1
      replace hF := hF.trans (if_neg h1)
      refine j_aload_n X d_Un_takeBack_7 0 rfl ?_
      refine j_get X fd_Un_22_Un 6 (by omega) x_Un rfl d_Un_takeBack_8 ?_
      refine j_if_le X (tgt := 59) d_Un_takeBack_11 (by decide) (fun h2 => ?_) (fun h2 => ?_)
      · replace hp := hp.1 h2
        replace hF := hF.trans (if_pos h2)
        exact j_vret X hr hk rfl (by rw [hF]) d_Un_takeBack_59
      · replace hp := hp.2 h2
        replace hF := hF.trans (if_neg h2)
        refine j_aload_n X d_Un_takeBack_14 0 rfl ?_
        refine j_get X fd_Un_11_Un 6 (by omega) x_Un rfl d_Un_takeBack_15 ?_
        refine j_aload_n X d_Un_takeBack_18 0 rfl ?_
        refine j_get X fd_Un_18_Un 6 (by omega) x_Un rfl d_Un_takeBack_19 ?_
        obtain ⟨o3, hp⟩ := hp
        refine x_aald_notes X hn o3 d_Un_takeBack_22 rfl ?_
        refine j_aload_n X d_Un_takeBack_23 2 rfl ?_
        obtain ⟨o4, hp⟩ := hp
        refine j_callV (st := []) X (iN (gI S 6 1).toNatClampNeg) (k_ltN (k_N _) hn) hY_Nt_restore (c_Nt_restore l D aC ad n hn c0 S (iN (gI S 6 1).toNatClampNeg) j (k_N _) hj o4) mw_485 hI_Nt_restore hS_Nt_restore (x_Nt (k_N _)) rfl rfl rfl (Nat.le_of_ble_eq_true rfl) d_Un_takeBack_24 rfl rfl ⟨by decide, by decide⟩ ⟨Nat.zero_le _, Nat.zero_le _⟩ (j_st (st' := []) rfl ?_)
        refine x_gen (fun S5 e6 => ?_)
        replace hp := hp S5 e6
        replace hF := hF.trans (px_let_eq e6)
        refine j_aload_n X d_Un_takeBack_27 0 rfl ?_
        refine j_aload_n X d_Un_takeBack_28 0 rfl ?_
        refine j_get X fd_Un_18_Un 6 (by omega) x_Un rfl d_Un_takeBack_29 ?_
        refine j_bipush X (v := 32) d_Un_takeBack_32 (by decide) ?_
        refine j_iadd X d_Un_takeBack_34 ?_
        refine j_iconst X (v := 1) d_Un_takeBack_35 (by decide) ?_
        refine j_isub X d_Un_takeBack_36 ?_
        refine j_bipush X (v := 32) d_Un_takeBack_37 (by decide) ?_
        refine j_irem X d_Un_takeBack_39 (by decide) ?_
        refine j_put X fp_Un_18_Un 6 (by omega) x_Un (Nat.le_of_ble_eq_true rfl) rfl rfl d_Un_takeBack_40 (j_w (x_putUn_1) ?_)
        refine x_gen (fun S7 e8 => ?_)
        replace hp := hp S7 e8
        replace hF := hF.trans (px_let_eq e8)
        refine j_aload_n X d_Un_takeBack_43 0 rfl ?_
        refine j_dup X d_Un_takeBack_44 rfl ?_
        refine j_get X fd_Un_22_Un 6 (by omega) x_Un rfl d_Un_takeBack_45 ?_
        refine j_iconst X (v := 1) d_Un_takeBack_48 (by decide) ?_
        refine j_isub X d_Un_takeBack_49 ?_
        refine j_put X fp_Un_22_Un 6 (by omega) x_Un (Nat.le_of_ble_eq_true rfl) rfl rfl d_Un_takeBack_50 (j_w (x_putUn_2) ?_)
        refine x_gen (fun S9 e10 => ?_)
        replace hp := hp S9 e10
        replace hF := hF.trans (px_let_eq e10)
        refine j_iinc X d_Un_takeBack_53 3 [(3, .int (v + 1)), (0, .ref (ad 6)), (1, .int t), (2, .ref (ad j))] rfl rfl (by decide) rfl ?_
        refine j_goto X (tgt := 2) d_Un_takeBack_56 (by decide) ?_
        refine j_sub (L' := [(0, .ref (ad 6)), (1, .int t), (2, .ref (ad j)), (3, .int (v + 1))]) [1, 2, 3, 0] rfl ?_
        exact ih S9 t (v + 1) hp F hF
set_option maxHeartbeats 4000000 in
set_option maxRecDepth 100000 in
theorem c_Un_takeBack (l : Launch) (D : va_G) (aC : Nat → ClassId) (ad : Nat → Nat) (n : Nat) (hn : 124 ≤ n) (c0 : Nat → va_E) (S : xS) (t : Int32) (j : Nat) (hj : kSt j) (hp : p_Un_takeBack S t j) : px_M l y_Un_takeBack (Cond.code y_Un_takeBack b_Un_takeBack 4 none :: WS) rm_Un_takeBack GG D CLS (TYS aC) [.ref (ad 6), .int t, .ref (ad j)] ad (xe aC ad S c0) n none (xe aC ad (f_Un_takeBack S t j).2 c0) := by
  obtain ⟨F, hF⟩ : ∃ F, F = f_Un_takeBack S t j := ⟨_, rfl⟩
  rw [← hF]
  unfold f_Un_takeBack at hF
  refine px_start GG_k (by decide) (Nat.le_of_ble_eq_true rfl) ?_
  intro p e s m args below meth cd X hr hk
  refine j_L (L' := [(0, .ref (ad 6)), (1, .int t), (2, .ref (ad j))]) rfl ?_
  unfold p_Un_takeBack at hp
  refine j_iconst X (v := 0) d_Un_takeBack_0 (by decide) ?_
  refine j_istore_n X d_Un_takeBack_1 [(3, .int 0), (0, .ref (ad 6)), (1, .int t), (2, .ref (ad j))] (by decide) rfl ?_
  refine j_sub (L' := [(0, .ref (ad 6)), (1, .int t), (2, .ref (ad j)), (3, .int 0)]) [1, 2, 3, 0] rfl ?_
  exact w_Un_takeBack l D aC ad n hn c0 j hj X hr hk 33 S t 0 hp F hF
def g_Cp_thinOut  : Nat → xS → Int32 → Int32 → Int32 × xS
  | 0, S, _, _ => ((0 : Int32), S)
  | k + 1, S, u, v => if (gI S 104 1) ≤ v then px_let (sI S 104 1 u) (fun S2 : xS => ((0 : Int32), S2)) else px_let (f_Cp_isMultiple S (gI S (iS (gK S v.toNatClampNeg)) 0)) (fun r6 : Int32 => if r6 = 0 then g_Cp_thinOut k S u (v + 1) else px_let (sK S v.toNatClampNeg (gK S u.toNatClampNeg)) (fun S10 : xS => px_let (sK S10 u.toNatClampNeg (gK S v.toNatClampNeg)) (fun S13 : xS => g_Cp_thinOut k S13 (u + 1) (v + 1))))
def q_Cp_thinOut  : Nat → xS → Int32 → Int32 → Prop
  | 0, _, _, _ => False
  | k + 1, S, u, v => ((gI S 104 1) ≤ v → (∀ S2 : xS, S2 = sI S 104 1 u → True)) ∧ (¬ (gI S 104 1) ≤ v → (vp_in v 8) ∧ ((p_Cp_isMultiple S (gI S (iS (gK S v.toNatClampNeg)) 0)) ∧ ((∀ r6 : Int32, r6 = (f_Cp_isMultiple S (gI S (iS (gK S v.toNatClampNeg)) 0)) → (r6 = 0 → q_Cp_thinOut k S u (v + 1)) ∧ (¬ r6 = 0 → (vp_in u 8) ∧ ((vp_in v 8) ∧ ((∀ S10 : xS, S10 = sK S v.toNatClampNeg (gK S u.toNatClampNeg) → (vp_in u 8) ∧ ((∀ S13 : xS, S13 = sK S10 u.toNatClampNeg (gK S v.toNatClampNeg) → q_Cp_thinOut k S13 (u + 1) (v + 1)))))))))))
def f_Cp_thinOut (S : xS)  : Int32 × xS := g_Cp_thinOut 9 S 0 0
def p_Cp_thinOut (S : xS)  : Prop := q_Cp_thinOut 9 S 0 0
abbrev rm_Cp_thinOut : Room := { frames := 1, cells := 0, slots := 0, locals := 21 }
set_option maxHeartbeats 4000000 in
set_option maxRecDepth 100000 in
theorem w_Cp_thinOut (l : Launch) (D : va_G) (aC : Nat → ClassId) (ad : Nat → Nat) (n : Nat) (hn : 124 ≤ n) (c0 : Nat → va_E)   {p : Program} {e : Env} {s : State} {m : MethodId} {args : Array Value} {below : List Frame} {meth : Method} {cd : Code} (X : px_X p s m args cd b_Cp_thinOut 4 WS y_Cp_thinOut.cls GG D CLS (TYS aC) (px_A ad n s.heap.size) ad n) (hr : meth.sig.returnType = none) (hk : meth.locks = false) : ∀ (k : Nat) (S : xS) (u : Int32) (v : Int32), q_Cp_thinOut  k S u v → ∀ F, F = g_Cp_thinOut  k S u v → px_J p l e rm_Cp_thinOut s m args below meth cd D CLS (px_A ad n s.heap.size) ad n 4 0 0 (MQ below (px_Qc D CLS ad n s.heap.size none (xe aC ad F.2 c0)) args s 0 0 (px_A ad n s.heap.size)) (xe aC ad S c0) 4 [(0, .ref (ad 104)), (1, .int u), (2, .int v)] [] := by
  intro k
  induction k with
  | zero => intro S u v hp; exact hp.elim
  | succ k ih =>
    intro S u v hp F hF
    rw [q_Cp_thinOut] at hp
    rw [g_Cp_thinOut] at hF
    refine j_iload_n X d_Cp_thinOut_4 2 rfl ?_
    refine j_aload_n X d_Cp_thinOut_5 0 rfl ?_
    refine j_get X fd_Cp_20_Cp 104 (by omega) x_Cp rfl d_Cp_thinOut_6 ?_
    refine j_icmp_ge X (tgt := 58) d_Cp_thinOut_9 (by decide) (fun h1 => ?_) (fun h1 => ?_)
    · replace hp := hp.1 h1
      replace hF := hF.trans (if_pos h1)
      refine j_aload_n X d_Cp_thinOut_58 0 rfl ?_
      refine j_iload_n X d_Cp_thinOut_59 1 rfl ?_
      refine j_put X fp_Cp_20_Cp 104 (by omega) x_Cp (Nat.le_of_ble_eq_true rfl) rfl rfl d_Cp_thinOut_60 (j_w (x_putCp_1) ?_)
      refine x_gen (fun S2 e3 => ?_)
      replace hp := hp S2 e3
      replace hF := hF.trans (px_let_eq e3)
      exact j_vret X hr hk rfl (by rw [hF]) d_Cp_thinOut_63
    · replace hp := hp.2 h1
      replace hF := hF.trans (if_neg h1)
      refine j_aload_n X d_Cp_thinOut_12 0 rfl ?_
      refine j_get X fd_Cp_11_Cp 104 (by omega) x_Cp rfl d_Cp_thinOut_13 ?_
      refine j_iload_n X d_Cp_thinOut_16 2 rfl ?_
      obtain ⟨o4, hp⟩ := hp
      refine x_aald_kept X hn o4 d_Cp_thinOut_17 rfl ?_
      refine j_astore_n X d_Cp_thinOut_18 [(3, .ref (ad (iS (gK S v.toNatClampNeg)))), (0, .ref (ad 104)), (1, .int u), (2, .int v)] (by decide) rfl ?_
      refine j_aload_n X d_Cp_thinOut_19 1 rfl ?_
      refine j_aload_n X d_Cp_thinOut_20 0 rfl ?_
      refine j_get X fd_Cp_27_St (iS (gK S v.toNatClampNeg)) (k_lt (k_S _) hn) (x_St (k_S _)) rfl d_Cp_thinOut_21 ?_
      obtain ⟨o5, hp⟩ := hp
      refine j_callV (st := []) X 104 (by omega) hY_Cp_isMultiple (c_Cp_isMultiple l D aC ad n hn c0 S (gI S (iS (gK S v.toNatClampNeg)) 0)  o5) mw_320 hI_Cp_isMultiple hS_Cp_isMultiple x_Cp rfl rfl rfl (Nat.le_of_ble_eq_true rfl) d_Cp_thinOut_24 rfl rfl ⟨by decide, by decide⟩ ⟨Nat.zero_le _, Nat.zero_le _⟩ (j_st (st' := [.int (f_Cp_isMultiple S (gI S (iS (gK S v.toNatClampNeg)) 0))]) rfl ?_)
      refine j_topi (fun r6 e7 => ?_)
      replace hp := hp r6 e7
      replace hF := hF.trans (px_let_eq e7)
      refine j_if_eq X (tgt := 52) d_Cp_thinOut_27 (by decide) (fun h8 => ?_) (fun h8 => ?_)
      · replace hp := hp.1 h8
        replace hF := hF.trans (if_pos h8)
        refine j_iinc X d_Cp_thinOut_52 3 [(2, .int (v + 1)), (3, .ref (ad (iS (gK S v.toNatClampNeg)))), (0, .ref (ad 104)), (1, .int u)] rfl rfl (by decide) rfl ?_
        refine j_goto X (tgt := 4) d_Cp_thinOut_55 (by decide) ?_
        refine j_sub (L' := [(0, .ref (ad 104)), (1, .int u), (2, .int (v + 1))]) [2, 3, 0] rfl ?_
        exact ih S u (v + 1) hp F hF
      · replace hp := hp.2 h8
        replace hF := hF.trans (if_neg h8)
        refine j_aload_n X d_Cp_thinOut_30 1 rfl ?_
        refine j_get X fd_Cp_11_Cp 104 (by omega) x_Cp rfl d_Cp_thinOut_31 ?_
        refine j_iload_n X d_Cp_thinOut_34 3 rfl ?_
        refine j_aload_n X d_Cp_thinOut_35 1 rfl ?_
        refine j_get X fd_Cp_11_Cp 104 (by omega) x_Cp rfl d_Cp_thinOut_36 ?_
        refine j_iload_n X d_Cp_thinOut_39 2 rfl ?_
        obtain ⟨o9, hp⟩ := hp
        refine x_aald_kept X hn o9 d_Cp_thinOut_40 rfl ?_
        obtain ⟨o12, hp⟩ := hp
        refine x_aast_kept X hn (k := (gK S u.toNatClampNeg)) o12 d_Cp_thinOut_41 rfl (x_St (k_S _)) rfl ?_
        refine x_gen (fun S10 e11 => ?_)
        replace hp := hp S10 e11
        replace hF := hF.trans (px_let_eq e11)
        refine j_aload_n X d_Cp_thinOut_42 1 rfl ?_
        refine j_get X fd_Cp_11_Cp 104 (by omega) x_Cp rfl d_Cp_thinOut_43 ?_
        refine j_iload_n X d_Cp_thinOut_46 2 rfl ?_
        refine j_aload_n X d_Cp_thinOut_47 0 rfl ?_
        obtain ⟨o15, hp⟩ := hp
        refine x_aast_kept X hn (k := (gK S v.toNatClampNeg)) o15 d_Cp_thinOut_48 rfl (x_St (k_S _)) rfl ?_
        refine x_gen (fun S13 e14 => ?_)
        replace hp := hp S13 e14
        replace hF := hF.trans (px_let_eq e14)
        refine j_iinc X d_Cp_thinOut_49 2 [(1, .int (u + 1)), (3, .ref (ad (iS (gK S v.toNatClampNeg)))), (0, .ref (ad 104)), (2, .int v)] rfl rfl (by decide) rfl ?_
        refine j_iinc X d_Cp_thinOut_52 3 [(2, .int (v + 1)), (1, .int (u + 1)), (3, .ref (ad (iS (gK S v.toNatClampNeg)))), (0, .ref (ad 104))] rfl rfl (by decide) rfl ?_
        refine j_goto X (tgt := 4) d_Cp_thinOut_55 (by decide) ?_
        refine j_sub (L' := [(0, .ref (ad 104)), (1, .int (u + 1)), (2, .int (v + 1))]) [3, 1, 0] rfl ?_
        exact ih S13 (u + 1) (v + 1) hp F hF
set_option maxHeartbeats 4000000 in
set_option maxRecDepth 100000 in
theorem c_Cp_thinOut (l : Launch) (D : va_G) (aC : Nat → ClassId) (ad : Nat → Nat) (n : Nat) (hn : 124 ≤ n) (c0 : Nat → va_E) (S : xS)   (hp : p_Cp_thinOut S ) : px_M l y_Cp_thinOut (Cond.code y_Cp_thinOut b_Cp_thinOut 4 none :: WS) rm_Cp_thinOut GG D CLS (TYS aC) [.ref (ad 104)] ad (xe aC ad S c0) n none (xe aC ad (f_Cp_thinOut S).2 c0) := by
  obtain ⟨F, hF⟩ : ∃ F, F = f_Cp_thinOut S := ⟨_, rfl⟩
  rw [← hF]
  unfold f_Cp_thinOut at hF
  refine px_start GG_k (by decide) (Nat.le_of_ble_eq_true rfl) ?_
  intro p e s m args below meth cd X hr hk
  refine j_L (L' := [(0, .ref (ad 104))]) rfl ?_
  unfold p_Cp_thinOut at hp
  refine j_iconst X (v := 0) d_Cp_thinOut_0 (by decide) ?_
  refine j_istore_n X d_Cp_thinOut_1 [(1, .int 0), (0, .ref (ad 104))] (by decide) rfl ?_
  refine j_iconst X (v := 0) d_Cp_thinOut_2 (by decide) ?_
  refine j_istore_n X d_Cp_thinOut_3 [(2, .int 0), (1, .int 0), (0, .ref (ad 104))] (by decide) rfl ?_
  refine j_sub (L' := [(0, .ref (ad 104)), (1, .int 0), (2, .int 0)]) [2, 1, 0] rfl ?_
  exact w_Cp_thinOut l D aC ad n hn c0  X hr hk 9 S 0 0 hp F hF
def g_Cp_latestUpTo  : Nat → xS → Int32 → Int32 → Int32 → Nat
  | 0, S, _, _, _ => 0
  | k + 1, S, t, u, v => if (gI S 104 1) ≤ v then (gK S u.toNatClampNeg) else if t < (gI S (iS (gK S v.toNatClampNeg)) 0) then g_Cp_latestUpTo k S t u (v + 1) else g_Cp_latestUpTo k S t v (v + 1)
def q_Cp_latestUpTo  : Nat → xS → Int32 → Int32 → Int32 → Prop
  | 0, _, _, _, _ => False
  | k + 1, S, t, u, v => ((gI S 104 1) ≤ v → (vp_in u 8) ∧ (True)) ∧ (¬ (gI S 104 1) ≤ v → (vp_in v 8) ∧ ((t < (gI S (iS (gK S v.toNatClampNeg)) 0) → q_Cp_latestUpTo k S t u (v + 1)) ∧ (¬ t < (gI S (iS (gK S v.toNatClampNeg)) 0) → q_Cp_latestUpTo k S t v (v + 1))))
def f_Cp_latestUpTo (S : xS) (t : Int32) : Nat := g_Cp_latestUpTo 9 S t 0 1
def p_Cp_latestUpTo (S : xS) (t : Int32) : Prop := q_Cp_latestUpTo 9 S t 0 1
abbrev rm_Cp_latestUpTo : Room := { frames := 0, cells := 0, slots := 0, locals := 0 }
set_option maxHeartbeats 4000000 in
set_option maxRecDepth 100000 in
theorem w_Cp_latestUpTo (l : Launch) (D : va_G) (aC : Nat → ClassId) (ad : Nat → Nat) (n : Nat) (hn : 124 ≤ n) (c0 : Nat → va_E)   {p : Program} {e : Env} {s : State} {m : MethodId} {args : Array Value} {below : List Frame} {meth : Method} {cd : Code} (X : px_X p s m args cd b_Cp_latestUpTo 4 WS y_Cp_latestUpTo.cls GG D CLS (TYS aC) (px_A ad n s.heap.size) ad n) (hr : meth.sig.returnType = (some (.object "ReplayMachine$State"))) (hk : meth.locks = false) : ∀ (k : Nat) (S : xS) (t : Int32) (u : Int32) (v : Int32), q_Cp_latestUpTo  k S t u v → ∀ F, F = g_Cp_latestUpTo  k S t u v → px_J p l e rm_Cp_latestUpTo s m args below meth cd D CLS (px_A ad n s.heap.size) ad n 4 0 0 (MQ below (px_Qc D CLS ad n s.heap.size (some (.ref (ad (iS (F))))) (xe aC ad S c0)) args s 0 0 (px_A ad n s.heap.size)) (xe aC ad S c0) 4 [(0, .ref (ad 104)), (1, .int t), (2, .int u), (3, .int v)] [] := by
  intro k
  induction k with
  | zero => intro S t u v hp; exact hp.elim
  | succ k ih =>
    intro S t u v hp F hF
    rw [q_Cp_latestUpTo] at hp
    rw [g_Cp_latestUpTo] at hF
    refine j_iload_n X d_Cp_latestUpTo_4 3 rfl ?_
    refine j_aload_n X d_Cp_latestUpTo_5 0 rfl ?_
    refine j_get X fd_Cp_20_Cp 104 (by omega) x_Cp rfl d_Cp_latestUpTo_6 ?_
    refine j_icmp_ge X (tgt := 33) d_Cp_latestUpTo_9 (by decide) (fun h1 => ?_) (fun h1 => ?_)
    · replace hp := hp.1 h1
      replace hF := hF.trans (if_pos h1)
      refine j_aload_n X d_Cp_latestUpTo_33 0 rfl ?_
      refine j_get X fd_Cp_11_Cp 104 (by omega) x_Cp rfl d_Cp_latestUpTo_34 ?_
      refine j_iload_n X d_Cp_latestUpTo_37 2 rfl ?_
      obtain ⟨o2, hp⟩ := hp
      refine x_aald_kept X hn o2 d_Cp_latestUpTo_38 rfl ?_
      exact j_aret X hr hk (by rw [hF]) rfl d_Cp_latestUpTo_39
    · replace hp := hp.2 h1
      replace hF := hF.trans (if_neg h1)
      refine j_aload_n X d_Cp_latestUpTo_12 0 rfl ?_
      refine j_get X fd_Cp_11_Cp 104 (by omega) x_Cp rfl d_Cp_latestUpTo_13 ?_
      refine j_iload_n X d_Cp_latestUpTo_16 3 rfl ?_
      obtain ⟨o3, hp⟩ := hp
      refine x_aald_kept X hn o3 d_Cp_latestUpTo_17 rfl ?_
      refine j_get X fd_Cp_27_St (iS (gK S v.toNatClampNeg)) (k_lt (k_S _) hn) (x_St (k_S _)) rfl d_Cp_latestUpTo_18 ?_
      refine j_iload_n X d_Cp_latestUpTo_21 1 rfl ?_
      refine j_icmp_gt X (tgt := 27) d_Cp_latestUpTo_22 (by decide) (fun h4 => ?_) (fun h4 => ?_)
      · replace hp := hp.1 h4
        replace hF := hF.trans (if_pos h4)
        refine j_iinc X d_Cp_latestUpTo_27 3 [(3, .int (v + 1)), (0, .ref (ad 104)), (1, .int t), (2, .int u)] rfl rfl (by decide) rfl ?_
        refine j_goto X (tgt := 4) d_Cp_latestUpTo_30 (by decide) ?_
        refine j_sub (L' := [(0, .ref (ad 104)), (1, .int t), (2, .int u), (3, .int (v + 1))]) [1, 2, 3, 0] rfl ?_
        exact ih S t u (v + 1) hp F hF
      · replace hp := hp.2 h4
        replace hF := hF.trans (if_neg h4)
        refine j_iload_n X d_Cp_latestUpTo_25 3 rfl ?_
        refine j_istore_n X d_Cp_latestUpTo_26 [(2, .int v), (0, .ref (ad 104)), (1, .int t), (3, .int v)] (by decide) rfl ?_
        refine j_iinc X d_Cp_latestUpTo_27 3 [(3, .int (v + 1)), (2, .int v), (0, .ref (ad 104)), (1, .int t)] rfl rfl (by decide) rfl ?_
        refine j_goto X (tgt := 4) d_Cp_latestUpTo_30 (by decide) ?_
        refine j_sub (L' := [(0, .ref (ad 104)), (1, .int t), (2, .int v), (3, .int (v + 1))]) [2, 3, 1, 0] rfl ?_
        exact ih S t v (v + 1) hp F hF
set_option maxHeartbeats 4000000 in
set_option maxRecDepth 100000 in
theorem c_Cp_latestUpTo (l : Launch) (D : va_G) (aC : Nat → ClassId) (ad : Nat → Nat) (n : Nat) (hn : 124 ≤ n) (c0 : Nat → va_E) (S : xS) (t : Int32)  (hp : p_Cp_latestUpTo S t) : px_M l y_Cp_latestUpTo (Cond.code y_Cp_latestUpTo b_Cp_latestUpTo 4 (some (.object "ReplayMachine$State")) :: WS) rm_Cp_latestUpTo GG D CLS (TYS aC) [.ref (ad 104), .int t] ad (xe aC ad S c0) n (some (.ref (ad (iS (f_Cp_latestUpTo S t))))) (xe aC ad S c0) := by
  obtain ⟨F, hF⟩ : ∃ F, F = f_Cp_latestUpTo S t := ⟨_, rfl⟩
  rw [← hF]
  unfold f_Cp_latestUpTo at hF
  refine px_start GG_k (by decide) (Nat.le_of_ble_eq_true rfl) ?_
  intro p e s m args below meth cd X hr hk
  refine j_L (L' := [(0, .ref (ad 104)), (1, .int t)]) rfl ?_
  unfold p_Cp_latestUpTo at hp
  refine j_iconst X (v := 0) d_Cp_latestUpTo_0 (by decide) ?_
  refine j_istore_n X d_Cp_latestUpTo_1 [(2, .int 0), (0, .ref (ad 104)), (1, .int t)] (by decide) rfl ?_
  refine j_iconst X (v := 1) d_Cp_latestUpTo_2 (by decide) ?_
  refine j_istore_n X d_Cp_latestUpTo_3 [(3, .int 1), (2, .int 0), (0, .ref (ad 104)), (1, .int t)] (by decide) rfl ?_
  refine j_sub (L' := [(0, .ref (ad 104)), (1, .int t), (2, .int 0), (3, .int 1)]) [2, 3, 1, 0] rfl ?_
  exact w_Cp_latestUpTo l D aC ad n hn c0  X hr hk 9 S t 0 1 hp F hF
def f_Cp_offer (S : xS) (j : Nat) : Int32 × xS := px_let (f_Cp_isMultiple S (gI S j 0)) (fun r2 : Int32 => if r2 = 0 then ((0 : Int32), S) else if (gI S 104 1) = 8 then px_let (sI S 104 2 ((gI S 104 2) * 2)) (fun S6 : xS => px_let ((f_Cp_thinOut S6 ).2) (fun S9 : xS => px_let (f_Cp_isMultiple S9 (gI S9 j 0)) (fun r12 : Int32 => if r12 = 0 then ((0 : Int32), S9) else if 8 ≤ (gI S9 104 1) then ((0 : Int32), S9) else px_let ((f_St_copyState S9 (iS (gK S9 (gI S9 104 1).toNatClampNeg)) j).2) (fun S17 : xS => px_let (sI S17 104 1 ((gI S17 104 1) + 1)) (fun S19 : xS => ((0 : Int32), S19)))))) else px_let (f_Cp_isMultiple S (gI S j 0)) (fun r22 : Int32 => if r22 = 0 then ((0 : Int32), S) else if 8 ≤ (gI S 104 1) then ((0 : Int32), S) else px_let ((f_St_copyState S (iS (gK S (gI S 104 1).toNatClampNeg)) j).2) (fun S27 : xS => px_let (sI S27 104 1 ((gI S27 104 1) + 1)) (fun S29 : xS => ((0 : Int32), S29)))))
def p_Cp_offer (S : xS) (j : Nat) : Prop := (p_Cp_isMultiple S (gI S j 0)) ∧ ((∀ r2 : Int32, r2 = (f_Cp_isMultiple S (gI S j 0)) → (r2 = 0 → True) ∧ (¬ r2 = 0 → ((gI S 104 1) = 8 → (∀ S6 : xS, S6 = sI S 104 2 ((gI S 104 2) * 2) → (p_Cp_thinOut S6) ∧ ((∀ S9 : xS, S9 = (f_Cp_thinOut S6 ).2 → (p_Cp_isMultiple S9 (gI S9 j 0)) ∧ ((∀ r12 : Int32, r12 = (f_Cp_isMultiple S9 (gI S9 j 0)) → (r12 = 0 → True) ∧ (¬ r12 = 0 → (8 ≤ (gI S9 104 1) → True) ∧ (¬ 8 ≤ (gI S9 104 1) → (vp_in (gI S9 104 1) 8) ∧ ((∀ S17 : xS, S17 = (f_St_copyState S9 (iS (gK S9 (gI S9 104 1).toNatClampNeg)) j).2 → (∀ S19 : xS, S19 = sI S17 104 1 ((gI S17 104 1) + 1) → True))))))))))) ∧ (¬ (gI S 104 1) = 8 → (p_Cp_isMultiple S (gI S j 0)) ∧ ((∀ r22 : Int32, r22 = (f_Cp_isMultiple S (gI S j 0)) → (r22 = 0 → True) ∧ (¬ r22 = 0 → (8 ≤ (gI S 104 1) → True) ∧ (¬ 8 ≤ (gI S 104 1) → (vp_in (gI S 104 1) 8) ∧ ((∀ S27 : xS, S27 = (f_St_copyState S (iS (gK S (gI S 104 1).toNatClampNeg)) j).2 → (∀ S29 : xS, S29 = sI S27 104 1 ((gI S27 104 1) + 1) → True)))))))))))
abbrev rm_Cp_offer : Room := { frames := 2, cells := 0, slots := 0, locals := 91 }
set_option maxHeartbeats 4000000 in
set_option maxRecDepth 100000 in
theorem c_Cp_offer (l : Launch) (D : va_G) (aC : Nat → ClassId) (ad : Nat → Nat) (n : Nat) (hn : 124 ≤ n) (c0 : Nat → va_E) (S : xS) (j : Nat) (hj : kSt j) (hp : p_Cp_offer S j) : px_M l y_Cp_offer (Cond.code y_Cp_offer b_Cp_offer 2 none :: WS) rm_Cp_offer GG D CLS (TYS aC) [.ref (ad 104), .ref (ad j)] ad (xe aC ad S c0) n none (xe aC ad (f_Cp_offer S j).2 c0) := by
  obtain ⟨F, hF⟩ : ∃ F, F = f_Cp_offer S j := ⟨_, rfl⟩
  rw [← hF]
  unfold f_Cp_offer at hF
  refine px_start GG_k (by decide) (Nat.le_of_ble_eq_true rfl) ?_
  intro p e s m args below meth cd X hr hk
  refine j_L (L' := [(0, .ref (ad 104)), (1, .ref (ad j))]) rfl ?_
  unfold p_Cp_offer at hp
  refine j_aload_n X d_Cp_offer_0 0 rfl ?_
  refine j_aload_n X d_Cp_offer_1 1 rfl ?_
  refine j_get X fd_Cp_27_St j (k_lt hj hn) (x_St hj) rfl d_Cp_offer_2 ?_
  obtain ⟨o1, hp⟩ := hp
  refine j_callV (st := []) X 104 (by omega) hY_Cp_isMultiple (c_Cp_isMultiple l D aC ad n hn c0 S (gI S j 0)  o1) mw_320 hI_Cp_isMultiple hS_Cp_isMultiple x_Cp rfl rfl rfl (Nat.le_of_ble_eq_true rfl) d_Cp_offer_5 rfl rfl ⟨by decide, by decide⟩ ⟨Nat.zero_le _, Nat.zero_le _⟩ (j_st (st' := [.int (f_Cp_isMultiple S (gI S j 0))]) rfl ?_)
  refine j_topi (fun r2 e3 => ?_)
  replace hp := hp r2 e3
  replace hF := hF.trans (px_let_eq e3)
  refine j_if_ne X (tgt := 12) d_Cp_offer_8 (by decide) (fun h4 => ?_) (fun h4 => ?_)
  · replace hp := hp.2 h4
    replace hF := hF.trans (if_neg h4)
    refine j_aload_n X d_Cp_offer_12 0 rfl ?_
    refine j_get X fd_Cp_20_Cp 104 (by omega) x_Cp rfl d_Cp_offer_13 ?_
    refine j_bipush X (v := 8) d_Cp_offer_16 (by decide) ?_
    refine j_icmp_ne X (tgt := 35) d_Cp_offer_18 (by decide) (fun h5 => ?_) (fun h5 => ?_)
    · replace hp := hp.2 h5
      replace hF := hF.trans (if_neg h5)
      refine j_aload_n X d_Cp_offer_35 0 rfl ?_
      refine j_aload_n X d_Cp_offer_36 1 rfl ?_
      refine j_get X fd_Cp_27_St j (k_lt hj hn) (x_St hj) rfl d_Cp_offer_37 ?_
      obtain ⟨o21, hp⟩ := hp
      refine j_callV (st := []) X 104 (by omega) hY_Cp_isMultiple (c_Cp_isMultiple l D aC ad n hn c0 S (gI S j 0)  o21) mw_320 hI_Cp_isMultiple hS_Cp_isMultiple x_Cp rfl rfl rfl (Nat.le_of_ble_eq_true rfl) d_Cp_offer_40 rfl rfl ⟨by decide, by decide⟩ ⟨Nat.zero_le _, Nat.zero_le _⟩ (j_st (st' := [.int (f_Cp_isMultiple S (gI S j 0))]) rfl ?_)
      refine j_topi (fun r22 e23 => ?_)
      replace hp := hp r22 e23
      replace hF := hF.trans (px_let_eq e23)
      refine j_if_eq X (tgt := 78) d_Cp_offer_43 (by decide) (fun h24 => ?_) (fun h24 => ?_)
      · replace hp := hp.1 h24
        replace hF := hF.trans (if_pos h24)
        exact j_vret X hr hk rfl (by rw [hF]) d_Cp_offer_78
      · replace hp := hp.2 h24
        replace hF := hF.trans (if_neg h24)
        refine j_aload_n X d_Cp_offer_46 0 rfl ?_
        refine j_get X fd_Cp_20_Cp 104 (by omega) x_Cp rfl d_Cp_offer_47 ?_
        refine j_bipush X (v := 8) d_Cp_offer_50 (by decide) ?_
        refine j_icmp_ge X (tgt := 78) d_Cp_offer_52 (by decide) (fun h25 => ?_) (fun h25 => ?_)
        · replace hp := hp.1 h25
          replace hF := hF.trans (if_pos h25)
          exact j_vret X hr hk rfl (by rw [hF]) d_Cp_offer_78
        · replace hp := hp.2 h25
          replace hF := hF.trans (if_neg h25)
          refine j_aload_n X d_Cp_offer_55 0 rfl ?_
          refine j_get X fd_Cp_11_Cp 104 (by omega) x_Cp rfl d_Cp_offer_56 ?_
          refine j_aload_n X d_Cp_offer_59 0 rfl ?_
          refine j_get X fd_Cp_20_Cp 104 (by omega) x_Cp rfl d_Cp_offer_60 ?_
          obtain ⟨o26, hp⟩ := hp
          refine x_aald_kept X hn o26 d_Cp_offer_63 rfl ?_
          refine j_aload_n X d_Cp_offer_64 1 rfl ?_
          refine j_callV (st := []) X (iS (gK S (gI S 104 1).toNatClampNeg)) (k_lt (k_S _) hn) hY_St_copyState (c_St_copyState l D aC ad n hn c0 S (iS (gK S (gI S 104 1).toNatClampNeg)) j (k_S _) hj ) mw_328 hI_St_copyState hS_St_copyState (x_St (k_S _)) rfl rfl rfl (Nat.le_of_ble_eq_true rfl) d_Cp_offer_65 rfl rfl ⟨by decide, by decide⟩ ⟨Nat.zero_le _, Nat.zero_le _⟩ (j_st (st' := []) rfl ?_)
          refine x_gen (fun S27 e28 => ?_)
          replace hp := hp S27 e28
          replace hF := hF.trans (px_let_eq e28)
          refine j_aload_n X d_Cp_offer_68 0 rfl ?_
          refine j_dup X d_Cp_offer_69 rfl ?_
          refine j_get X fd_Cp_20_Cp 104 (by omega) x_Cp rfl d_Cp_offer_70 ?_
          refine j_iconst X (v := 1) d_Cp_offer_73 (by decide) ?_
          refine j_iadd X d_Cp_offer_74 ?_
          refine j_put X fp_Cp_20_Cp 104 (by omega) x_Cp (Nat.le_of_ble_eq_true rfl) rfl rfl d_Cp_offer_75 (j_w (x_putCp_1) ?_)
          refine x_gen (fun S29 e30 => ?_)
          replace hp := hp S29 e30
          replace hF := hF.trans (px_let_eq e30)
          exact j_vret X hr hk rfl (by rw [hF]) d_Cp_offer_78
    · replace hp := hp.1 h5
      replace hF := hF.trans (if_pos h5)
      refine j_aload_n X d_Cp_offer_21 0 rfl ?_
      refine j_dup X d_Cp_offer_22 rfl ?_
      refine j_get X fd_Cp_24_Cp 104 (by omega) x_Cp rfl d_Cp_offer_23 ?_
      refine j_iconst X (v := 2) d_Cp_offer_26 (by decide) ?_
      refine j_imul X d_Cp_offer_27 ?_
      refine j_put X fp_Cp_24_Cp 104 (by omega) x_Cp (Nat.le_of_ble_eq_true rfl) rfl rfl d_Cp_offer_28 (j_w (x_putCp_2) ?_)
      refine x_gen (fun S6 e7 => ?_)
      replace hp := hp S6 e7
      replace hF := hF.trans (px_let_eq e7)
      refine j_aload_n X d_Cp_offer_31 0 rfl ?_
      obtain ⟨o8, hp⟩ := hp
      refine j_callV (st := []) X 104 (by omega) hY_Cp_thinOut (c_Cp_thinOut l D aC ad n hn c0 S6   o8) mw_324 hI_Cp_thinOut hS_Cp_thinOut x_Cp rfl rfl rfl (Nat.le_of_ble_eq_true rfl) d_Cp_offer_32 rfl rfl ⟨by decide, by decide⟩ ⟨Nat.zero_le _, Nat.zero_le _⟩ (j_st (st' := []) rfl ?_)
      refine x_gen (fun S9 e10 => ?_)
      replace hp := hp S9 e10
      replace hF := hF.trans (px_let_eq e10)
      refine j_aload_n X d_Cp_offer_35 0 rfl ?_
      refine j_aload_n X d_Cp_offer_36 1 rfl ?_
      refine j_get X fd_Cp_27_St j (k_lt hj hn) (x_St hj) rfl d_Cp_offer_37 ?_
      obtain ⟨o11, hp⟩ := hp
      refine j_callV (st := []) X 104 (by omega) hY_Cp_isMultiple (c_Cp_isMultiple l D aC ad n hn c0 S9 (gI S9 j 0)  o11) mw_320 hI_Cp_isMultiple hS_Cp_isMultiple x_Cp rfl rfl rfl (Nat.le_of_ble_eq_true rfl) d_Cp_offer_40 rfl rfl ⟨by decide, by decide⟩ ⟨Nat.zero_le _, Nat.zero_le _⟩ (j_st (st' := [.int (f_Cp_isMultiple S9 (gI S9 j 0))]) rfl ?_)
      refine j_topi (fun r12 e13 => ?_)
      replace hp := hp r12 e13
      replace hF := hF.trans (px_let_eq e13)
      refine j_if_eq X (tgt := 78) d_Cp_offer_43 (by decide) (fun h14 => ?_) (fun h14 => ?_)
      · replace hp := hp.1 h14
        replace hF := hF.trans (if_pos h14)
        exact j_vret X hr hk rfl (by rw [hF]) d_Cp_offer_78
      · replace hp := hp.2 h14
        replace hF := hF.trans (if_neg h14)
        refine j_aload_n X d_Cp_offer_46 0 rfl ?_
        refine j_get X fd_Cp_20_Cp 104 (by omega) x_Cp rfl d_Cp_offer_47 ?_
        refine j_bipush X (v := 8) d_Cp_offer_50 (by decide) ?_
        refine j_icmp_ge X (tgt := 78) d_Cp_offer_52 (by decide) (fun h15 => ?_) (fun h15 => ?_)
        · replace hp := hp.1 h15
          replace hF := hF.trans (if_pos h15)
          exact j_vret X hr hk rfl (by rw [hF]) d_Cp_offer_78
        · replace hp := hp.2 h15
          replace hF := hF.trans (if_neg h15)
          refine j_aload_n X d_Cp_offer_55 0 rfl ?_
          refine j_get X fd_Cp_11_Cp 104 (by omega) x_Cp rfl d_Cp_offer_56 ?_
          refine j_aload_n X d_Cp_offer_59 0 rfl ?_
          refine j_get X fd_Cp_20_Cp 104 (by omega) x_Cp rfl d_Cp_offer_60 ?_
          obtain ⟨o16, hp⟩ := hp
          refine x_aald_kept X hn o16 d_Cp_offer_63 rfl ?_
          refine j_aload_n X d_Cp_offer_64 1 rfl ?_
          refine j_callV (st := []) X (iS (gK S9 (gI S9 104 1).toNatClampNeg)) (k_lt (k_S _) hn) hY_St_copyState (c_St_copyState l D aC ad n hn c0 S9 (iS (gK S9 (gI S9 104 1).toNatClampNeg)) j (k_S _) hj ) mw_328 hI_St_copyState hS_St_copyState (x_St (k_S _)) rfl rfl rfl (Nat.le_of_ble_eq_true rfl) d_Cp_offer_65 rfl rfl ⟨by decide, by decide⟩ ⟨Nat.zero_le _, Nat.zero_le _⟩ (j_st (st' := []) rfl ?_)
          refine x_gen (fun S17 e18 => ?_)
          replace hp := hp S17 e18
          replace hF := hF.trans (px_let_eq e18)
          refine j_aload_n X d_Cp_offer_68 0 rfl ?_
          refine j_dup X d_Cp_offer_69 rfl ?_
          refine j_get X fd_Cp_20_Cp 104 (by omega) x_Cp rfl d_Cp_offer_70 ?_
          refine j_iconst X (v := 1) d_Cp_offer_73 (by decide) ?_
          refine j_iadd X d_Cp_offer_74 ?_
          refine j_put X fp_Cp_20_Cp 104 (by omega) x_Cp (Nat.le_of_ble_eq_true rfl) rfl rfl d_Cp_offer_75 (j_w (x_putCp_1) ?_)
          refine x_gen (fun S19 e20 => ?_)
          replace hp := hp S19 e20
          replace hF := hF.trans (px_let_eq e20)
          exact j_vret X hr hk rfl (by rw [hF]) d_Cp_offer_78
  · replace hp := hp.1 h4
    replace hF := hF.trans (if_pos h4)
    exact j_vret X hr hk rfl (by rw [hF]) d_Cp_offer_11
def f_RM_advance (S : xS)  : Int32 × xS := px_let (f_Ma_obstacle S) (fun r2 : Int32 => if r2 = 0 then if (gI S 4 0) < 3000 then px_let ((f_Ma_perform S ).2) (fun S7 : xS => if (gI S7 4 0) ≤ (gI S7 0 4) then (0, S7) else px_let (sI S7 0 4 (gI S7 4 0)) (fun S10 : xS => px_let ((f_Cp_offer S10 4).2) (fun S13 : xS => (0, S13)))) else (8, S) else (r2, S))
def p_RM_advance (S : xS)  : Prop := (p_Ma_obstacle S) ∧ ((∀ r2 : Int32, r2 = (f_Ma_obstacle S) → (r2 = 0 → ((gI S 4 0) < 3000 → (p_Ma_perform S) ∧ ((∀ S7 : xS, S7 = (f_Ma_perform S ).2 → ((gI S7 4 0) ≤ (gI S7 0 4) → True) ∧ (¬ (gI S7 4 0) ≤ (gI S7 0 4) → (∀ S10 : xS, S10 = sI S7 0 4 (gI S7 4 0) → (p_Cp_offer S10 4) ∧ ((∀ S13 : xS, S13 = (f_Cp_offer S10 4).2 → True))))))) ∧ (¬ (gI S 4 0) < 3000 → True)) ∧ (¬ r2 = 0 → True)))
abbrev rm_RM_advance : Room := { frames := 5, cells := 0, slots := 0, locals := 112 }
set_option maxHeartbeats 4000000 in
set_option maxRecDepth 100000 in
theorem c_RM_advance (l : Launch) (D : va_G) (aC : Nat → ClassId) (ad : Nat → Nat) (n : Nat) (hn : 124 ≤ n) (c0 : Nat → va_E) (S : xS)   (hp : p_RM_advance S ) : px_M l y_RM_advance (Cond.code y_RM_advance b_RM_advance 2 (some .int) :: WS) rm_RM_advance GG D CLS (TYS aC) [.ref (ad 0)] ad (xe aC ad S c0) n (some (.int (f_RM_advance S).1)) (xe aC ad (f_RM_advance S).2 c0) := by
  obtain ⟨F, hF⟩ : ∃ F, F = f_RM_advance S := ⟨_, rfl⟩
  rw [← hF]
  unfold f_RM_advance at hF
  refine px_start GG_k (by decide) (Nat.le_of_ble_eq_true rfl) ?_
  intro p e s m args below meth cd X hr hk
  refine j_L (L' := [(0, .ref (ad 0))]) rfl ?_
  unfold p_RM_advance at hp
  refine j_aload_n X d_RM_advance_0 0 rfl ?_
  refine j_get X fd_RM_14_RM 0 (by omega) x_RM rfl d_RM_advance_1 ?_
  obtain ⟨o1, hp⟩ := hp
  refine j_callV (st := []) X 1 (by omega) hY_Ma_obstacle (c_Ma_obstacle l D aC ad n hn c0 S   o1) mw_215 hI_Ma_obstacle hS_Ma_obstacle x_Ma rfl rfl rfl (Nat.le_of_ble_eq_true rfl) d_RM_advance_4 rfl rfl ⟨by decide, by decide⟩ ⟨Nat.zero_le _, Nat.zero_le _⟩ (j_st (st' := [.int (f_Ma_obstacle S)]) rfl ?_)
  refine j_topi (fun r2 e3 => ?_)
  replace hp := hp r2 e3
  replace hF := hF.trans (px_let_eq e3)
  refine j_istore_n X d_RM_advance_7 [(1, .int r2), (0, .ref (ad 0))] (by decide) rfl ?_
  refine j_iload_n X d_RM_advance_8 0 rfl ?_
  refine j_if_eq X (tgt := 14) d_RM_advance_9 (by decide) (fun h4 => ?_) (fun h4 => ?_)
  · replace hp := hp.1 h4
    replace hF := hF.trans (if_pos h4)
    refine j_aload_n X d_RM_advance_14 1 rfl ?_
    refine j_get X fd_RM_14_RM 0 (by omega) x_RM rfl d_RM_advance_15 ?_
    refine j_get X fd_RM_79_Ma 1 (by omega) x_Ma rfl d_RM_advance_18 ?_
    refine j_get X fd_RM_83_St 4 (k_lt k_4 hn) (x_St k_4) rfl d_RM_advance_21 ?_
    refine j_sipush X (v := 3000) d_RM_advance_24 (by decide) ?_
    refine j_icmp_lt X (tgt := 33) d_RM_advance_27 (by decide) (fun h5 => ?_) (fun h5 => ?_)
    · replace hp := hp.1 h5
      replace hF := hF.trans (if_pos h5)
      refine j_aload_n X d_RM_advance_33 1 rfl ?_
      refine j_get X fd_RM_14_RM 0 (by omega) x_RM rfl d_RM_advance_34 ?_
      obtain ⟨o6, hp⟩ := hp
      refine j_callV (st := []) X 1 (by omega) hY_Ma_perform (c_Ma_perform l D aC ad n hn c0 S   o6) mw_243 hI_Ma_perform hS_Ma_perform x_Ma rfl rfl rfl (Nat.le_of_ble_eq_true rfl) d_RM_advance_37 rfl rfl ⟨by decide, by decide⟩ ⟨Nat.zero_le _, Nat.zero_le _⟩ (j_st (st' := []) rfl ?_)
      refine x_gen (fun S7 e8 => ?_)
      replace hp := hp S7 e8
      replace hF := hF.trans (px_let_eq e8)
      refine j_aload_n X d_RM_advance_40 1 rfl ?_
      refine j_get X fd_RM_14_RM 0 (by omega) x_RM rfl d_RM_advance_41 ?_
      refine j_get X fd_RM_79_Ma 1 (by omega) x_Ma rfl d_RM_advance_44 ?_
      refine j_get X fd_RM_83_St 4 (k_lt k_4 hn) (x_St k_4) rfl d_RM_advance_47 ?_
      refine j_aload_n X d_RM_advance_50 1 rfl ?_
      refine j_get X fd_RM_43_RM 0 (by omega) x_RM rfl d_RM_advance_51 ?_
      refine j_icmp_le X (tgt := 85) d_RM_advance_54 (by decide) (fun h9 => ?_) (fun h9 => ?_)
      · replace hp := hp.1 h9
        replace hF := hF.trans (if_pos h9)
        refine j_iconst X (v := 0) d_RM_advance_85 (by decide) ?_
        exact j_iret X hr hk (by rw [hF]) (by rw [hF]) d_RM_advance_86
      · replace hp := hp.2 h9
        replace hF := hF.trans (if_neg h9)
        refine j_aload_n X d_RM_advance_57 1 rfl ?_
        refine j_aload_n X d_RM_advance_58 1 rfl ?_
        refine j_get X fd_RM_14_RM 0 (by omega) x_RM rfl d_RM_advance_59 ?_
        refine j_get X fd_RM_79_Ma 1 (by omega) x_Ma rfl d_RM_advance_62 ?_
        refine j_get X fd_RM_83_St 4 (k_lt k_4 hn) (x_St k_4) rfl d_RM_advance_65 ?_
        refine j_put X fp_RM_43_RM 0 (by omega) x_RM (Nat.le_of_ble_eq_true rfl) rfl rfl d_RM_advance_68 (j_w (x_putRM_4) ?_)
        refine x_gen (fun S10 e11 => ?_)
        replace hp := hp S10 e11
        replace hF := hF.trans (px_let_eq e11)
        refine j_aload_n X d_RM_advance_71 1 rfl ?_
        refine j_get X fd_RM_21_RM 0 (by omega) x_RM rfl d_RM_advance_72 ?_
        refine j_aload_n X d_RM_advance_75 1 rfl ?_
        refine j_get X fd_RM_14_RM 0 (by omega) x_RM rfl d_RM_advance_76 ?_
        refine j_get X fd_RM_79_Ma 1 (by omega) x_Ma rfl d_RM_advance_79 ?_
        obtain ⟨o12, hp⟩ := hp
        refine j_callV (st := []) X 104 (by omega) hY_Cp_offer (c_Cp_offer l D aC ad n hn c0 S10 4 k_4 o12) mw_316 hI_Cp_offer hS_Cp_offer x_Cp rfl rfl rfl (Nat.le_of_ble_eq_true rfl) d_RM_advance_82 rfl rfl ⟨by decide, by decide⟩ ⟨Nat.zero_le _, Nat.zero_le _⟩ (j_st (st' := []) rfl ?_)
        refine x_gen (fun S13 e14 => ?_)
        replace hp := hp S13 e14
        replace hF := hF.trans (px_let_eq e14)
        refine j_iconst X (v := 0) d_RM_advance_85 (by decide) ?_
        exact j_iret X hr hk (by rw [hF]) (by rw [hF]) d_RM_advance_86
    · replace hp := hp.2 h5
      replace hF := hF.trans (if_neg h5)
      refine j_bipush X (v := 8) d_RM_advance_30 (by decide) ?_
      exact j_iret X hr hk (by rw [hF]) (by rw [hF]) d_RM_advance_32
  · replace hp := hp.2 h4
    replace hF := hF.trans (if_neg h4)
    refine j_iload_n X d_RM_advance_12 0 rfl ?_
    exact j_iret X hr hk (by rw [hF]) (by rw [hF]) d_RM_advance_13
def f_RM_step (S : xS)  : Int32 × xS := px_let (sI S 0 5 0) (fun S1 : xS => px_let ((f_RM_advance S1 ).2) (fun S4 : xS => px_let ((f_RM_advance S1).1) (fun r6 : Int32 => (r6, S4))))
def p_RM_step (S : xS)  : Prop := (∀ S1 : xS, S1 = sI S 0 5 0 → (p_RM_advance S1) ∧ ((∀ S4 : xS, S4 = (f_RM_advance S1 ).2 → (∀ r6 : Int32, r6 = ((f_RM_advance S1).1) → True))))
abbrev rm_RM_step : Room := { frames := 6, cells := 0, slots := 0, locals := 133 }
set_option maxHeartbeats 4000000 in
set_option maxRecDepth 100000 in
theorem c_RM_step (l : Launch) (D : va_G) (aC : Nat → ClassId) (ad : Nat → Nat) (n : Nat) (hn : 124 ≤ n) (c0 : Nat → va_E) (S : xS)   (hp : p_RM_step S ) : px_M l y_RM_step (Cond.code y_RM_step b_RM_step 1 (some .int) :: WS) rm_RM_step GG D CLS (TYS aC) [.ref (ad 0)] ad (xe aC ad S c0) n (some (.int (f_RM_step S).1)) (xe aC ad (f_RM_step S).2 c0) := by
  obtain ⟨F, hF⟩ : ∃ F, F = f_RM_step S := ⟨_, rfl⟩
  rw [← hF]
  unfold f_RM_step at hF
  refine px_start GG_k (by decide) (Nat.le_of_ble_eq_true rfl) ?_
  intro p e s m args below meth cd X hr hk
  refine j_L (L' := [(0, .ref (ad 0))]) rfl ?_
  unfold p_RM_step at hp
  refine j_aload_n X d_RM_step_0 0 rfl ?_
  refine j_iconst X (v := 0) d_RM_step_1 (by decide) ?_
  refine j_put X fp_RM_60_RM 0 (by omega) x_RM (Nat.le_of_ble_eq_true rfl) rfl rfl d_RM_step_2 (j_w (x_putRM_5) ?_)
  refine x_gen (fun S1 e2 => ?_)
  replace hp := hp S1 e2
  replace hF := hF.trans (px_let_eq e2)
  refine j_aload_n X d_RM_step_5 0 rfl ?_
  obtain ⟨o3, hp⟩ := hp
  refine j_callV (st := []) X 0 (by omega) hY_RM_advance (c_RM_advance l D aC ad n hn c0 S1   o3) mw_211 hI_RM_advance hS_RM_advance x_RM rfl rfl rfl (Nat.le_of_ble_eq_true rfl) d_RM_step_6 rfl rfl ⟨by decide, by decide⟩ ⟨Nat.zero_le _, Nat.zero_le _⟩ (j_st (st' := [.int ((f_RM_advance S1).1)]) rfl ?_)
  refine x_gen (fun S4 e5 => ?_)
  replace hp := hp S4 e5
  replace hF := hF.trans (px_let_eq e5)
  refine j_topi (fun r6 e7 => ?_)
  replace hp := hp r6 e7
  replace hF := hF.trans (px_let_eq e7)
  exact j_iret X hr hk (by rw [hF]) (by rw [hF]) d_RM_step_9
