theorem ff_Un_11 : px_Ff WS CLS "ReplayMachine$Undo" 11 4 0 (.array (.object "ReplayMachine$Note")) := ⟨"ReplayMachine$Undo", "ReplayMachine$Undo", T_Un, 3, t_Un, rfl, in_Un, by decide, mw_123, Or.inl rfl, ty_Un, nm_Un, rfl, rfl, by decide +kernel⟩
theorem ff_Cp_11 : px_Ff WS CLS "ReplayMachine$Checkpoints" 11 0 0 (.array (.object "ReplayMachine$State")) := ⟨"ReplayMachine$Checkpoints", "ReplayMachine$Checkpoints", T_Cp, 3, t_Cp, rfl, in_Cp, by decide, mw_166, Or.inl rfl, ty_Cp, nm_Cp, rfl, rfl, by decide +kernel⟩
section CW
variable {p : Program} {l : Launch} {e : Env} {R : Room} {s : State} {m : MethodId} {args : Array Value} {below : List Frame} {meth : Method} {cd : Code} {Q : State → Prop} {cells slots : Nat}
variable {D : va_G} {A : Nat → Prop} {ad : Nat → Nat} {n nL : Nat} {c : Nat → va_E} {pc : Nat} {L : List (Nat × Value)} {st : List Value} {cl : List vw_C}
theorem j_widen {k k' : Nat} (h1 : cells ≤ k) (h2 : slots ≤ k') (kk : px_J p l e R s m args below meth cd D cl A ad n nL k k' Q c pc L st) : px_J p l e R s m args below meth cd D cl A ad n nL cells slots Q c pc L st :=
  fun ls H locs g1 g2 g3 => W.widen h1 h2 (kk ls H locs g1 g2 g3)
theorem j_n {n' : Nat} (h : n = n') (kk : px_J p l e R s m args below meth cd D cl A ad n' nL cells slots Q c pc L st) : px_J p l e R s m args below meth cd D cl A ad n nL cells slots Q c pc L st := h ▸ kk
end CW
abbrev bUn : va_E := .inr (4, [.null, .int 0, .int 0])
def cU (aC : Nat → ClassId) (c c0 : Nat → va_E) (x : Int32) (i : Nat) (ad : Nat → Nat) : Nat → va_E := fun j => if j < 6 then c j else if j = 7 then .inl (aC 2, 32, .inr (.inr (.inr (.inr (fun q => if q < i then some (ad (iN q)) else none))))) else xe aC ad (S0 x) c0 j
def cU1 (aC : Nat → ClassId) (c c0 : Nat → va_E) (x : Int32) (ad : Nat → Nat) : Nat → va_E := fun j => if j < 6 then c j else xe aC ad (S0 x) c0 j
theorem cU_lo {aC : Nat → ClassId} {c c0 : Nat → va_E} {x : Int32} {i j : Nat} {ad : Nat → Nat} (h : j < 6) : cU aC c c0 x i ad j = c j := by unfold cU; rw [if_pos h]
theorem cU_7 {aC : Nat → ClassId} {c c0 : Nat → va_E} {x : Int32} {i : Nat} {ad : Nat → Nat} : cU aC c c0 x i ad 7 = .inl (aC 2, 32, .inr (.inr (.inr (.inr (fun q => if q < i then some (ad (iN q)) else none))))) := by unfold cU; rw [if_neg (by decide), if_pos rfl]
theorem cU_hi {aC : Nat → ClassId} {c c0 : Nat → va_E} {x : Int32} {i j : Nat} {ad : Nat → Nat} (h : 6 ≤ j) (h7 : j ≠ 7) : cU aC c c0 x i ad j = xe aC ad (S0 x) c0 j := by unfold cU; rw [if_neg (by omega), if_neg h7]
abbrev rm_Un_init : Room := { frames := 3, cells := 97, slots := 480, locals := 70 }
set_option maxHeartbeats 4000000 in
set_option maxRecDepth 100000 in
theorem w_Un_init (l : Launch) (D : va_G) (aC : Nat → ClassId) (ad0 : Nat → Nat) (c c0 : Nat → va_E) (x : Int32) {p : Program} {e : Env} {s : State} {m : MethodId} {args : Array Value} {below : List Frame} {meth : Method} {cd : Code} (hr : meth.sig.returnType = none) (hk : meth.locks = false) : ∀ (k i : Nat) (ad : Nat → Nat), i + k = 32 → (∀ q, q < 7 → ad q = ad0 q) → px_X p s m args cd b_Un_init 2 WS y_Un_init.cls GC D CLS (TYS aC) (px_A ad0 7 s.heap.size) ad (8 + 3 * i) →
    px_J p l e rm_Un_init s m args below meth cd D CLS (px_A ad0 7 s.heap.size) ad (8 + 3 * i) 2 (1 + 3 * i) (32 + 14 * i) (MQ below (px_Qn D CLS ad0 7 s.heap.size 97 (cU1 aC c c0 x)) args s 97 480 (px_A ad0 7 s.heap.size)) (cU aC c c0 x i ad) 15 [(0, .ref (ad 6)), (1, .int (nI i))] [] := by
  intro k
  induction k with
  | zero =>
    intro i ad hik ha X
    have hi : i = 32 := by omega
    subst hi
    refine j_iload_n X d_Un_init_15 1 rfl ?_
    refine j_bipush X (v := 32) d_Un_init_16 (by decide) ?_
    refine j_icmp_ge X (tgt := 40) d_Un_init_18 (by decide) (fun _ => ?_) (fun h => absurd (by decide) h)
    refine j_vretN X hr hk rfl ha (fun j hj => ?_) (by decide) (by decide) d_Un_init_40
    by_cases h6 : j < 6
    · rw [cU_lo h6]; unfold cU1; rw [if_pos h6]
    · by_cases h7 : j = 7
      · subst h7
        rw [cU_7]
        exact (x_notes (ad := ad) (S := S0 x) (c0 := c0)).symm
      · rw [cU_hi (by omega) h7]; unfold cU1; rw [if_neg h6]
  | succ k ih =>
    intro i ad hik ha X
    have hi : i < 32 := by omega
    refine j_iload_n X d_Un_init_15 1 rfl ?_
    refine j_bipush X (v := 32) d_Un_init_16 (by decide) ?_
    refine j_icmp_ge X (tgt := 40) d_Un_init_18 (by decide) (fun h => absurd h (nI_ge (a := i) (b := 32) hi (by decide))) (fun _ => ?_)
    refine j_aload_n X d_Un_init_21 0 rfl ?_
    refine j_get X fd_Un_11_Un 6 (by omega) ((cU_hi (by decide) (by decide)).trans x_Un) rfl d_Un_init_22 ?_
    refine j_iload_n X d_Un_init_25 1 rfl ?_
    refine j_new (ci := 2) (fs := [.int 0, .int 0, .int 0, .int 0, .int 0, .int 0, .int 0, .null, .null, .int 0]) X t_Nt in_Nt ty_Nt mw_99 mw_101 mw_6 rfl (by decide +kernel) (by show 1 + 3 * i + 1 ≤ 97; omega) (by show 32 + 14 * i + 10 ≤ 480; omega) d_Un_init_26 (fun ad1 ha1 X1 => ?_)
    refine j_dup X1 d_Un_init_29 rfl ?_
    refine j_init (st := [.ref (ad1 (8 + 3 * i)), .int (nI i), .ref (ad 7)]) X1 hY_Nt_init (c_Nt_init l D aC ad1 (8 + 3 * i) _ up_self) mw_102 hI_Nt_init rfl rfl rfl (Nat.le_of_ble_eq_true rfl) d_Un_init_30 rfl rfl ⟨by decide, by decide⟩ ⟨by show 1 + 3 * i + 1 + 2 ≤ 97; omega, by show 32 + 14 * i + 10 + 4 ≤ 480; omega⟩ (fun ad2 ha2 X2 => ?_)
    have hn : 8 + 3 * i + 1 + 2 = 8 + 3 * (i + 1) := by omega
    have hq : ∀ q, q < 8 + 3 * i → ad2 q = ad q := fun q h => (ha2 q (by omega)).trans (ha1 q h)
    refine j_n hn ?_
    rw [hn] at X2
    refine j_widen (k := 1 + 3 * (i + 1)) (k' := 32 + 14 * (i + 1)) (by omega) (by omega) ?_
    refine j_st (st' := [.ref (ad2 (8 + 3 * i)), .int (nI i), .ref (ad2 7)]) (by rw [ha2 (8 + 3 * i) (by omega), hq 7 (by omega)]) ?_
    refine j_aast X2 7 2 (8 + 3 * i) 2 (by omega) (by omega) (by rw [up_ne (by omega), up_ne (by omega), up_ne (by omega), up_ne (by omega), cU_7]) rfl (by rw [up_ne (by omega), up_ne (by omega), up_self]) rfl (vp_in_nI hi (by decide)) d_Un_init_33 ?_
    refine j_iinc X2 d_Un_init_34 1 [(1, .int (nI i + 1)), (0, .ref (ad 6))] rfl rfl (by decide) rfl ?_
    refine j_goto X2 (tgt := 15) d_Un_init_37 (by decide) ?_
    refine j_sub (L' := [(0, .ref (ad 6)), (1, .int (nI i + 1))]) [1, 0] rfl ?_
    refine j_L (L' := [(0, .ref (ad2 6)), (1, .int (nI (i + 1)))]) (by rw [hq 6 (by omega), nI_succ]) ?_
    refine j_cong (c' := cU aC c c0 x (i + 1) ad2) (fun j hj => ?_) (ih (i + 1) ad2 (by omega) (fun q h => (hq q (by omega)).trans (ha q h)) X2)
    rw [nI_clamp (by omega)]
    by_cases h7 : j = 7
    · subst h7
      rw [up_self, cU_7]
      have : va_up (fun q => if q < i then some (ad (iN q)) else none) i (some (ad2 (8 + 3 * i))) = fun q => if q < i + 1 then some (ad2 (iN q)) else none := by
        funext q
        by_cases hqi : q = i
        · subst hqi
          have e1 : iN q = 8 + 3 * q := by unfold iN; omega
          simp [va_up, e1]
        · by_cases hlt : q < i
          · have e1 : iN q < 8 + 3 * i := by unfold iN; omega
            simp [va_up, hqi, hlt, show q < i + 1 by omega, hq _ e1]
          · simp [va_up, hqi, hlt, show ¬ q < i + 1 by omega]
      rw [this]
    · rw [up_ne h7]
      by_cases e2 : j = 8 + 3 * i + 2
      · subst e2
        have kn : kNt (8 + 3 * i) := by unfold kNt; omega
        rw [up_self, cU_hi (by omega) (by omega), x_wd kn]
        rfl
      · rw [up_ne e2]
        by_cases e1 : j = 8 + 3 * i + 1
        · subst e1
          have kn : kNt (8 + 3 * i) := by unfold kNt; omega
          rw [up_self, cU_hi (by omega) (by omega), x_pl kn]
          rfl
        · rw [up_ne e1]
          by_cases e0 : j = 8 + 3 * i
          · subst e0
            have kn : kNt (8 + 3 * i) := by unfold kNt; omega
            rw [up_self, cU_hi (by omega) (by omega), x_Nt kn]
            have g : ∀ q, gI (S0 x) (8 + 3 * i) q = 0 := fun q => by
              simp only [gI, S0]
              rw [if_neg (by omega), if_neg (by omega), if_neg (by omega), if_neg (by omega)]
            simp only [g]
          · rw [up_ne e0, up_ne e0]
            by_cases h6 : j < 6
            · rw [cU_lo h6, cU_lo h6]
            · rw [cU_hi (by omega) h7, cU_hi (by omega) h7]
              refine xe_ad (8 + 3 * i) (by omega) hq (by omega) (by omega) (by omega) (by omega) (by omega) (fun h => by unfold kSt at h; omega) (fun h => by unfold kNt at h; omega) (by omega) (by omega)
set_option maxHeartbeats 4000000 in
set_option maxRecDepth 100000 in
theorem c_Un_init (l : Launch) (D : va_G) (aC : Nat → ClassId) (ad : Nat → Nat) (c c0 : Nat → va_E) (x : Int32) (h0 : c 6 = bUn) : px_N l y_Un_init (Cond.code y_Un_init b_Un_init 2 none :: WS) rm_Un_init GC D CLS (TYS aC) [.ref (ad 6)] ad c 7 97 97 480 (cU1 aC c c0 x) := by
  refine px_startN GC_k (by decide) (Nat.le_of_ble_eq_true rfl) rfl ?_
  intro p e s m args below meth cd X hr hk hmn
  refine j_L (L' := [(0, .ref (ad 6))]) rfl ?_
  refine j_aload_n X d_Un_init_0 0 rfl ?_
  refine j_objInit X mw_98 mw_23 mw_24 d_Un_init_1 (by decide) (Nat.le_of_ble_eq_true rfl) ?_
  refine j_aload_n X d_Un_init_4 0 rfl ?_
  refine j_bipush X (v := 32) d_Un_init_5 (by decide) ?_
  refine j_newq X 2 rfl mw_99 X.2.2.2.2.2.2.2.2.2.1 (by decide) rfl (by decide) (by decide) (by decide) d_Un_init_7 (fun ad1 ha1 X1 => ?_)
  refine j_st (st' := [.ref (ad1 7), .ref (ad1 6)]) (by rw [ha1 6 (by omega)]) ?_
  refine j_putF X1 hmn ff_Un_11 6 (by omega) ((up_ne (by decide)).trans h0) (Nat.le_of_ble_eq_true rfl) rfl rfl d_Un_init_10 ?_
  refine j_iconst X1 (v := 0) d_Un_init_13 (by decide) ?_
  refine j_istore_n X1 d_Un_init_14 [(1, .int 0), (0, .ref (ad 6))] (by decide) rfl ?_
  refine j_sub (L' := [(0, .ref (ad 6)), (1, .int 0)]) [1, 0] rfl ?_
  refine j_L (L' := [(0, .ref (ad1 6)), (1, .int (nI 0))]) (by rw [ha1 6 (by omega)]; rfl) ?_
  refine j_cong (c' := cU aC c c0 x 0 ad1) (fun j hj => ?_) (w_Un_init l D aC ad c c0 x hr hk 32 0 ad1 rfl ha1 X1)
  by_cases h6 : j < 6
  · rw [up_ne (by omega), up_ne (by omega), cU_lo h6]
  · by_cases h7 : j = 7
    · subst h7
      rw [up_ne (by decide), up_self, cU_7]
      rfl
    · have e6 : j = 6 := by omega
      subst e6
      rw [up_self, cU_hi (by decide) (by decide), x_Un]
      rfl
