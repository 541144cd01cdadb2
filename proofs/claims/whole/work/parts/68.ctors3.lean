abbrev bCp : va_E := .inr (0, [.null, .int 0, .int 0])
def cC (aC : Nat → ClassId) (c c0 : Nat → va_E) (x : Int32) (i : Nat) (ad : Nat → Nat) : Nat → va_E := fun j => if j < 104 then c j else if j = 104 then .inr (0, [.ref (ad 105), .int 0, .int 0]) else if j = 105 then .inl (aC 3, 8, .inr (.inr (.inr (.inr (fun q => if q < i then some (ad (iS q)) else none))))) else xe aC ad (S0 x) c0 j
def cC1 (aC : Nat → ClassId) (c c0 : Nat → va_E) (x : Int32) (ad : Nat → Nat) : Nat → va_E := fun j => if j < 104 then c j else xe aC ad (S0 x) c0 j
theorem cC_lo {aC : Nat → ClassId} {c c0 : Nat → va_E} {x : Int32} {i j : Nat} {ad : Nat → Nat} (h : j < 104) : cC aC c c0 x i ad j = c j := by unfold cC; rw [if_pos h]
theorem cC_4 {aC : Nat → ClassId} {c c0 : Nat → va_E} {x : Int32} {i : Nat} {ad : Nat → Nat} : cC aC c c0 x i ad 104 = .inr (0, [.ref (ad 105), .int 0, .int 0]) := by unfold cC; rw [if_neg (by decide), if_pos rfl]
theorem cC_5 {aC : Nat → ClassId} {c c0 : Nat → va_E} {x : Int32} {i : Nat} {ad : Nat → Nat} : cC aC c c0 x i ad 105 = .inl (aC 3, 8, .inr (.inr (.inr (.inr (fun q => if q < i then some (ad (iS q)) else none))))) := by unfold cC; rw [if_neg (by decide), if_neg (by decide), if_pos rfl]
theorem cC_hi {aC : Nat → ClassId} {c c0 : Nat → va_E} {x : Int32} {i j : Nat} {ad : Nat → Nat} (h : 106 ≤ j) : cC aC c c0 x i ad j = xe aC ad (S0 x) c0 j := by unfold cC; rw [if_neg (by omega), if_neg (by omega), if_neg (by omega)]
abbrev rm_Cp_init : Room := { frames := 3, cells := 17, slots := 520, locals := 70 }
set_option maxHeartbeats 4000000 in
set_option maxRecDepth 100000 in
theorem w_Cp_init (l : Launch) (D : va_G) (aC : Nat → ClassId) (ad0 : Nat → Nat) (c c0 : Nat → va_E) (x : Int32) {p : Program} {e : Env} {s : State} {m : MethodId} {args : Array Value} {below : List Frame} {meth : Method} {cd : Code} (hr : meth.sig.returnType = none) (hk : meth.locks = false) : ∀ (k i : Nat) (ad : Nat → Nat), i + k = 8 → (∀ q, q < 105 → ad q = ad0 q) → px_X p s m args cd b_Cp_init 3 WS y_Cp_init.cls GC D CLS (TYS aC) (px_A ad0 105 s.heap.size) ad (106 + 2 * i) →
    px_J p l e rm_Cp_init s m args below meth cd D CLS (px_A ad0 105 s.heap.size) ad (106 + 2 * i) 3 (1 + 2 * i) (8 + 64 * i) (MQ below (px_Qn D CLS ad0 105 s.heap.size 17 (cC1 aC c c0 x)) args s 17 520 (px_A ad0 105 s.heap.size)) (cC aC c c0 x i ad) 15 [(0, .ref (ad 104)), (1, .int x), (2, .int (nI i))] [] := by
  intro k
  induction k with
  | zero =>
    intro i ad hik ha X
    have hi : i = 8 := by omega
    subst hi
    refine j_iload_n X d_Cp_init_15 2 rfl ?_
    refine j_bipush X (v := 8) d_Cp_init_16 (by decide) ?_
    refine j_icmp_ge X (tgt := 41) d_Cp_init_18 (by decide) (fun _ => ?_) (fun h => absurd (by decide) h)
    refine j_aload_n X d_Cp_init_41 0 rfl ?_
    refine j_iconst X (v := 1) d_Cp_init_42 (by decide) ?_
    refine j_put X fp_Cp_20_Cp 104 (by omega) cC_4 (Nat.le_of_ble_eq_true rfl) rfl rfl d_Cp_init_43 ?_
    refine j_aload_n X d_Cp_init_46 0 rfl ?_
    refine j_bipush X (v := 16) d_Cp_init_47 (by decide) ?_
    refine j_put X fp_Cp_24_Cp 104 (by omega) up_self (Nat.le_of_ble_eq_true rfl) rfl rfl d_Cp_init_49 ?_
    refine j_vretN X hr hk rfl ha (fun j hj => ?_) (by decide) (by decide) d_Cp_init_52
    by_cases h6 : j < 104
    · rw [up_ne (by omega), up_ne (by omega), cC_lo h6]; unfold cC1; rw [if_pos h6]
    · unfold cC1
      rw [if_neg h6]
      by_cases h4 : j = 104
      · subst h4
        rw [up_self, x_Cp]
        rfl
      · rw [up_ne h4, up_ne h4]
        by_cases h7 : j = 105
        · subst h7
          rw [cC_5, x_kept]
          have : (fun q => if q < 8 then some (ad (iS q)) else none) = fun q => if q < 8 then some (ad (iS (gK (S0 x) q))) else none := by
            funext q
            have e : iS (gK (S0 x) q) = iS q := iS_mod q
            rw [e]
          rw [this]
        · rw [cC_hi (by omega)]
  | succ k ih =>
    intro i ad hik ha X
    have hi : i < 8 := by omega
    refine j_iload_n X d_Cp_init_15 2 rfl ?_
    refine j_bipush X (v := 8) d_Cp_init_16 (by decide) ?_
    refine j_icmp_ge X (tgt := 41) d_Cp_init_18 (by decide) (fun h => absurd h (nI_ge (a := i) (b := 8) hi (by decide))) (fun _ => ?_)
    refine j_aload_n X d_Cp_init_21 0 rfl ?_
    refine j_get X fd_Cp_11_Cp 104 (by omega) cC_4 rfl d_Cp_init_22 ?_
    refine j_iload_n X d_Cp_init_25 2 rfl ?_
    refine j_new (ci := 3) (fs := [.int 0, .int 0, .int 0, .int 0, .int 0, .int 0, .int 0, .null]) X t_St in_St ty_St mw_163 mw_32 mw_4 rfl (by decide +kernel) (by show 1 + 2 * i + 1 ≤ 17; omega) (by show 8 + 64 * i + 8 ≤ 520; omega) d_Cp_init_26 (fun ad1 ha1 X1 => ?_)
    refine j_dup X1 d_Cp_init_29 rfl ?_
    refine j_iload_n X1 d_Cp_init_30 1 rfl ?_
    refine j_init (st := [.ref (ad1 (106 + 2 * i)), .int (nI i), .ref (ad 105)]) X1 hY_St_init (c_St_init l D aC ad1 (106 + 2 * i) _ x up_self) mw_165 hI_St_init rfl rfl rfl (Nat.le_of_ble_eq_true rfl) d_Cp_init_31 rfl rfl ⟨by decide, by decide⟩ ⟨by show 1 + 2 * i + 1 + 1 ≤ 17; omega, by show 8 + 64 * i + 8 + 56 ≤ 520; omega⟩ (fun ad2 ha2 X2 => ?_)
    have hn : 106 + 2 * i + 1 + 1 = 106 + 2 * (i + 1) := by omega
    have hq : ∀ q, q < 106 + 2 * i → ad2 q = ad q := fun q h => (ha2 q (by omega)).trans (ha1 q h)
    refine j_n hn ?_
    rw [hn] at X2
    refine j_widen (k := 1 + 2 * (i + 1)) (k' := 8 + 64 * (i + 1)) (by omega) (by omega) ?_
    refine j_st (st' := [.ref (ad2 (106 + 2 * i)), .int (nI i), .ref (ad2 105)]) (by rw [ha2 (106 + 2 * i) (by omega), hq 105 (by omega)]) ?_
    refine j_aast X2 105 3 (106 + 2 * i) 3 (by omega) (by omega) (by rw [up_ne (by omega), up_ne (by omega), up_ne (by omega), cC_5]) rfl (by rw [up_ne (by omega), up_self]) rfl (vp_in_nI hi (by decide)) d_Cp_init_34 ?_
    refine j_iinc X2 d_Cp_init_35 2 [(2, .int (nI i + 1)), (0, .ref (ad 104)), (1, .int x)] rfl rfl (by decide) rfl ?_
    refine j_goto X2 (tgt := 15) d_Cp_init_38 (by decide) ?_
    refine j_sub (L' := [(0, .ref (ad 104)), (1, .int x), (2, .int (nI i + 1))]) [1, 2, 0] rfl ?_
    refine j_L (L' := [(0, .ref (ad2 104)), (1, .int x), (2, .int (nI (i + 1)))]) (by rw [hq 104 (by omega), nI_succ]) ?_
    refine j_cong (c' := cC aC c c0 x (i + 1) ad2) (fun j hj => ?_) (ih (i + 1) ad2 (by omega) (fun q h => (hq q (by omega)).trans (ha q h)) X2)
    rw [nI_clamp (by omega)]
    by_cases h7 : j = 105
    · subst h7
      rw [up_self, cC_5]
      have : va_up (fun q => if q < i then some (ad (iS q)) else none) i (some (ad2 (106 + 2 * i))) = fun q => if q < i + 1 then some (ad2 (iS q)) else none := by
        funext q
        by_cases hqi : q = i
        · subst hqi
          have e1 : iS q = 106 + 2 * q := by unfold iS; omega
          simp [va_up, e1]
        · by_cases hlt : q < i
          · have e1 : iS q < 106 + 2 * i := by unfold iS; omega
            simp [va_up, hqi, hlt, show q < i + 1 by omega, hq _ e1]
          · simp [va_up, hqi, hlt, show ¬ q < i + 1 by omega]
      rw [this]
    · rw [up_ne h7]
      by_cases e1 : j = 106 + 2 * i + 1
      · subst e1
        have kn : kSt (106 + 2 * i) := by unfold kSt; omega
        rw [up_self, cC_hi (by omega), x_mem kn]
        rfl
      · rw [up_ne e1]
        by_cases e0 : j = 106 + 2 * i
        · subst e0
          have kn : kSt (106 + 2 * i) := by unfold kSt; omega
          rw [up_self, cC_hi (by omega), x_St kn]
          have g : ∀ q, q ≠ 3 → q ≠ 6 → gI (S0 x) (106 + 2 * i) q = 0 := fun q h1 h2 => by
            simp only [gI, S0]
            rw [if_neg (by omega), if_neg (by omega), if_neg (by omega), if_neg (by omega)]
          have g3 : gI (S0 x) (106 + 2 * i) 3 = x := by
            simp only [gI, S0]
            rw [if_pos ⟨Or.inr ⟨by omega, by omega⟩, trivial⟩]
          have g6 : gI (S0 x) (106 + 2 * i) 6 = -1 := by
            simp only [gI, S0]
            rw [if_neg (fun h => absurd h.2 (by decide)), if_pos ⟨Or.inr ⟨by omega, by omega⟩, trivial⟩]
          rw [g 0 (by decide) (by decide), g 1 (by decide) (by decide), g 2 (by decide) (by decide), g3, g 4 (by decide) (by decide), g 5 (by decide) (by decide), g6]
        · rw [up_ne e0, up_ne e0]
          by_cases h6 : j < 104
          · rw [cC_lo h6, cC_lo h6]
          · by_cases h4 : j = 104
            · subst h4
              rw [cC_4, cC_4, hq 105 (by omega)]
            · rw [cC_hi (by omega), cC_hi (by omega)]
              refine xe_ad (106 + 2 * i) (by omega) hq (by omega) (by omega) (by omega) (by omega) (by omega) (fun h => by unfold kSt at h; omega) (fun h => by unfold kNt at h; omega) (by omega) (by omega)
set_option maxHeartbeats 4000000 in
set_option maxRecDepth 100000 in
theorem c_Cp_init (l : Launch) (D : va_G) (aC : Nat → ClassId) (ad : Nat → Nat) (c c0 : Nat → va_E) (x : Int32) (h0 : c 104 = bCp) : px_N l y_Cp_init (Cond.code y_Cp_init b_Cp_init 3 none :: WS) rm_Cp_init GC D CLS (TYS aC) [.ref (ad 104), .int x] ad c 105 17 17 520 (cC1 aC c c0 x) := by
  refine px_startN GC_k (by decide) (Nat.le_of_ble_eq_true rfl) rfl ?_
  intro p e s m args below meth cd X hr hk hmn
  refine j_L (L' := [(0, .ref (ad 104)), (1, .int x)]) rfl ?_
  refine j_aload_n X d_Cp_init_0 0 rfl ?_
  refine j_objInit X mw_162 mw_23 mw_24 d_Cp_init_1 (by decide) (Nat.le_of_ble_eq_true rfl) ?_
  refine j_aload_n X d_Cp_init_4 0 rfl ?_
  refine j_bipush X (v := 8) d_Cp_init_5 (by decide) ?_
  refine j_newq X 3 rfl mw_163 X.2.2.2.2.2.2.2.2.2.2 (by decide) rfl (by decide) (by decide) (by decide) d_Cp_init_7 (fun ad1 ha1 X1 => ?_)
  refine j_st (st' := [.ref (ad1 105), .ref (ad1 104)]) (by rw [ha1 104 (by omega)]) ?_
  refine j_putF X1 hmn ff_Cp_11 104 (by omega) ((up_ne (by decide)).trans h0) (Nat.le_of_ble_eq_true rfl) rfl rfl d_Cp_init_10 ?_
  refine j_iconst X1 (v := 0) d_Cp_init_13 (by decide) ?_
  refine j_istore_n X1 d_Cp_init_14 [(2, .int 0), (0, .ref (ad 104)), (1, .int x)] (by decide) rfl ?_
  refine j_sub (L' := [(0, .ref (ad 104)), (1, .int x), (2, .int 0)]) [1, 2, 0] rfl ?_
  refine j_L (L' := [(0, .ref (ad1 104)), (1, .int x), (2, .int (nI 0))]) (by rw [ha1 104 (by omega)]; rfl) ?_
  refine j_cong (c' := cC aC c c0 x 0 ad1) (fun j hj => ?_) (w_Cp_init l D aC ad c c0 x hr hk 8 0 ad1 rfl ha1 X1)
  by_cases h6 : j < 104
  · rw [up_ne (by omega), up_ne (by omega), cC_lo h6]
  · by_cases h7 : j = 105
    · subst h7
      rw [up_ne (by decide), up_self, cC_5]
      rfl
    · have e6 : j = 104 := by omega
      subst e6
      rw [up_self, cC_4]
      rfl
