/-! the first store, and the small constructors -/
def S0 (x : Int32) : xS := (fun i k => if (i = 4 ∨ (106 ≤ i ∧ i < 122)) ∧ k = 3 then x else if (i = 4 ∨ (106 ≤ i ∧ i < 122)) ∧ k = 6 then -1 else if i = 104 ∧ k = 1 then 1 else if i = 104 ∧ k = 2 then 16 else 0, fun _ _ => 0, fun j => j, 0)
theorem up_self {c : Nat → va_E} {i : Nat} {v : va_E} : va_up c i v i = v := by simp [va_up]
theorem up_ne {c : Nat → va_E} {i j : Nat} {v : va_E} (h : j ≠ i) : va_up c i v j = c j := by simp [va_up, h]
theorem xe_ad {aC : Nat → ClassId} {ad ad' : Nat → Nat} {S : xS} {c0 : Nat → va_E} (N : Nat) (hN : N ≤ 124) (ha : ∀ i, i < N → ad' i = ad i) {j : Nat} (hj : j < N) (h1 : j ≠ 0 ∨ N = 124) (h2 : j ≠ 1 ∨ 104 ≤ N) (h3 : j ≠ 7 ∨ 104 ≤ N) (h4 : j ≠ 105 ∨ 122 ≤ N) (h5 : kSt j → j + 1 < N) (h6 : kNt j → j + 2 < N) (h7 : j ≠ 6 ∨ 7 < N) (h8 : j ≠ 104 ∨ 105 < N) : xe aC ad S c0 j = xe aC ad' S c0 j := by
  by_cases e0 : j = 0
  · subst e0; rw [x_RM (ad := ad), x_RM (ad := ad'), ha 1 (by omega), ha 104 (by omega), ha 122 (by omega), ha 123 (by omega)]
  by_cases e1 : j = 1
  · subst e1; rw [x_Ma (ad := ad), x_Ma (ad := ad'), ha 2 (by omega), ha 3 (by omega), ha 4 (by omega), ha 6 (by omega), ha (iN (gN S)) (by unfold iN; omega)]
  by_cases e2 : j = 2
  · subst e2; rw [x_code (ad := ad), x_code (ad := ad')]
  by_cases e3 : j = 3
  · subst e3; rw [x_inp (ad := ad), x_inp (ad := ad')]
  by_cases e6 : j = 6
  · subst e6; rw [x_Un (ad := ad), x_Un (ad := ad'), ha 7 (by omega)]
  by_cases e7 : j = 7
  · subst e7
    rw [x_notes (ad := ad), x_notes (ad := ad')]
    have : (fun q => if q < 32 then some (ad (iN q)) else none) = (fun q => if q < 32 then some (ad' (iN q)) else none) := by
      funext q
      rw [ha (iN q) (by unfold iN; omega)]
    rw [this]
  by_cases e104 : j = 104
  · subst e104; rw [x_Cp (ad := ad), x_Cp (ad := ad'), ha 105 (by omega)]
  by_cases e105 : j = 105
  · subst e105
    rw [x_kept (ad := ad), x_kept (ad := ad')]
    have : (fun q => if q < 8 then some (ad (iS (gK S q))) else none) = (fun q => if q < 8 then some (ad' (iS (gK S q))) else none) := by
      funext q
      rw [ha (iS (gK S q)) (by unfold iS; omega)]
    rw [this]
  by_cases e122 : j = 122
  · subst e122; rw [x_brk (ad := ad), x_brk (ad := ad')]
  by_cases e123 : j = 123
  · subst e123; rw [x_wat (ad := ad), x_wat (ad := ad')]
  by_cases hs : kSt j
  · rw [x_St (ad := ad) hs, x_St (ad := ad') hs, ha (j + 1) (h5 hs)]
  by_cases hn : kNt j
  · rw [x_Nt (ad := ad) hn, x_Nt (ad := ad') hn, ha (j + 1) (by have := h6 hn; omega), ha (j + 2) (h6 hn)]
  by_cases hm : kSt (j - 1)
  · have e : j = (j - 1) + 1 := by omega
    rw [e, x_mem (ad := ad) hm, x_mem (ad := ad') hm]
  by_cases hp : kNt (j - 1)
  · have e : j = (j - 1) + 1 := by omega
    rw [e, x_pl (ad := ad) hp, x_pl (ad := ad') hp]
  have hw : kNt (j - 2) := by
    unfold kSt at hs hm
    unfold kNt at hn hp ⊢
    have r3 : j % 3 = 0 ∨ j % 3 = 1 ∨ j % 3 = 2 := by omega
    have r2 : j % 2 = 0 ∨ j % 2 = 1 := by omega
    have lo : 8 ≤ j ∧ j < 104 := by
      rcases r2 with r2 | r2 <;> omega
    rcases r3 with r3 | r3 | r3 <;> omega
  have e : j = (j - 2) + 2 := by omega
  rw [e, x_wd (ad := ad) hw, x_wd (ad := ad') hw]
theorem ff_St_18 : px_Ff WS CLS "ReplayMachine$State" 18 3 7 (.array .int) := ⟨"ReplayMachine$State", "ReplayMachine$State", T_St, 8, t_St, rfl, in_St, by decide, mw_40, Or.inl rfl, ty_St, nm_St, rfl, rfl, by decide +kernel⟩
theorem ff_Nt_9 : px_Ff WS CLS "ReplayMachine$Note" 9 2 7 (.array .int) := ⟨"ReplayMachine$Note", "ReplayMachine$Note", T_Nt, 10, t_Nt, rfl, in_Nt, by decide, mw_106, Or.inl rfl, ty_Nt, nm_Nt, rfl, rfl, by decide +kernel⟩
theorem ff_Nt_13 : px_Ff WS CLS "ReplayMachine$Note" 13 2 8 (.array .int) := ⟨"ReplayMachine$Note", "ReplayMachine$Note", T_Nt, 10, t_Nt, rfl, in_Nt, by decide, mw_107, Or.inl rfl, ty_Nt, nm_Nt, rfl, rfl, by decide +kernel⟩
abbrev rm_Rg_init : Room := { frames := 1, cells := 0, slots := 0, locals := 12 }
theorem c_Rg_init (l : Launch) (b : Nat) : px_P l y_Rg_init (Cond.code y_Rg_init b_Rg_init 1 none :: WS) rm_Rg_init [.ref b] none := by
  refine px_startP (by decide) (Nat.le_of_ble_eq_true rfl) ?_
  intro p e s m args below meth cd X hr hk
  refine z_L (L' := [(0, .ref b)]) rfl ?_
  refine z_aload_n X d_Rg_init_0 0 rfl ?_
  intro ls h1
  refine W.objInit (g := F0 m (0 + 1) ls [.ref b]) X.1 X.2.1 X.2.2.2.1 (X.2.2.2.2 _ mw_39) (X.2.2.2.2 _ mw_23) (X.2.2.2.2 _ mw_24) rfl (h1.1.trans X.2.2.1.symm) rfl d_Rg_init_1 (by decide) (Nat.le_of_ble_eq_true rfl) ?_
  refine W.eq (g2 := F0 m (0 + 1 + 3) ls []) rfl ?_
  exact W.vret X.1 X.2.1 hr (fun t ht _ => ⟨rfl, ht⟩) (fun q h => by cases h) d_Rg_init_4 hk
abbrev bSt : va_E := .inr (3, [.int 0, .int 0, .int 0, .int 0, .int 0, .int 0, .int 0, .null])
abbrev rm_St_init : Room := { frames := 2, cells := 1, slots := 56, locals := 40 }
set_option maxHeartbeats 4000000 in
set_option maxRecDepth 100000 in
theorem c_St_init (l : Launch) (D : va_G) (aC : Nat → ClassId) (ad : Nat → Nat) (i : Nat) (c : Nat → va_E) (x : Int32) (h0 : c i = bSt) : px_N l y_St_init (Cond.code y_St_init b_St_init 2 none :: WS) rm_St_init GC D CLS (TYS aC) [.ref (ad i), .int x] ad c (i + 1) 1 1 56 (fun ad' => va_up (va_up c i (.inr (3, [.int 0, .int 0, .int 0, .int x, .int 0, .int 0, .int (-1), .ref (ad' (i + 1))]))) (i + 1) (.inl (aC 0, 56, .inl (fun _ => 0)))) := by
  refine px_startN GC_k (by decide) (Nat.le_of_ble_eq_true rfl) rfl ?_
  intro p e s m args below meth cd X hr hk hmn
  refine j_L (L' := [(0, .ref (ad i)), (1, .int x)]) rfl ?_
  refine j_aload_n X d_St_init_0 0 rfl ?_
  refine j_initP (st := []) X hY_Rg_init (c_Rg_init l (ad i)) X.2.2.2.2.2.2.2.1 hI_Rg_init rfl rfl rfl (Nat.le_of_ble_eq_true rfl) d_St_init_1 rfl rfl ⟨by decide, by decide⟩ ⟨Nat.zero_le _, Nat.zero_le _⟩ ?_
  refine j_aload_n X d_St_init_4 0 rfl ?_
  refine j_iload_n X d_St_init_5 1 rfl ?_
  refine j_put X fp_St_9_St i (by omega) h0 (Nat.le_of_ble_eq_true rfl) rfl rfl d_St_init_6 ?_
  refine j_aload_n X d_St_init_9 0 rfl ?_
  refine j_iconst X (v := -1) d_St_init_10 (by decide) ?_
  refine j_put X fp_St_15_St i (by omega) up_self (Nat.le_of_ble_eq_true rfl) rfl rfl d_St_init_11 ?_
  refine j_aload_n X d_St_init_14 0 rfl ?_
  refine j_bipush X (v := 56) d_St_init_15 (by decide) ?_
  refine j_newa (atype := .int) (a0 := (56, .inl (fun _ => 0))) X 0 rfl mw_92 rfl (fun _ => rfl) (by decide) rfl (by decide) (by decide) (by decide) d_St_init_17 (fun ad' ha X' => ?_)
  refine j_st (st' := [.ref (ad' (i + 1)), .ref (ad' i)]) (by rw [ha i (by omega)]) ?_
  refine j_putF X' hmn ff_St_18 i (by omega) ((up_ne (by omega)).trans up_self) (Nat.le_of_ble_eq_true rfl) rfl rfl d_St_init_19 ?_
  refine j_vretN X' hr hk rfl ha (fun j _ => ?_) (by decide) (by decide) d_St_init_22
  by_cases hj : j = i
  · subst hj
    rw [up_self, up_ne (by omega), up_self]
    rfl
  · by_cases hj2 : j = i + 1
    · subst hj2
      rw [up_ne (by omega), up_self, up_self]
    · rw [up_ne hj, up_ne hj2, up_ne hj, up_ne hj, up_ne hj2, up_ne hj]
abbrev bNt : va_E := .inr (2, [.int 0, .int 0, .int 0, .int 0, .int 0, .int 0, .int 0, .null, .null, .int 0])
abbrev rm_Nt_init : Room := { frames := 2, cells := 2, slots := 4, locals := 40 }
set_option maxHeartbeats 4000000 in
set_option maxRecDepth 100000 in
theorem c_Nt_init (l : Launch) (D : va_G) (aC : Nat → ClassId) (ad : Nat → Nat) (i : Nat) (c : Nat → va_E) (h0 : c i = bNt) : px_N l y_Nt_init (Cond.code y_Nt_init b_Nt_init 1 none :: WS) rm_Nt_init GC D CLS (TYS aC) [.ref (ad i)] ad c (i + 1) 2 2 4 (fun ad' => va_up (va_up (va_up c i (.inr (2, [.int 0, .int 0, .int 0, .int 0, .int 0, .int 0, .int 0, .ref (ad' (i + 1)), .ref (ad' (i + 2)), .int 0]))) (i + 1) (.inl (aC 0, 2, .inl (fun _ => 0)))) (i + 2) (.inl (aC 0, 2, .inl (fun _ => 0)))) := by
  refine px_startN GC_k (by decide) (Nat.le_of_ble_eq_true rfl) rfl ?_
  intro p e s m args below meth cd X hr hk hmn
  refine j_L (L' := [(0, .ref (ad i))]) rfl ?_
  refine j_aload_n X d_Nt_init_0 0 rfl ?_
  refine j_initP (st := []) X hY_Rg_init (c_Rg_init l (ad i)) X.2.2.2.2.2.2.2.2.1 hI_Rg_init rfl rfl rfl (Nat.le_of_ble_eq_true rfl) d_Nt_init_1 rfl rfl ⟨by decide, by decide⟩ ⟨Nat.zero_le _, Nat.zero_le _⟩ ?_
  refine j_aload_n X d_Nt_init_4 0 rfl ?_
  refine j_iconst X (v := 2) d_Nt_init_5 (by decide) ?_
  refine j_newa (atype := .int) (a0 := (2, .inl (fun _ => 0))) X 0 rfl mw_92 rfl (fun _ => rfl) (by decide) rfl (by decide) (by decide) (by decide) d_Nt_init_6 (fun ad1 ha1 X1 => ?_)
  refine j_st (st' := [.ref (ad1 (i + 1)), .ref (ad1 i)]) (by rw [ha1 i (by omega)]) ?_
  refine j_putF X1 hmn ff_Nt_9 i (by omega) ((up_ne (by omega)).trans h0) (Nat.le_of_ble_eq_true rfl) rfl rfl d_Nt_init_8 ?_
  refine j_aload_n X1 d_Nt_init_11 0 rfl ?_
  refine j_iconst X1 (v := 2) d_Nt_init_12 (by decide) ?_
  refine j_newa (atype := .int) (a0 := (2, .inl (fun _ => 0))) X1 0 rfl mw_92 rfl (fun _ => rfl) (by decide) rfl (by decide) (by decide) (by decide) d_Nt_init_13 (fun ad2 ha2 X2 => ?_)
  have hh : ∀ q, q < i + 1 → ad2 q = ad q := fun q hq => (ha2 q (by omega)).trans (ha1 q hq)
  refine j_st (st' := [.ref (ad2 (i + 2)), .ref (ad2 i)]) (by rw [hh i (by omega)]) ?_
  refine j_putF X2 hmn ff_Nt_13 i (by omega) ((up_ne (by omega)).trans up_self) (Nat.le_of_ble_eq_true rfl) rfl rfl d_Nt_init_15 ?_
  refine j_vretN X2 hr hk rfl hh (fun j _ => ?_) (by decide) (by decide) d_Nt_init_18
  by_cases hj : j = i
  · subst hj
    rw [up_self, up_ne (by omega), up_ne (by omega), up_self, ← ha2 (j + 1) (by omega)]
    rfl
  · by_cases hj2 : j = i + 1
    · subst hj2
      rw [up_ne (by omega), up_ne (by omega), up_ne (by omega), up_self, up_ne (by omega), up_self]
    · by_cases hj3 : j = i + 2
      · subst hj3
        rw [up_ne (by omega), up_self, up_self]
      · rw [up_ne hj, up_ne hj3, up_ne hj, up_ne hj2, up_ne hj3, up_ne hj2, up_ne hj]
