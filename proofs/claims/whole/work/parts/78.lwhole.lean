set_option maxHeartbeats 4000000 in
set_option maxRecDepth 100000 in
/-- from the entry, for every script of at most 1537 ints, the law comes to its end with true: given the mathematics -/
theorem whole_start_of {Rl : xS → xS → Prop} (hLK : LK Rl) {p : Program} {e : Env} {s : State} {m : MethodId} {below : List Frame} {meth : Method} {c : Code} (l : Launch) (hfl : l.flags = pinnedFlags ++ [noTraceFlag]) {b L : Nat} {xs : Nat → Int32} (hL : L ≤ 1537) (C0 : lw_At p s m meth c b L xs) : W p l e room_1 s m #[Value.ref b] below meth c s.heap [] 0 0 (lw_Z below #[Value.ref b] s) (entryFrame m ([Value.ref b] : List Value).toArray 7) := by
  obtain ⟨hx, hb, hret, hml, hown, hts, hX, hbl, hlk, hgv⟩ := C0
  obtain ⟨D, aC, hK⟩ := st_K hts
  have hG := st_G hts hgv
  have hbA : ¬ (fun q => s.heap.size ≤ q) b := fun h => Nat.not_le_of_lt hbl h
  have X0 : px_X p s m #[Value.ref b] c code 7 WS "ReplayMachineLaw" GC D CLS (TYS aC) (fun q => s.heap.size ≤ q) (fun _ => 0) 0 :=
    ⟨⟨hx, hb, hml, hown, WS_hts hts⟩, hK, fun i j hi => absurd hi (Nat.not_lt_zero i), fun i hi => absurd hi (Nat.not_lt_zero i), fun q h => h, GC_k, hG⟩
  have hl : lv_has _ 7 [(0, .ref b)] := lv_entry [.ref b] (n := 7) (Nat.le_of_ble_eq_true rfl)
  rw [lg_entry_eq]
  suffices hJ : px_J p l e room_1 s m #[Value.ref b] below meth c D CLS (fun q => s.heap.size ≤ q) (fun _ => 0) 0 7 0 0 (lw_Z below #[Value.ref b] s) (fun _ => bRM) 0 [(0, .ref b)] [] from
    hJ _ s.heap [] hl (fun k q hk => by cases hk) va_S.rf
  have hN31 : L < 2 ^ 31 := by omega
  refine j_new (ci := 5) (fs := [.null, .null, .null, .null, .int 0, .int 0]) X0 t_RM in_RM ty_RM mw_17 mw_18 mw_1 rfl (by decide +kernel) (by decide) (by decide) d_law_0 (fun ad1 ha1 X1 => ?_)
  refine j_dup X1 d_law_3 rfl ?_
  refine j_aload_n X1 d_law_4 0 rfl ?_
  refine j_iconst X1 (v := 0) d_law_5 (by decide) ?_
  refine j_cell X1 hX hbl hbA hN31 (by decide) (Nat.le_of_ble_eq_true rfl) d_law_6 ⟨by decide, by decide⟩ ⟨by decide, by decide⟩ ?_
  generalize hx0 : scr L xs 0 = x
  obtain ⟨hpm, hR0⟩ := hLK.1 x
  refine j_init (st := [.ref (ad1 0)]) X1 hY_RM_init (c_RM_init l D aC ad1 _ (fun _ => .inl (aC 4, 1, .inr (.inl (fun _ => (0 : Int64))))) x up_self) mw_19 hI_RM_init rfl rfl rfl (Nat.le_of_ble_eq_true rfl) d_law_9 rfl rfl ⟨by decide, by decide⟩ ⟨by decide, by decide⟩ (fun ad2 ha2 X2 => ?_)
  refine j_st (st' := [.ref (ad2 0)]) (by rw [ha2 0 (by decide)]) ?_
  refine j_astore_n X2 d_law_12 [(1, .ref (ad2 0)), (0, .ref b)] (by decide) rfl ?_
  refine j_new (ci := 6) (fs := [.null, .null, .null, .null, .null, .null, .null, .null, .null, .null, .int 0, .int 0, .int 0, .int 0, .int 0, .int 0, .int 0, .int 0, .int 0, .int 0, .int 0, .int 0, .int 0]) X2 t_Mo in_Mo ty_Mo mw_560 mw_561 mw_8 rfl (by decide +kernel) (by decide) (by decide) d_law_13 (fun ad3 ha3 X3 => ?_)
  refine j_dup X3 d_law_16 rfl ?_
  refine j_aload_n X3 d_law_17 1 rfl ?_
  refine j_iconst X3 (v := 0) d_law_18 (by decide) ?_
  refine j_cell X3 hX hbl hbA hN31 (by decide) (Nat.le_of_ble_eq_true rfl) d_law_19 ⟨by decide, by decide⟩ ⟨by decide, by decide⟩ ?_
  rw [hx0]
  refine j_init (st := [.ref (ad3 124)]) X3 hY_Mo_init (c_Mo_init l D aC ad3 _ x up_self hpm) mw_562 hI_Mo_init rfl rfl rfl (Nat.le_of_ble_eq_true rfl) d_law_22 rfl rfl ⟨by decide, by decide⟩ ⟨by decide, by decide⟩ (fun ad4 ha4 X4 => ?_)
  generalize sI (f_Mo_mark (T00 x)).2 124 22 1 = T at hR0 ⊢
  refine j_st (st' := [.ref (ad4 124)]) (by rw [ha4 124 (by decide)]) ?_
  refine j_astore_n X4 d_law_25 [(2, .ref (ad4 124)), (1, .ref (ad2 0)), (0, .ref b)] (by decide) rfl ?_
  refine j_iconst X4 (v := 1) d_law_26 (by decide) ?_
  refine j_newa (atype := .long) (a0 := (1, .inr (.inl (fun _ => 0)))) X4 4 rfl mw_782 rfl (fun _ => rfl) (by decide) rfl (by decide) (by decide) (by decide) d_law_27 (fun ad5 ha5 X5 => ?_)
  refine j_astore_n X5 d_law_29 [(3, .ref (ad5 135)), (2, .ref (ad4 124)), (1, .ref (ad2 0)), (0, .ref b)] (by decide) rfl ?_
  refine j_iconst X5 (v := 1) d_law_30 (by decide) ?_
  have q4 : ∀ i, i < 124 → ad5 i = ad2 i := fun i hi => (ha5 i (by omega)).trans ((ha4 i (by omega)).trans (ha3 i hi))
  refine j_istore X5 d_law_31 (lwL ad5 b 1) (by decide) (by rw [← ha5 124 (by decide), ← q4 0 (by decide)]; rfl) ?_
  have X6 : lwX p s m b c D aC ad5 := ⟨X5.1, X5.2.1, X5.2.2.1, X5.2.2.2.1, X5.2.2.2.2.1, GG_k, X5.2.2.2.2.2.2.1⟩
  refine j_cong (c' := lwW aC ad5 (S0 x) T (fun _ => .inl (aC 4, 1, .inr (.inl (fun _ => (0 : Int64)))))) (fun j hj => ?_) ?_
  · have hj : j < 136 := hj
    by_cases h5 : j = 135
    · subst h5
      rw [up_self]
      rfl
    · rw [up_ne h5]
      by_cases h : j < 124
      · show ye aC ad4 T _ j = ye aC ad5 T (xe aC ad5 (S0 x) (fun _ => .inl (aC 4, 1, .inr (.inl (fun _ => (0 : Int64)))))) j
        rw [ye_lo h, ye_lo h, up_ne (by omega)]
        exact xe_ad 124 (by decide) q4 h (Or.inr rfl) (Or.inr (by decide)) (Or.inr (by decide)) (Or.inr (by decide)) (fun h => by unfold kSt at h; omega) (fun h => by unfold kNt at h; omega) (Or.inr (by decide)) (Or.inr (by decide))
      · by_cases h4 : j = 124
        · subst h4
          show ye aC ad4 T _ 124 = ye aC ad5 T (xe aC ad5 (S0 x) (fun _ => .inl (aC 4, 1, .inr (.inl (fun _ => (0 : Int64)))))) 124
          rw [y_Mo, y_Mo, ha5 125 (by decide), ha5 126 (by decide), ha5 127 (by decide), ha5 128 (by decide), ha5 129 (by decide), ha5 130 (by decide), ha5 131 (by decide), ha5 132 (by decide), ha5 133 (by decide), ha5 134 (by decide)]
        · have h6 : 125 ≤ j := by omega
          clear h4 h
          obtain rfl | rfl | rfl | rfl | rfl | rfl | rfl | rfl | rfl | rfl : j = 125 ∨ j = 126 ∨ j = 127 ∨ j = 128 ∨ j = 129 ∨ j = 130 ∨ j = 131 ∨ j = 132 ∨ j = 133 ∨ j = 134 := by omega
          all_goals rfl
  exact law_loop hfl hX hbl X6 hret hlk hL hLK 512 1 (S0 x) T _ (fun _ => 0) _ _ (by omega) (by omega) (by decide) (by decide) hR0 rfl
set_option maxHeartbeats 4000000 in
theorem lw_walk {Rl : xS → xS → Prop} (hLK : LK Rl) (l : Launch) (hfl : l.flags = pinnedFlags ++ [noTraceFlag]) (b : Addr) (xs : List Int32) : MetFree l x (headSpec (Jvm.Cond.code x code maxLocals ret :: tables_1) room_1) (lw_P b xs) (fun _ _ _ _ _ => True) lw_Q := by
  refine MetFree.of_bodyS (code := code) (maxLocals := maxLocals) (ret := ret) (by decide) ?_ ?_
  · intro args s m h hn
    obtain ⟨meth, c, h1, h2, h3, h4, h5, h6, -, -⟩ := Cond.code_spec hn (atoms_spec (ws := Jvm.Cond.code x code maxLocals ret :: tables_1) h _ List.mem_cons_self)
    exact ⟨meth, c, h1, h2, h3, h4, h5, h6⟩
  · intro p e s m args below meth c s₁ B hml0 hP _
    obtain ⟨rfl, hx, hbd, hgv⟩ := hP
    obtain ⟨scr, harrAt, hlist, hof, hsmall⟩ := hx
    obtain ⟨hcb, hkn, -, -⟩ := State.arrayAt?_spec harrAt
    have hown : s.vm.findClass R_law = some m.cls := findClass_of_methodNamed B.named
    have hts0 : ∀ c ∈ (Jvm.Cond.code x code maxLocals ret :: tables_1), c.before #[Value.ref b] s = true := atoms_spec (ws := Jvm.Cond.code x code maxLocals ret :: tables_1) B.pre
    have hts : ∀ w ∈ lw_tbl, w.before #[Value.ref b] s = true := k2_hts_sels lw_privs (fun w hw => hts0 w (List.mem_cons_of_mem _ hw)) lw_privs_ok
    have hml : c.maxLocals = 7 := B.maxLocals_eq (hts0 _ List.mem_cons_self)
    have X₀ : Stand p l e room_1 s m #[Value.ref b] below meth c s₁ [] 0 0 := Stand.of_body B
    have hh0 : s₁.heap = s.heap := by rw [B.state]; rfl
    have hsz : scr.slots.size = xs.length := by rw [← Array.length_toList, hlist, List.length_map]
    have hval : ∀ j : Nat, j < xs.length → scr.slots[j]? = some (.int (xs.getD j 0)) := fun j hj => by
      rw [← Array.getElem?_toList, hlist]
      simp [hj]
    have hbl : b < s.heap.size := (Array.getElem?_eq_some_iff.mp hcb).1
    have hX : va_X b xs.length (fun j => xs.getD j 0) s s.heap := ⟨scr, hcb, hof, hkn, hsz, hval⟩
    have K : W p l e room_1 s m #[Value.ref b] below meth c s₁.heap [] 0 0 (lw_Z below #[Value.ref b] s) (entryFrame m ([Value.ref b] : List Value).toArray 7) := by
      rw [hh0]
      exact whole_start_of hLK l hfl hbd ⟨B.exec, B.bytes, B.returns, hml, hown, hts, hX, hbl, B.notSynchronized, hgv⟩
    obtain ⟨t, a1, o, b1, b2, b3⟩ := K s₁ rfl X₀
    exact ⟨t, o, a1, b1, b2, b3⟩
theorem lw_pre_spec {args : Array Value} {s : State} (h : (Jvm.Cond.and given_1 narrow_1).before args s = true) (hr : rest_1_c.before args s = true) : ∃ (b : Addr) (xs : List Int32), lw_P b xs args s := by
  have hs := flat_of_before _ h
  have hq := flat_of_before _ hr
  have hc : (Cond.count 1).before args s = true := hs _ (by decide +kernel)
  have harr : (Cond.arrayOf (.arg 0) .int).before args s = true := hs _ (by decide +kernel)
  have hle : (Cond.le (.length (.arg 0)) (.int 1537)).before args s = true := hs _ (by decide +kernel)
  have hlen : (Cond.isInt (.length (.arg 0))).before args s = true := hq _ (by decide +kernel)
  have hall : (Cond.all (.arg 0) (.isInt (.elem (.arg 0) (.index 0)))).before args s = true := hq _ (by decide +kernel)
  obtain ⟨b, xs, hb, hx⟩ := State.ints_of_pre rfl harr hlen hall
  have hsm : xs.length < 2 ^ 31 := hx.choose_spec.2.2.2
  have hev : (Term.length (.arg 0)).eval args s none [] s = some (.int xs.length.toInt32) := hx.length_eval hb
  have hv := Cond.le_ints hev (show (Term.int 1537).eval args s none [] s = some (.int 1537) from rfl)
  have hd : xs.length.toInt32 ≤ 1537 := by
    simpa [Cond.before, Cond.holds, hv] using hle
  have hN : xs.length ≤ 1537 := (Int32.ofNat_le_ofNat hsm (by decide)).mp (show Int32.ofNat xs.length ≤ Int32.ofNat 1537 from hd)
  exact ⟨b, xs, Cond.one_arg hc (show args[0]? = some (.ref b) from hb), hx, hN, h⟩
theorem lw_comes {Rl : xS → xS → Prop} (hLK : LK Rl) (l : Launch) (hfl : l.flags = pinnedFlags ++ [noTraceFlag]) : Comes l x (Jvm.Cond.code x code maxLocals ret :: tables_1) room_1 (fun tb e args s => Calls_1 tb e args s ∧ rest_1 tb e args s ∧ Pre_1 tb e args s)
    (fun _ _ args s o t => lw_Q args s o t) := by
  intro p e ha hc hk s m args below hf hfit hheap happ hpre
  obtain ⟨b, xs, hP⟩ := lw_pre_spec hpre.2.2 hpre.2.1
  obtain ⟨k, o, h1, h2, h3, hQ⟩ := lw_walk hLK l hfl b xs p e ha hc hk s m args below hf ((Spec.applies_iff_loose hf).mp happ).1 hP trivial
  exact ⟨k, o, h1, h2, h3, hQ⟩
theorem lw_frame {s t : State} {o : Outcome} {args : Array Value} (h : Framed s o t [] 601024 7293000) :
    Framed s o t (fieldLocs frame_1_writes args s ++ arrayLocs frame_1_arrays args s ++ staticLocs frame_1_statics s) 601024 7293000 := h
theorem lw_limb {Rl : xS → xS → Prop} (hLK : LK Rl) (L : Cond) (hL : ∀ (args : Array Value) (s t : State), L.after args s (.returned (some (.int 1))) t = true) :
    ArmFor flags0 classFile x code maxLocals ret World_1 tables_1 room_1 Calls_1 rest_1 Pre_1
      (fun tb e a s o t => postC L tb e a s o t ∧ Framed s o t (fieldLocs frame_1_writes a s ++ arrayLocs frame_1_arrays a s ++ staticLocs frame_1_statics s) 601024 7293000) := by
  intro l hfl _ _ p e ha hc hk s m args below hf hfit hheap happ hpre
  obtain ⟨k, o, h1, h2, h3, rfl, hF⟩ := lw_comes hLK l hfl p e ha hc hk s m args below hf hfit hheap happ hpre
  exact ⟨k, _, h1, h2, h3, hL args s _, lw_frame hF⟩
theorem i_vc_of {Rl : xS → xS → Prop} (hLK : LK Rl) : Claimed_1_1 ∧ Claimed_1_2 := ⟨lw_limb hLK limb_1_1 (fun args s t => by simp [limb_1_1, Cond.after, Cond.holds, Cond.value]), lw_limb hLK limb_1_2 (fun args s t => Cond.after_iff.mpr (by
  first | (rw [show limb_1_2 = Cond.eq .result (.int 1) from rfl, Cond.eq_ints (x := 1) (y := 1) rfl rfl]; simp; done) | (simp [limb_1_2, Cond.value, Term.eval]; done)))⟩
