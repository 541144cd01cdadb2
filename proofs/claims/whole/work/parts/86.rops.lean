/-! a whole step of the reference, where nothing stops it -/
def rF (T0 T : xS) : Prop := (∀ f, (f < 12 ∨ 17 < f) → gI T 124 f = gI T0 124 f) ∧ (∀ i, i ≠ 129 → i ≠ 130 → gR T i = gR T0 i)
theorem rF_rf {T : xS} : rF T T := ⟨fun _ _ => rfl, fun _ _ _ => rfl⟩
def rs (T0 T : xS) (m : aM) (h k n : Nat) : Prop := rv T m h k n ∧ rF T0 T
section ROP
variable {T0 T : xS} {m : aM} {h k n : Nat}
theorem aSet_ne {i j : Nat} {x : Int32} (hij : j ≠ i) : (aSet m i x).1 j = m.1 j := upd_ne _ _ hij
theorem aSet_eq {i : Nat} {x : Int32} : (aSet m i x).1 i = x := upd_self _ _ _
theorem aSet_aSet {i : Nat} {x y : Int32} : aSet (aSet m i x) i y = aSet m i y := by
  unfold aSet
  rw [upd_upd]
theorem rs_0 (R : rs T0 T m h k n) (x : Int32) : rs T0 (sI T 124 12 x) (aSet m 0 x) h k n := by
  obtain ⟨⟨r0, r1, r2, r3, r4, r5, r6, r7, r8, r9, r10, r11, r12⟩, f1, f2⟩ := R
  exact ⟨⟨by simp [gI_sI, aSet_eq], by simp [gI_sI, aSet_ne, r1], by simp [gI_sI, aSet_ne, r2], by simp [gI_sI, aSet_ne, r3], by simp [gI_sI, aSet_ne, r4], by simp [gI_sI, aSet_ne, r5], by simp [aSet_ne, r6], r7, by simp [aSet_ne, r8], r9, r10, r11, r12⟩, fun f hf => by rw [gI_sI, if_neg (by omega)]; exact f1 f hf, f2⟩
theorem rs_1 (R : rs T0 T m h k n) (x : Int32) : rs T0 (sI T 124 13 x) (aSet m 1 x) h k n := by
  obtain ⟨⟨r0, r1, r2, r3, r4, r5, r6, r7, r8, r9, r10, r11, r12⟩, f1, f2⟩ := R
  exact ⟨⟨by simp [gI_sI, aSet_ne, r0], by simp [gI_sI, aSet_eq], by simp [gI_sI, aSet_ne, r2], by simp [gI_sI, aSet_ne, r3], by simp [gI_sI, aSet_ne, r4], by simp [gI_sI, aSet_ne, r5], by simp [aSet_ne, r6], r7, by simp [aSet_ne, r8], r9, r10, r11, r12⟩, fun f hf => by rw [gI_sI, if_neg (by omega)]; exact f1 f hf, f2⟩
theorem rs_2 (R : rs T0 T m h k n) (x : Int32) : rs T0 (sI T 124 14 x) (aSet m 2 x) h k n := by
  obtain ⟨⟨r0, r1, r2, r3, r4, r5, r6, r7, r8, r9, r10, r11, r12⟩, f1, f2⟩ := R
  exact ⟨⟨by simp [gI_sI, aSet_ne, r0], by simp [gI_sI, aSet_ne, r1], by simp [gI_sI, aSet_eq], by simp [gI_sI, aSet_ne, r3], by simp [gI_sI, aSet_ne, r4], by simp [gI_sI, aSet_ne, r5], by simp [aSet_ne, r6], r7, by simp [aSet_ne, r8], r9, r10, r11, r12⟩, fun f hf => by rw [gI_sI, if_neg (by omega)]; exact f1 f hf, f2⟩
theorem rs_3 (R : rs T0 T m h k n) (x : Int32) : rs T0 (sI T 124 15 x) (aSet m 3 x) h k n := by
  obtain ⟨⟨r0, r1, r2, r3, r4, r5, r6, r7, r8, r9, r10, r11, r12⟩, f1, f2⟩ := R
  exact ⟨⟨by simp [gI_sI, aSet_ne, r0], by simp [gI_sI, aSet_ne, r1], by simp [gI_sI, aSet_ne, r2], by simp [gI_sI, aSet_eq], by simp [gI_sI, aSet_ne, r4], by simp [gI_sI, aSet_ne, r5], by simp [aSet_ne, r6], r7, by simp [aSet_ne, r8], r9, r10, r11, r12⟩, fun f hf => by rw [gI_sI, if_neg (by omega)]; exact f1 f hf, f2⟩
theorem rs_4 (R : rs T0 T m h k n) {k' : Nat} (hk : k' ≤ n) : rs T0 (sI T 124 16 (Int32.ofNat k')) (aSet m 4 (Int32.ofNat k')) h k' n := by
  obtain ⟨⟨r0, r1, r2, r3, r4, r5, r6, r7, r8, r9, r10, r11, r12⟩, f1, f2⟩ := R
  exact ⟨⟨by simp [gI_sI, aSet_ne, r0], by simp [gI_sI, aSet_ne, r1], by simp [gI_sI, aSet_ne, r2], by simp [gI_sI, aSet_ne, r3], by simp [gI_sI, aSet_eq], by simp [gI_sI, aSet_ne, r5], by simp [aSet_ne, r6], r7, by simp [aSet_eq], hk, r10, r11, r12⟩, fun f hf => by rw [gI_sI, if_neg (by omega)]; exact f1 f hf, f2⟩
theorem rs_5 (R : rs T0 T m h k n) {h' : Nat} (hh : h' ≤ h) : rs T0 (sI T 124 17 (Int32.ofNat h')) (aSet m 5 (Int32.ofNat h')) h' k n := by
  obtain ⟨⟨r0, r1, r2, r3, r4, r5, r6, r7, r8, r9, r10, r11, r12⟩, f1, f2⟩ := R
  exact ⟨⟨by simp [gI_sI, aSet_ne, r0], by simp [gI_sI, aSet_ne, r1], by simp [gI_sI, aSet_ne, r2], by simp [gI_sI, aSet_ne, r3], by simp [gI_sI, aSet_ne, r4], by simp [gI_sI, aSet_eq], by simp [aSet_eq], by omega, by simp [aSet_ne, r8], r9, r10, r11, fun j hj => r12 j (by omega)⟩, fun f hf => by rw [gI_sI, if_neg (by omega)]; exact f1 f hf, f2⟩
theorem rs_6 (R : rs T0 T m h k n) (x : Int32) : rs T0 T (aSet m 6 x) h k n := by
  obtain ⟨⟨r0, r1, r2, r3, r4, r5, r6, r7, r8, r9, r10, r11, r12⟩, f1, f2⟩ := R
  exact ⟨⟨by simp [aSet_ne, r0], by simp [aSet_ne, r1], by simp [aSet_ne, r2], by simp [aSet_ne, r3], by simp [aSet_ne, r4], by simp [aSet_ne, r5], by simp [aSet_ne, r6], r7, by simp [aSet_ne, r8], r9, r10, r11, r12⟩, f1, f2⟩
theorem aPut_in {c : Nat} (hc : c < 56) (v : Int32) : aPut m (Int32.ofNat c) v = (m.1, upd m.2 c v) := by
  unfold aPut
  have hw : f_RM_within (Int32.ofNat c) 56 = 1 := wi_in (n := 56) hc (by decide)
  rw [hw, if_neg (by decide), n32_clamp (by omega)]
theorem aPush_in (e : m.1 5 = Int32.ofNat h) (hh : h < 24) (v : Int32) : aPush m v = (upd m.1 5 (Int32.ofNat (h + 1)), upd m.2 (32 + h) v) := by
  unfold aPush
  rw [e, show (32 : Int32) = Int32.ofNat 32 from rfl, n32_add, aPut_in (by omega)]
  show aSet (m.1, upd m.2 (32 + h) v) 5 (m.1 5 + 1) = _
  rw [e, show (1 : Int32) = Int32.ofNat 1 from rfl, n32_add]
  rfl
theorem rs_h (R : rs T0 T m h k n) : gI T 124 17 = Int32.ofNat h := R.1.2.2.2.2.2.1.trans R.1.2.2.2.2.2.2.1
theorem rs_push (R : rs T0 T m h k n) (hh : h < 24) (v : Int32) : p_Mo_push T v ∧ rs T0 (f_Mo_push T v).2 (aPush m v) (h + 1) k n := by
  have e := rs_h R
  obtain ⟨⟨r0, r1, r2, r3, r4, r5, r6, r7, r8, r9, r10, r11, r12⟩, f1, f2⟩ := R
  unfold p_Mo_push f_Mo_push
  simp only [px_let_id]
  rw [aPush_in r6 hh, gI_sR, e, n32_clamp (by omega), show (1 : Int32) = Int32.ofNat 1 from rfl, n32_add]
  refine ⟨⟨vin_of hh (by decide), fun _ _ _ _ => trivial⟩, ⟨?_, ?_, ?_, ?_, ?_, ?_, ?_, by omega, ?_, r9, r10, ?_, ?_⟩, fun f hf => ?_, fun i g1 g2 => ?_⟩
  · simp [gI_sI, gI_sR, upd, r0]
  · simp [gI_sI, gI_sR, upd, r1]
  · simp [gI_sI, gI_sR, upd, r2]
  · simp [gI_sI, gI_sR, upd, r3]
  · simp [gI_sI, gI_sR, upd, r4]
  · simp [gI_sI, gI_sR, upd]
  · simp [upd]
  · simp [upd, r8]
  · intro j hj
    dsimp only
    rw [gR_sI, gR_sR, if_neg (by decide), upd_ne _ _ (by omega)]
    exact r11 j hj
  · intro j hj
    dsimp only
    rw [gR_sI, gR_sR, if_pos rfl]
    by_cases hjh : j = h
    · subst hjh; rw [upd_self, upd_self]
    · rw [upd_ne _ _ hjh, upd_ne _ _ (by omega)]; exact r12 j (by omega)
  · rw [gI_sI, if_neg (by omega), gI_sR]; exact f1 f hf
  · rw [gR_sI, gR_sR, if_neg g2]; exact f2 i g1 g2
theorem rs_stk (R : rs T0 T m h k n) {d : Nat} (hd : d < h) : gR T 130 (h - 1 - d) = aTop m (Int32.ofNat d) := by
  rw [top_in R.1.2.2.2.2.2.2.1 R.1.2.2.2.2.2.2.2.1 hd]
  exact R.1.2.2.2.2.2.2.2.2.2.2.2.2 _ (by omega)
theorem rs_pop (R : rs T0 T m h k n) (hh : 1 ≤ h) : p_Mo_pop T ∧ (f_Mo_pop T).1 = aTop m 0 ∧ rs T0 (f_Mo_pop T).2 (aSet m 5 (Int32.ofNat (h - 1))) (h - 1) k n := by
  have e := rs_h R
  have h24 : h ≤ 24 := R.1.2.2.2.2.2.2.2.1
  have hs := rs_stk R (d := 0) (by omega)
  unfold p_Mo_pop f_Mo_pop
  simp only [px_let_id]
  rw [e, show (1 : Int32) = Int32.ofNat 1 from rfl, n32_sub hh]
  refine ⟨fun S1 q1 => ?_, ?_, rs_5 R (by omega)⟩
  · subst q1
    rw [gI_sI, if_pos ⟨rfl, rfl⟩]
    exact ⟨vin_of (by omega) (by decide), trivial⟩
  · rw [gI_sI, if_pos ⟨rfl, rfl⟩, n32_clamp (by omega)]
    exact hs
theorem tp_set {d x : Int32} {i : Nat} (hi : i ≠ 5) : aTop (aSet m i x) d = aTop m d := by
  unfold aTop aNum
  rw [aSet_ne (Ne.symm hi)]
  rfl
theorem top_pop (e : m.1 5 = Int32.ofNat h) (hh : 2 ≤ h) : aTop (aSet m 5 (Int32.ofNat (h - 1))) 0 = aTop m 1 := by
  unfold aTop
  rw [aSet_eq, e, show (1 : Int32) = Int32.ofNat 1 from rfl, show (0 : Int32) = Int32.ofNat 0 from rfl, n32_sub (by omega), n32_sub (by omega), n32_sub (by omega), n32_sub (by omega)]
  rfl
/-- two numbers come, one goes back -/
theorem rs_two (R : rs T0 T m h k n) (hh : 2 ≤ h) : ∃ T2, T2 = (f_Mo_pop (f_Mo_pop T).2).2 ∧ p_Mo_pop T ∧ p_Mo_pop (f_Mo_pop T).2 ∧ (f_Mo_pop T).1 = aTop m 0 ∧ (f_Mo_pop (f_Mo_pop T).2).1 = aTop m 1 ∧ rs T0 T2 (aSet m 5 (m.1 5 - 2)) (h - 2) k n := by
  obtain ⟨a1, a2, a3⟩ := rs_pop R (by omega)
  obtain ⟨b1, b2, b3⟩ := rs_pop a3 (by omega)
  have e := R.1.2.2.2.2.2.2.1
  refine ⟨_, rfl, a1, b1, a2, b2.trans (top_pop e hh), ?_⟩
  rw [aSet_aSet, show h - 1 - 1 = h - 2 by omega] at b3
  rw [e, show (2 : Int32) = Int32.ofNat 2 from rfl, n32_sub hh]
  exact b3
theorem rs_rep (R : rs T0 T m h k n) (hh : 2 ≤ h) {o : Int32} (h8 : o = 8 → ¬ aTop m 0 = 0) : ((p_Mo_pop T) ∧ ((∀ S30 : xS, S30 = (f_Mo_pop T).2 → (∀ r32 : Int32, r32 = ((f_Mo_pop T).1) → (p_Mo_pop S30) ∧ ((∀ S35 : xS, S35 = (f_Mo_pop S30).2 → (∀ r37 : Int32, r37 = ((f_Mo_pop S30).1) → (p_Mo_reckon o r37 r32) ∧ ((∀ r40 : Int32, r40 = (f_Mo_reckon o r37 r32) → (p_Mo_push S35 r40) ∧ ((∀ S43 : xS, S43 = (f_Mo_push S35 r40).2 → True))))))))))) ∧
    rs T0 (f_Mo_push (f_Mo_pop (f_Mo_pop T).2).2 (f_Mo_reckon o (f_Mo_pop (f_Mo_pop T).2).1 (f_Mo_pop T).1)).2 (aRep m (f_Ma_result o (aTop m 1) (aTop m 0))) (h - 2 + 1) k n := by
  have h24 : h ≤ 24 := R.1.2.2.2.2.2.2.2.1
  obtain ⟨T2, e2, p1, p2, t1, t2, R2⟩ := rs_two R hh
  have hr : f_Mo_reckon o (aTop m 1) (aTop m 0) = f_Ma_result o (aTop m 1) (aTop m 0) := by
    unfold f_Mo_reckon f_Ma_result
    by_cases h9 : o = 8
    · have := h8 h9
      simp only [h9, this, if_false]
    · simp only [h9, if_false]
  have hp : p_Mo_reckon o (aTop m 1) (aTop m 0) := by
    unfold p_Mo_reckon
    by_cases h9 : o = 8
    · have := h8 h9
      simp [h9, this]
    · simp [h9]
  obtain ⟨q1, q2⟩ := rs_push R2 (by omega) (f_Ma_result o (aTop m 1) (aTop m 0))
  refine ⟨⟨p1, fun S30 a1 r32 a2 => ?_⟩, ?_⟩
  · subst a1; subst a2
    refine ⟨p2, fun S35 a3 r37 a4 => ?_⟩
    subst a4
    rw [t1, t2]
    refine ⟨hp, fun r40 a5 => ?_⟩
    rw [a5, a3, ← e2, hr]
    exact ⟨q1, fun _ _ => trivial⟩
  · rw [t1, t2, hr, ← e2]
    exact q2
theorem rs_cell (R : rs T0 T m h k n) {c : Nat} (hc : c < 32) : gR T 129 c = m.2 c := R.1.2.2.2.2.2.2.2.2.2.2.2.1 c hc
theorem rs_load (R : rs T0 T m h k n) (hh : 1 ≤ h) (ha : ¬ f_RM_within (aTop m 0) 32 = 0) : ((p_Mo_pop T) ∧ ((∀ S115 : xS, S115 = (f_Mo_pop T).2 → (∀ r117 : Int32, r117 = ((f_Mo_pop T).1) → (vp_in r117 32) ∧ ((p_Mo_push S115 (gR S115 129 r117.toNatClampNeg)) ∧ ((∀ S121 : xS, S121 = (f_Mo_push S115 (gR S115 129 r117.toNatClampNeg)).2 → True))))))) ∧
    rs T0 (f_Mo_push (f_Mo_pop T).2 (gR (f_Mo_pop T).2 129 (f_Mo_pop T).1.toNatClampNeg)).2 (aLoad m) (h - 1 + 1) k n := by
  have h24 : h ≤ 24 := R.1.2.2.2.2.2.2.2.1
  have e := R.1.2.2.2.2.2.2.1
  obtain ⟨a1, a2, a3⟩ := rs_pop R hh
  obtain ⟨c, hc, ec⟩ := wi32 ha
  have hx : (aSet m 5 (m.1 5 - 1)) = aSet m 5 (Int32.ofNat (h - 1)) := by rw [e, show (1 : Int32) = Int32.ofNat 1 from rfl, n32_sub hh]
  have hv : gR (f_Mo_pop T).2 129 (f_Mo_pop T).1.toNatClampNeg = (aSet m 5 (m.1 5 - 1)).2 (aTop m 0).toNatClampNeg := by
    rw [a2, ec, n32_clamp (by omega), hx]
    exact rs_cell a3 hc
  obtain ⟨q1, q2⟩ := rs_push a3 (by omega) ((aSet m 5 (m.1 5 - 1)).2 (aTop m 0).toNatClampNeg)
  refine ⟨⟨a1, fun S115 b1 r117 b2 => ?_⟩, ?_⟩
  · subst b1; subst b2
    rw [hv, a2]
    exact ⟨by rw [ec]; exact vin_of hc (by decide), q1, fun _ _ => trivial⟩
  · unfold aLoad
    rw [if_neg ha, hv]
    rw [hx] at q2 ⊢
    exact q2
theorem rs_sto (R : rs T0 T m h k n) (hh : 2 ≤ h) (ha : ¬ f_RM_within (aTop m 0) 32 = 0) : ((p_Mo_pop T) ∧ ((∀ S125 : xS, S125 = (f_Mo_pop T).2 → (∀ r127 : Int32, r127 = ((f_Mo_pop T).1) → (p_Mo_pop S125) ∧ ((∀ S130 : xS, S130 = (f_Mo_pop S125).2 → (∀ r132 : Int32, r132 = ((f_Mo_pop S125).1) → (vp_in r127 32) ∧ ((∀ S134 : xS, S134 = sR S130 129 (upd (gR S130 129) r127.toNatClampNeg r132) → True))))))))) ∧
    rs T0 (sR (f_Mo_pop (f_Mo_pop T).2).2 129 (upd (gR (f_Mo_pop (f_Mo_pop T).2).2 129) (f_Mo_pop T).1.toNatClampNeg (f_Mo_pop (f_Mo_pop T).2).1)) (aStore m) (h - 2) k n := by
  have e := R.1.2.2.2.2.2.2.1
  have h24 : h ≤ 24 := R.1.2.2.2.2.2.2.2.1
  obtain ⟨T2, e2, p1, p2, t1, t2, R2⟩ := rs_two R hh
  obtain ⟨c, hc, ec⟩ := wi32 ha
  refine ⟨⟨p1, fun S125 b1 r127 b2 => ?_⟩, ?_⟩
  · subst b1; subst b2
    refine ⟨p2, fun S130 b3 r132 b4 => ⟨?_, fun _ _ => trivial⟩⟩
    rw [t1, ec]
    exact vin_of hc (by decide)
  · rw [← e2, t1, t2, ec, n32_clamp (by omega)]
    have key : ∀ x : Int32, rs T0 (sR T2 129 (upd (gR T2 129) c (aTop m 1))) (aSt2 m x) (h - 2) k n := by
      intro x
      have es : aSt2 m x = aSet (aSet ((m.1, upd m.2 c (aTop m 1)) : aM) 5 (m.1 5 - 2)) 6 x := by
        unfold aSt2
        rw [ec, aPut_in (by omega)]
        refine Prod.ext ?_ rfl
        funext j
        simp only [aSet, upd]
        by_cases j5 : j = 5
        · subst j5; simp
        · by_cases j6 : j = 6 <;> simp [j5, j6]
      rw [es]
      refine rs_6 ?_ x
      obtain ⟨⟨r0, r1, r2, r3, r4, r5, r6, r7, r8, r9, r10, r11, r12⟩, f1, f2⟩ := R2
      refine ⟨⟨r0, r1, r2, r3, r4, r5, r6, r7, r8, r9, r10, fun j hj => ?_, fun j hj => ?_⟩, f1, fun i g1 g2 => ?_⟩
      · rw [gR_sR, if_pos rfl]
        show upd (gR T2 129) c (aTop m 1) j = upd m.2 c (aTop m 1) j
        by_cases hjc : j = c
        · subst hjc; rw [upd_self, upd_self]
        · rw [upd_ne _ _ hjc, upd_ne _ _ hjc]; exact r11 j hj
      · rw [gR_sR, if_neg (by decide)]
        show gR T2 130 j = upd m.2 c (aTop m 1) (32 + j)
        rw [upd_ne _ _ (by omega)]; exact r12 j hj
      · rw [gR_sR, if_neg g1]; exact f2 i g1 g2
    unfold aStore
    rw [if_neg ha]
    split
    · exact key _
    · exact key _
theorem rs_exch (R : rs T0 T m h k n) (hh : 2 ≤ h) : ((vp_in ((gI T 124 17) - 1) 24) ∧ ((vp_in ((gI T 124 17) - 2) 24) ∧ ((vp_in ((gI T 124 17) - 1) 24) ∧ ((∀ S22 : xS, S22 = sR T 130 (upd (gR T 130) ((gI T 124 17) - 1).toNatClampNeg (gR T 130 ((gI T 124 17) - 2).toNatClampNeg)) → (vp_in ((gI S22 124 17) - 2) 24) ∧ ((∀ S25 : xS, S25 = sR S22 130 (upd (gR S22 130) ((gI S22 124 17) - 2).toNatClampNeg (gR T 130 ((gI T 124 17) - 1).toNatClampNeg)) → True))))))) ∧
    rs T0 (sR (sR T 130 (upd (gR T 130) ((gI T 124 17) - 1).toNatClampNeg (gR T 130 ((gI T 124 17) - 2).toNatClampNeg))) 130 (upd (gR (sR T 130 (upd (gR T 130) ((gI T 124 17) - 1).toNatClampNeg (gR T 130 ((gI T 124 17) - 2).toNatClampNeg))) 130) ((gI (sR T 130 (upd (gR T 130) ((gI T 124 17) - 1).toNatClampNeg (gR T 130 ((gI T 124 17) - 2).toNatClampNeg))) 124 17) - 2).toNatClampNeg (gR T 130 ((gI T 124 17) - 1).toNatClampNeg))) (aExch m) h k n := by
  have eh := rs_h R
  have e := R.1.2.2.2.2.2.2.1
  have h24 : h ≤ 24 := R.1.2.2.2.2.2.2.2.1
  have s0 := rs_stk R (d := 0) (by omega)
  have s1 := rs_stk R (d := 1) (by omega)
  have e1 : Int32.ofNat h - 1 = Int32.ofNat (h - 1) := n32_sub (b := 1) (by omega)
  have e2 : Int32.ofNat h - 2 = Int32.ofNat (h - 2) := n32_sub (b := 2) (by omega)
  have v1 : vp_in (Int32.ofNat (h - 1)) 24 := vin_of (by omega) (by decide)
  have v2 : vp_in (Int32.ofNat (h - 2)) 24 := vin_of (by omega) (by decide)
  have c1 : (Int32.ofNat (h - 1)).toNatClampNeg = h - 1 := n32_clamp (by omega)
  have c2 : (Int32.ofNat (h - 2)).toNatClampNeg = h - 2 := n32_clamp (by omega)
  rw [show h - 1 - 0 = h - 1 by omega] at s0
  rw [show h - 1 - 1 = h - 2 by omega] at s1
  simp only [gI_sR]
  rw [eh, e1, e2, c1, c2, s0, s1]
  refine ⟨⟨v1, v2, v1, fun S22 q => ⟨by rw [q, gI_sR, eh, e2]; exact v2, fun _ _ => trivial⟩⟩, ?_⟩
  have hx : aExch m = (m.1, upd (upd m.2 (32 + (h - 2)) (aTop m 0)) (32 + (h - 1)) (aTop m 1)) := by
    unfold aExch
    rw [e]
    have i1 : (32 : Int32) + Int32.ofNat h - 2 = Int32.ofNat (32 + (h - 2)) := by
      rw [show (32 : Int32) = Int32.ofNat 32 from rfl, n32_add, show (2 : Int32) = Int32.ofNat 2 from rfl, n32_sub (by omega)]
      congr 1
      omega
    have i2 : (32 : Int32) + Int32.ofNat h - 1 = Int32.ofNat (32 + (h - 1)) := by
      rw [show (32 : Int32) = Int32.ofNat 32 from rfl, n32_add, show (1 : Int32) = Int32.ofNat 1 from rfl, n32_sub (by omega)]
      congr 1
      omega
    rw [i1, aPut_in (by omega)]
    show aPut (m.1, upd m.2 (32 + (h - 2)) (aTop m 0)) (32 + m.1 5 - 1) (aTop m 1) = _
    rw [e, i2, aPut_in (by omega)]
  rw [hx]
  obtain ⟨⟨r0, r1, r2, r3, r4, r5, r6, r7, r8, r9, r10, r11, r12⟩, f1, f2⟩ := R
  refine ⟨⟨r0, r1, r2, r3, r4, r5, r6, r7, r8, r9, r10, fun j hj => ?_, fun j hj => ?_⟩, f1, fun i g1 g2 => ?_⟩
  · dsimp only
    rw [gR_sR, if_neg (by decide), gR_sR, if_neg (by decide), upd_ne _ _ (by omega), upd_ne _ _ (by omega)]
    exact r11 j hj
  · dsimp only
    rw [gR_sR, if_pos rfl, gR_sR, if_pos rfl]
    by_cases j1 : j = h - 2
    · subst j1
      rw [upd_self, upd_ne _ _ (by omega), upd_self]
      rfl
    · by_cases j2 : j = h - 1
      · subst j2
        rw [upd_ne _ _ j1, upd_self, upd_self]
        rfl
      · rw [upd_ne _ _ j1, upd_ne _ _ j2, upd_ne _ _ (by omega), upd_ne _ _ (by omega)]
        exact r12 j hj
  · rw [gR_sR, if_neg g2, gR_sR, if_neg g2]; exact f2 i g1 g2
end ROP
