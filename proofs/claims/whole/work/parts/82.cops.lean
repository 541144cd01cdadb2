/-! the class's own operations, one by one, and a whole step -/
section COP
variable {S0 S : xS} {m : aM} {w0 : Nat → Int32} {b : Nat}
theorem cs_top (h : cs S0 S m w0 b) (d : Int32) : f_Ma_fromTop S d = aTop m d := (vw_top h.1 d).1
theorem cs_topP (h : cs S0 S m w0 b) (d : Int32) : p_Ma_fromTop S d := (vw_top h.1 d).2
theorem cs_num (h : cs S0 S m w0 b) (k : Int32) : f_St_number S 4 k = aNum m k := (vw_num h.1 k).1
theorem cs_numP (h : cs S0 S m w0 b) (k : Int32) : p_St_number S 4 k := (vw_num h.1 k).2
theorem cs_rep (h : cs S0 S m w0 b) (hb : b ≤ 1) (v : Int32) : p_Ma_replaceTwo S v ∧ cs S0 (f_Ma_replaceTwo S v).2 (aRep m v) w0 (b + 1) := by
  unfold p_Ma_replaceTwo f_Ma_replaceTwo aRep
  simp only [px_let_id]
  rw [cs_reg h 5 (by decide)]
  obtain ⟨h1, h2⟩ := cs_push (cs_set h 5 (by decide) (m.1 5 - 2)) hb v
  exact ⟨fun S1 e1 => by subst e1; exact ⟨h1, fun _ _ => trivial⟩, h2⟩
theorem cs_exch (h : cs S0 S m w0 0) : p_Ma_exchange S ∧ cs S0 (f_Ma_exchange S).2 (aExch m) w0 2 := by
  unfold p_Ma_exchange f_Ma_exchange aExch
  simp only [px_let_id]
  rw [cs_top h 0, cs_top h 1, cs_reg h 5 (by decide)]
  obtain ⟨h1, h2⟩ := cs_put h (by decide) (32 + m.1 5 - 2) (aTop m 0)
  have e5 := cs_reg h2 5 (by decide)
  obtain ⟨h3, h4⟩ := cs_put h2 (by decide) (32 + (aPut m (32 + m.1 5 - 2) (aTop m 0)).1 5 - 1) (aTop m 1)
  rw [← e5] at h3 h4
  refine ⟨⟨cs_topP h 1, fun r2 q2 => ⟨cs_topP h 0, fun r5 q5 => ?_⟩⟩, by rw [← e5]; exact h4⟩
  subst q2; subst q5
  exact ⟨h1, fun S8 q8 => by subst q8; exact ⟨h3, fun _ _ => trivial⟩⟩
theorem wi32 {x : Int32} (h : ¬ f_RM_within x 32 = 0) : ∃ c, c < 32 ∧ x = Int32.ofNat c := wi_get (n := 32) (by decide) h
theorem cs_load (h : cs S0 S m w0 0) : p_Ma_load S ∧ cs S0 (f_Ma_load S).2 (aLoad m) w0 1 := by
  unfold p_Ma_load f_Ma_load aLoad
  simp only [px_let_id]
  rw [cs_top h 0, cs_reg h 5 (by decide)]
  by_cases hk : f_RM_within (aTop m 0) 32 = 0
  · simp only [hk, if_true]
    exact ⟨⟨cs_topP h 0, fun r2 e2 r4 e4 => ⟨fun _ => trivial, fun h0 => absurd (by rw [e4, e2]; exact hk) h0⟩⟩, cs_le h (by decide)⟩
  · obtain ⟨c, hc, e⟩ := wi32 hk
    have hs := cs_set h 5 (by decide) (m.1 5 - 1)
    have em : gR (sI S 4 5 (m.1 5 - 1)) (4 + 1) (aTop m 0).toNatClampNeg = (aSet m 5 (m.1 5 - 1)).2 (aTop m 0).toNatClampNeg := by
      rw [e, n32_clamp (by omega)]
      exact vw_mem hs.1 (by omega)
    obtain ⟨h1, h2⟩ := cs_push hs (by decide) ((aSet m 5 (m.1 5 - 1)).2 (aTop m 0).toNatClampNeg)
    simp only [hk, if_false]
    rw [← em] at h1 h2 ⊢
    refine ⟨⟨cs_topP h 0, fun r2 e2 r4 e4 => ⟨fun _ => trivial, fun _ S7 e7 => ?_⟩⟩, h2⟩
    subst e2; subst e7
    exact ⟨by rw [e]; exact vin_of (by omega) (by decide), h1, fun _ _ => trivial⟩
theorem cs_st2 (h : cs S0 S m w0 0) (c : Int32) : p_Ma_put (sI S 4 6 c) (aTop m 0) (aTop m 1) ∧ cs S0 (sI (f_Ma_put (sI S 4 6 c) (aTop m 0) (aTop m 1)).2 4 5 (gI (f_Ma_put (sI S 4 6 c) (aTop m 0) (aTop m 1)).2 4 5 - 2)) (aSt2 m c) w0 1 := by
  obtain ⟨h1, h2⟩ := cs_put (cs_set h 6 (by decide) c) (by decide) (aTop m 0) (aTop m 1)
  refine ⟨h1, ?_⟩
  rw [cs_reg h2 5 (by decide)]
  exact cs_set h2 5 (by decide) _
theorem cs_store (h : cs S0 S m w0 0) : p_Ma_store S ∧ cs S0 (f_Ma_store S).2 (aStore m) w0 1 := by
  unfold p_Ma_store f_Ma_store aStore
  simp only [px_let_id]
  rw [cs_top h 0, cs_top h 1]
  by_cases hk : f_RM_within (aTop m 0) 32 = 0
  · simp only [hk, if_true]
    exact ⟨⟨cs_topP h 0, fun r2 e2 => ⟨cs_topP h 1, fun r5 e5 r7 e7 => ⟨fun _ => trivial, fun h0 => absurd (by rw [e7, e2]; exact hk) h0⟩⟩⟩, cs_le h (by decide)⟩
  · obtain ⟨c, hc, e⟩ := wi32 hk
    have em : gR S (4 + 1) (aTop m 0).toNatClampNeg = m.2 (aTop m 0).toNatClampNeg := by
      rw [e, n32_clamp (by omega)]
      exact vw_mem h.1 (by omega)
    have hv : vp_in (aTop m 0) 56 := by rw [e]; exact vin_of (by omega) (by decide)
    simp only [hk, if_false]
    rw [em]
    refine ⟨⟨cs_topP h 0, fun r2 e2 => ⟨cs_topP h 1, fun r5 e5 r7 e7 => ⟨fun _ => trivial, fun _ => ?_⟩⟩⟩, ?_⟩
    · subst e2; subst e5
      exact ⟨hv, fun _ S12 e12 => by subst e12; exact ⟨(cs_st2 h _).1, fun _ _ _ _ => trivial⟩, fun _ S12 e12 => by subst e12; exact ⟨(cs_st2 h _).1, fun _ _ _ _ => trivial⟩⟩
    · split
      · exact (cs_st2 h _).2
      · exact (cs_st2 h _).2
theorem cs_jump (h : cs S0 S m w0 b) (c k : Int32) : cs S0 (f_Ma_jumpIf S c k).2 (aJump m c k) w0 b := by
  unfold f_Ma_jumpIf aJump
  simp only [px_let_id]
  rw [cs_reg h 5 (by decide)]
  have h1 := cs_set h 5 (by decide) (m.1 5 - 1)
  split
  · exact h1
  · exact cs_set h1 1 (by decide) k
theorem cs_enter (h : cs S0 S m w0 0) (k : Int32) : p_Ma_enter S k ∧ cs S0 (f_Ma_enter S k).2 (aEnter m k) w0 2 := by
  unfold p_Ma_enter f_Ma_enter aEnter aEnt2
  simp only [px_let_id]
  rw [cs_reg h 1 (by decide)]
  obtain ⟨h1, h2⟩ := cs_push h (by decide) (m.1 1)
  have e2 := cs_reg h2 2 (by decide)
  obtain ⟨h3, h4⟩ := cs_push h2 (by decide) ((aPush m (m.1 1)).1 2)
  rw [← e2] at h3 h4 ⊢
  have e5 := cs_reg h4 5 (by decide)
  rw [e5]
  exact ⟨⟨h1, fun S2 q2 => by subst q2; exact ⟨h3, fun _ _ _ _ _ _ => trivial⟩⟩, cs_set (cs_set h4 2 (by decide) _) 1 (by decide) k⟩
theorem cs_leave (h : cs S0 S m w0 0) : p_Ma_leave S ∧ cs S0 (f_Ma_leave S).2 (aLeave m) w0 1 := by
  unfold p_Ma_leave f_Ma_leave aLeave
  simp only [px_let_id]
  rw [cs_top h 0, cs_reg h 2 (by decide)]
  have h4 : cs S0 (sI S 4 5 (m.1 2 - 2)) (aLv1 m) w0 0 := cs_set h 5 (by decide) (m.1 2 - 2)
  have p7 := cs_numP h4 (gI (sI S 4 5 (m.1 2 - 2)) 4 5)
  rw [cs_num h4]
  have e5 := cs_reg h4 5 (by decide)
  rw [e5] at p7 ⊢
  have h9 : cs S0 (sI (sI S 4 5 (m.1 2 - 2)) 4 1 (aNum (aLv1 m) ((aLv1 m).1 5))) (aLv2 (aLv1 m)) w0 0 := cs_set h4 1 (by decide) _
  have e9 := cs_reg h9 5 (by decide)
  have p12 := cs_numP h9 ((aLv2 (aLv1 m)).1 5 + 1)
  rw [e9, cs_num h9]
  have h14 : cs S0 (sI (sI (sI S 4 5 (m.1 2 - 2)) 4 1 (aNum (aLv1 m) ((aLv1 m).1 5))) 4 2 (aNum (aLv2 (aLv1 m)) ((aLv2 (aLv1 m)).1 5 + 1))) (aLv3 (aLv2 (aLv1 m))) w0 0 := cs_set h9 2 (by decide) _
  obtain ⟨h17, h18⟩ := cs_push h14 (by decide) (aTop m 0)
  refine ⟨⟨cs_topP h 0, fun r2 q2 S4 q4 => ?_⟩, h18⟩
  subst q2; subst q4
  rw [e5, cs_num h4]
  refine ⟨p7, fun r7 q7 S9 q9 => ?_⟩
  subst q7; subst q9
  rw [e9, cs_num h9]
  refine ⟨p12, fun r12 q12 S14 q14 => ?_⟩
  subst q12; subst q14
  exact ⟨h17, fun _ _ => trivial⟩
theorem cF_in (h : cF S0 S) : gR S 3 = gR S0 3 ∧ gI S 1 4 = gI S0 1 4 := ⟨h.2.2.2 3 (by decide) (by unfold iN; omega) (by unfold iN; omega), h.2.2.1 1 4 (by decide) (Or.inr (by decide))⟩
theorem cs_take (h : cs S0 S m w0 0) {n : Nat} (hn : n ≤ 40) (hc : gI S0 1 4 = Int32.ofNat n) : p_Ma_takeInput S ∧ cs S0 (f_Ma_takeInput S).2 (aTake (gR S0 3) (gI S0 1 4) m) w0 1 := by
  unfold p_Ma_takeInput f_Ma_takeInput aTake
  simp only [px_let_id]
  obtain ⟨i1, i2⟩ := cF_in h.2.2
  rw [cs_reg h 4 (by decide), i1, i2]
  by_cases hk : f_RM_within (m.1 4) (gI S0 1 4) = 0
  · simp only [hk, if_true]
    exact ⟨fun r1 e1 => ⟨fun _ => trivial, fun h0 => absurd e1 h0⟩, cs_le h (by decide)⟩
  · obtain ⟨c, hcn, e⟩ := wi_get (n := n) (by omega) (by rw [← hc]; exact hk)
    have hv : vp_in (m.1 4) 40 := by rw [e]; exact vin_of (by omega) (by decide)
    obtain ⟨h1, h2⟩ := cs_push h (by decide) (gR S0 3 (m.1 4).toNatClampNeg)
    simp only [hk, if_false]
    rw [cs_reg h2 4 (by decide)]
    exact ⟨fun r1 e1 => ⟨fun _ => trivial, fun _ => ⟨hv, h1, fun _ _ _ _ => trivial⟩⟩, cs_set h2 4 (by decide) _⟩
theorem cs_rand (h : cs S0 S m w0 0) (k : Int32) : p_Ma_pushRandom S k ∧ cs S0 (f_Ma_pushRandom S k).2 (aRand m k) w0 1 := by
  unfold p_Ma_pushRandom f_Ma_pushRandom aRand aRn
  simp only [px_let_id]
  rw [cs_reg h 3 (by decide)]
  have h3 := cs_set h 3 (by decide) ((1103515245 * (m.1 3)) + 12345)
  have e3 := cs_reg h3 3 (by decide)
  rw [e3]
  obtain ⟨h1, h2⟩ := cs_push h3 (by decide) (aRn ((aSet m 3 ((1103515245 * (m.1 3)) + 12345)).1 3) k)
  obtain ⟨h4, h5⟩ := cs_push h3 (by decide) 0
  unfold aRn at h1 h2
  refine ⟨fun S1 q1 => ?_, ?_⟩
  · subst q1
    rw [e3]
    exact ⟨fun hk => ⟨fun h0 => by subst h0; exact absurd hk (by decide), h1, fun _ _ => trivial⟩, fun _ => ⟨h4, fun _ _ => trivial⟩⟩
  · split
    · exact h2
    · exact h5
theorem cs_res (o a c : Int32) : p_Ma_result o a c := by
  unfold p_Ma_result
  simp
end COP
