/-! the reference's other operations, and its whole step -/
section RO2
variable {T0 T : xS} {m : aM} {h k n : Nat}
theorem rs_e (R : rs T0 T m h k n) : m.1 5 = Int32.ofNat h := R.1.2.2.2.2.2.2.1
theorem rs_24 (R : rs T0 T m h k n) : h ≤ 24 := R.1.2.2.2.2.2.2.2.1
theorem rs_branch (R : rs T0 T m h k n) {o : Int32} (w : Int32) (ho : o = 12 ∨ ((o = 13 ∨ o = 14) ∧ 1 ≤ h)) : p_Mo_branch T o w ∧
    ∃ h', rs T0 (f_Mo_branch T o w).2 (if o = 12 then aSet m 1 w else if o = 13 then (if aTop m 0 = 0 then aJump m 1 w else aJump m 0 w) else (if 0 ≤ aTop m 0 then aJump m 0 w else aJump m 1 w)) h' k n := by
  have e := rs_e R
  rcases ho with rfl | ⟨ho, hh⟩
  · refine ⟨?_, h, ?_⟩
    · unfold p_Mo_branch
      simp
    · unfold f_Mo_branch
      simp only [px_let_id, if_true]
      exact rs_1 R w
  · obtain ⟨a1, a2, a3⟩ := rs_pop R hh
    have hx : (m.1 5 - 1) = Int32.ofNat (h - 1) := by rw [e]; exact n32_sub (b := 1) hh
    have j0 : aJump m 0 w = aSet m 5 (Int32.ofNat (h - 1)) := by
      unfold aJump; rw [if_pos rfl, hx]
    have j1 : aJump m 1 w = aSet (aSet m 5 (Int32.ofNat (h - 1))) 1 w := by
      unfold aJump; rw [if_neg (by decide), hx]
    rw [j0, j1]
    have a4 := rs_1 a3 w
    unfold p_Mo_branch f_Mo_branch
    simp only [px_let_id]
    rw [a2]
    rcases ho with rfl | rfl
    · simp (decide := true) only [if_true, if_false, true_implies, false_implies, true_and, and_true, not_true, not_false_eq_true, implies_true]
      refine ⟨a1, h - 1, ?_⟩
      split
      · exact a4
      · exact a3
    · simp (decide := true) only [if_true, if_false, true_implies, false_implies, true_and, and_true, not_true, not_false_eq_true, implies_true]
      refine ⟨a1, h - 1, ?_⟩
      split
      · exact a3
      · exact a4
theorem rs_call (R : rs T0 T m h k n) (hh : h + 2 ≤ 24) (w : Int32) : p_Mo_call T w ∧ rs T0 (f_Mo_call T w).2 (aEnter m w) (h + 1 + 1) k n := by
  unfold p_Mo_call f_Mo_call aEnter aEnt2
  simp only [px_let_id]
  rw [R.1.2.1]
  obtain ⟨h1, h2⟩ := rs_push R (by omega) (m.1 1)
  have e2 := h2.1.2.2.1
  obtain ⟨h3, h4⟩ := rs_push h2 (by omega) ((aPush m (m.1 1)).1 2)
  rw [← e2] at h3 h4 ⊢
  have e5 := h4.1.2.2.2.2.2.1
  rw [e5]
  exact ⟨⟨h1, fun S2 q2 => by subst q2; exact ⟨h3, fun _ _ _ _ _ _ => trivial⟩⟩, rs_1 (rs_2 h4 _) w⟩
theorem rs_give (R : rs T0 T m h k n) {f : Nat} (ef : m.1 2 = Int32.ofNat f) (hf : 2 ≤ f ∧ f < h) : p_Mo_giveBack T ∧ rs T0 (f_Mo_giveBack T).2 (aLeave m) (f - 2 + 1) k n := by
  have e := rs_e R
  have h24 := rs_24 R
  have eh := rs_h R
  have s0 := rs_stk R (d := 0) (by omega)
  rw [show h - 1 - 0 = h - 1 by omega] at s0
  have e1 : Int32.ofNat h - 1 = Int32.ofNat (h - 1) := n32_sub (b := 1) (by omega)
  have R2 := rs_5 R (h' := f) (by omega)
  obtain ⟨a1, a2, a3⟩ := rs_pop R2 (by omega)
  rw [aSet_aSet] at a3
  have t7 : aTop (aSet m 5 (Int32.ofNat f)) 0 = m.2 (32 + (f - 1)) := by
    have := top_in (m := aSet m 5 (Int32.ofNat f)) (h := f) (d := 0) aSet_eq (by omega) (by omega)
    exact this
  rw [t7] at a2
  have R9 := rs_2 a3 (m.2 (32 + (f - 1)))
  obtain ⟨b1, b2, b3⟩ := rs_pop R9 (by omega)
  have t14 : aTop (aSet (aSet m 5 (Int32.ofNat (f - 1))) 2 (m.2 (32 + (f - 1)))) 0 = m.2 (32 + (f - 2)) := by
    have := top_in (m := aSet (aSet m 5 (Int32.ofNat (f - 1))) 2 (m.2 (32 + (f - 1)))) (h := f - 1) (d := 0) rfl (by omega) (by omega)
    rw [show f - 1 - 1 - 0 = f - 2 by omega] at this
    exact this
  rw [t14] at b2
  have R16 := rs_1 b3 (m.2 (32 + (f - 2)))
  have hm : aSet (aSet (aSet (aSet m 5 (Int32.ofNat (f - 1))) 2 (m.2 (32 + (f - 1)))) 5 (Int32.ofNat (f - 1 - 1))) 1 (m.2 (32 + (f - 2))) = aLv3 (aLv2 (aLv1 m)) := by
    have l1 : aLv1 m = aSet m 5 (Int32.ofNat (f - 2)) := by
      unfold aLv1
      rw [ef]
      congr 1
      exact n32_sub (b := 2) (by omega)
    have l2 : aLv2 (aLv1 m) = aSet (aSet m 5 (Int32.ofNat (f - 2))) 1 (m.2 (32 + (f - 2))) := by
      rw [l1]
      unfold aLv2
      rw [aSet_eq, num_in (by omega)]
      rfl
    have l3 : aLv3 (aLv2 (aLv1 m)) = aSet (aSet (aSet m 5 (Int32.ofNat (f - 2))) 1 (m.2 (32 + (f - 2)))) 2 (m.2 (32 + (f - 1))) := by
      rw [l2]
      unfold aLv3
      rw [aSet_ne (by decide), aSet_eq, show (1 : Int32) = Int32.ofNat 1 from rfl, n32_add, show f - 2 + 1 = f - 1 by omega, num_in (by omega)]
      rfl
    rw [l3]
    refine Prod.ext ?_ rfl
    funext j
    simp only [aSet, upd]
    rw [show f - 1 - 1 = f - 2 by omega]
    by_cases j1 : j = 1
    · simp [j1]
    · by_cases j2 : j = 2
      · simp [j2]
      · by_cases j5 : j = 5
        · simp [j5]
        · simp [j1, j2, j5]
  rw [hm, show f - 1 - 1 = f - 2 by omega] at R16
  obtain ⟨q1, q2⟩ := rs_push R16 (by omega) (aTop m 0)
  unfold p_Mo_giveBack f_Mo_giveBack aLeave
  simp only [px_let_id]
  rw [R.1.2.2.1, ef, eh, e1, n32_clamp (by omega), s0, a2, b2]
  refine ⟨⟨vin_of (by omega) (by decide), fun S2 c2 => ?_⟩, q2⟩
  subst c2
  refine ⟨a1, fun S5 c5 r7 c7 S9 c9 => ?_⟩
  rw [a2] at c7
  subst c5; subst c7; subst c9
  refine ⟨b1, fun S12 c12 r14 c14 S16 c16 => ?_⟩
  rw [b2] at c14
  subst c12; subst c14; subst c16
  exact ⟨q1, fun _ _ => trivial⟩
theorem rs_arg (R : rs T0 T m h k n) (hh : h < 24) {w : Int32} (hw : ¬ f_RM_within (m.1 2 - 3 - w) (m.1 5) = 0) : ((vp_in (((gI T 124 14) - 3) - w) 24) ∧ ((p_Mo_push T (gR T 130 (((gI T 124 14) - 3) - w).toNatClampNeg)) ∧ ((∀ S160 : xS, S160 = (f_Mo_push T (gR T 130 (((gI T 124 14) - 3) - w).toNatClampNeg)).2 → True)))) ∧
    rs T0 (f_Mo_push T (gR T 130 (((gI T 124 14) - 3) - w).toNatClampNeg)).2 (aPush m (aNum m (m.1 2 - 3 - w))) (h + 1) k n := by
  rw [R.1.2.2.1]
  rw [rs_e R] at hw
  obtain ⟨c, hc, ec⟩ := wi_get (n := h) (by omega) hw
  have h24 := rs_24 R
  have hv : gR T 130 (m.1 2 - 3 - w).toNatClampNeg = aNum m (m.1 2 - 3 - w) := by
    rw [ec, n32_clamp (by omega), num_in (by omega)]
    exact R.1.2.2.2.2.2.2.2.2.2.2.2.2 c hc
  rw [hv]
  obtain ⟨q1, q2⟩ := rs_push R hh (aNum m (m.1 2 - 3 - w))
  exact ⟨⟨by rw [ec]; exact vin_of (by omega) (by decide), q1, fun _ _ => trivial⟩, q2⟩
theorem push_set4 {x v : Int32} (e : m.1 5 = Int32.ofNat h) (hh : h < 24) : aPush (aSet m 4 x) v = aSet (aPush m v) 4 x := by
  have e2 : (aSet m 4 x).1 5 = Int32.ofNat h := by rw [aSet_ne (by decide)]; exact e
  rw [aPush_in e2 hh, aPush_in e hh]
  refine Prod.ext ?_ rfl
  funext j
  simp only [aSet, upd]
  by_cases j4 : j = 4
  · simp [j4]
  · by_cases j5 : j = 5 <;> simp [j4, j5]
theorem rs_take (R : rs T0 T m h k n) (hh : h < 24) (hk : k < n) : (∀ S163 : xS, S163 = sI T 124 16 ((gI T 124 16) + 1) → (vp_in ((gI S163 124 16) - 1) 40) ∧ ((p_Mo_push S163 (gR S163 126 ((gI S163 124 16) - 1).toNatClampNeg)) ∧ ((∀ S167 : xS, S167 = (f_Mo_push S163 (gR S163 126 ((gI S163 124 16) - 1).toNatClampNeg)).2 → True)))) ∧
    rs T0 (f_Mo_push (sI T 124 16 ((gI T 124 16) + 1)) (gR (sI T 124 16 ((gI T 124 16) + 1)) 126 ((gI (sI T 124 16 ((gI T 124 16) + 1)) 124 16) - 1).toNatClampNeg)).2 (aTake (gR T 126) (Int32.ofNat n) m) (h + 1) (k + 1) n := by
  have r4 := R.1.2.2.2.2.1
  have r8 := R.1.2.2.2.2.2.2.2.2.1
  have r10 := R.1.2.2.2.2.2.2.2.2.2.2.1
  have e := rs_e R
  have e1 : gI T 124 16 + 1 = Int32.ofNat (k + 1) := by rw [r4, r8]; exact n32_add k 1
  have R1 := rs_4 R (k' := k + 1) (by omega)
  have e2 : Int32.ofNat (k + 1) - 1 = Int32.ofNat k := n32_sub (b := 1) (by omega)
  obtain ⟨q1, q2⟩ := rs_push R1 hh (gR T 126 k)
  rw [e1]
  rw [gI_sI, if_pos ⟨rfl, rfl⟩, e2, n32_clamp (by omega), gR_sI]
  refine ⟨fun S163 c => ?_, ?_⟩
  · subst c
    rw [gI_sI, if_pos ⟨rfl, rfl⟩, e2, n32_clamp (by omega), gR_sI]
    exact ⟨vin_of (by omega) (by decide), q1, fun _ _ => trivial⟩
  · unfold aTake
    have hw : f_RM_within (m.1 4) (Int32.ofNat n) = 1 := by rw [r8]; exact wi_in hk (by omega)
    rw [hw, if_neg (by decide), r8, n32_clamp (by omega)]
    have e3 : (aPush m (gR T 126 k)).1 4 + 1 = Int32.ofNat (k + 1) := by
      rw [aPush_in e hh]
      dsimp only
      rw [upd_ne _ _ (by decide), r8]
      exact n32_add k 1
    rw [e3, ← push_set4 e hh]
    exact q2
theorem rs_rand (R : rs T0 T m h k n) (hh : h < 24) {w : Int32} (hw : 1 ≤ w) : ((p_Mo_draw T w) ∧ ((∀ S171 : xS, S171 = (f_Mo_draw T w).2 → (∀ r173 : Int32, r173 = ((f_Mo_draw T w).1) → (p_Mo_push S171 r173) ∧ ((∀ S176 : xS, S176 = (f_Mo_push S171 r173).2 → True)))))) ∧
    rs T0 (f_Mo_push (f_Mo_draw T w).2 (f_Mo_draw T w).1).2 (aRand m w) (h + 1) k n := by
  have r3 := R.1.2.2.2.1
  have R1 := rs_3 R ((1103515245 * (m.1 3)) + 12345)
  have hd2 : (f_Mo_draw T w).2 = sI T 124 15 ((1103515245 * (m.1 3)) + 12345) := by
    rw [← r3]
    rfl
  have hd1 : (f_Mo_draw T w).1 = aRn ((aSet m 3 ((1103515245 * (m.1 3)) + 12345)).1 3) w := by
    unfold f_Mo_draw aRn
    simp only [px_let_id]
    rw [gI_sI, if_pos ⟨rfl, rfl⟩, r3, aSet_eq, ush16]
  obtain ⟨q1, q2⟩ := rs_push R1 hh (aRn ((aSet m 3 ((1103515245 * (m.1 3)) + 12345)).1 3) w)
  rw [hd1, hd2]
  refine ⟨⟨fun S1 _ => ⟨fun h0 => by subst h0; exact absurd hw (by decide), trivial⟩, fun S171 c1 r173 c2 => ?_⟩, ?_⟩
  · subst c1; subst c2
    exact ⟨q1, fun _ _ => trivial⟩
  · unfold aRand
    rw [if_pos hw]
    exact q2
end RO2
def fp_chain (S5 : xS) (o k : Int32) : Int32 × xS := if o = 1 then px_let ((f_Mo_push S5 k).2) (fun S9 : xS => ((0 : Int32), S9)) else if o = 2 then px_let (sI S5 124 17 ((gI S5 124 17) - 1)) (fun S12 : xS => ((0 : Int32), S12)) else if o = 3 then px_let ((f_Mo_push S5 (gR S5 130 ((gI S5 124 17) - 1).toNatClampNeg)).2) (fun S17 : xS => ((0 : Int32), S17)) else if o = 4 then px_let (sR S5 130 (upd (gR S5 130) ((gI S5 124 17) - 1).toNatClampNeg (gR S5 130 ((gI S5 124 17) - 2).toNatClampNeg))) (fun S22 : xS => px_let (sR S22 130 (upd (gR S22 130) ((gI S22 124 17) - 2).toNatClampNeg (gR S5 130 ((gI S5 124 17) - 1).toNatClampNeg))) (fun S25 : xS => ((0 : Int32), S25))) else if o = 5 then px_let ((f_Mo_pop S5 ).2) (fun S30 : xS => px_let ((f_Mo_pop S5).1) (fun r32 : Int32 => px_let ((f_Mo_pop S30 ).2) (fun S35 : xS => px_let ((f_Mo_pop S30).1) (fun r37 : Int32 => px_let (f_Mo_reckon o r37 r32) (fun r40 : Int32 => px_let ((f_Mo_push S35 r40).2) (fun S43 : xS => ((0 : Int32), S43))))))) else if o = 6 then px_let ((f_Mo_pop S5 ).2) (fun S47 : xS => px_let ((f_Mo_pop S5).1) (fun r49 : Int32 => px_let ((f_Mo_pop S47 ).2) (fun S52 : xS => px_let ((f_Mo_pop S47).1) (fun r54 : Int32 => px_let (f_Mo_reckon o r54 r49) (fun r57 : Int32 => px_let ((f_Mo_push S52 r57).2) (fun S60 : xS => ((0 : Int32), S60))))))) else if o = 7 then px_let ((f_Mo_pop S5 ).2) (fun S64 : xS => px_let ((f_Mo_pop S5).1) (fun r66 : Int32 => px_let ((f_Mo_pop S64 ).2) (fun S69 : xS => px_let ((f_Mo_pop S64).1) (fun r71 : Int32 => px_let (f_Mo_reckon o r71 r66) (fun r74 : Int32 => px_let ((f_Mo_push S69 r74).2) (fun S77 : xS => ((0 : Int32), S77))))))) else if o = 8 then px_let ((f_Mo_pop S5 ).2) (fun S81 : xS => px_let ((f_Mo_pop S5).1) (fun r83 : Int32 => px_let ((f_Mo_pop S81 ).2) (fun S86 : xS => px_let ((f_Mo_pop S81).1) (fun r88 : Int32 => px_let (f_Mo_reckon o r88 r83) (fun r91 : Int32 => px_let ((f_Mo_push S86 r91).2) (fun S94 : xS => ((0 : Int32), S94))))))) else if o = 9 then px_let ((f_Mo_pop S5 ).2) (fun S98 : xS => px_let ((f_Mo_pop S5).1) (fun r100 : Int32 => px_let ((f_Mo_pop S98 ).2) (fun S103 : xS => px_let ((f_Mo_pop S98).1) (fun r105 : Int32 => px_let (f_Mo_reckon o r105 r100) (fun r108 : Int32 => px_let ((f_Mo_push S103 r108).2) (fun S111 : xS => ((0 : Int32), S111))))))) else if o = 10 then px_let ((f_Mo_pop S5 ).2) (fun S115 : xS => px_let ((f_Mo_pop S5).1) (fun r117 : Int32 => px_let ((f_Mo_push S115 (gR S115 129 r117.toNatClampNeg)).2) (fun S121 : xS => ((0 : Int32), S121)))) else if o = 11 then px_let ((f_Mo_pop S5 ).2) (fun S125 : xS => px_let ((f_Mo_pop S5).1) (fun r127 : Int32 => px_let ((f_Mo_pop S125 ).2) (fun S130 : xS => px_let ((f_Mo_pop S125).1) (fun r132 : Int32 => px_let (sR S130 129 (upd (gR S130 129) r127.toNatClampNeg r132)) (fun S134 : xS => ((0 : Int32), S134)))))) else if o = 12 then px_let ((f_Mo_branch S5 o k).2) (fun S139 : xS => ((0 : Int32), S139)) else if o = 13 then px_let ((f_Mo_branch S5 o k).2) (fun S143 : xS => ((0 : Int32), S143)) else if o = 14 then px_let ((f_Mo_branch S5 o k).2) (fun S147 : xS => ((0 : Int32), S147)) else if o = 15 then px_let ((f_Mo_call S5 k).2) (fun S151 : xS => ((0 : Int32), S151)) else if o = 16 then px_let ((f_Mo_giveBack S5 ).2) (fun S155 : xS => ((0 : Int32), S155)) else if o = 17 then px_let ((f_Mo_push S5 (gR S5 130 (((gI S5 124 14) - 3) - k).toNatClampNeg)).2) (fun S160 : xS => ((0 : Int32), S160)) else if o = 18 then px_let (sI S5 124 16 ((gI S5 124 16) + 1)) (fun S163 : xS => px_let ((f_Mo_push S163 (gR S163 126 ((gI S163 124 16) - 1).toNatClampNeg)).2) (fun S167 : xS => ((0 : Int32), S167))) else if o = 19 then px_let ((f_Mo_draw S5 k).2) (fun S171 : xS => px_let ((f_Mo_draw S5 k).1) (fun r173 : Int32 => px_let ((f_Mo_push S171 r173).2) (fun S176 : xS => ((0 : Int32), S176)))) else if o = 20 then px_let ((f_Mo_push S5 (gI S5 124 14)).2) (fun S180 : xS => ((0 : Int32), S180)) else px_let ((f_Mo_pop S5 ).2) (fun S183 : xS => px_let ((f_Mo_pop S5).1) (fun r185 : Int32 => px_let ((f_Mo_pop S183 ).2) (fun S188 : xS => px_let ((f_Mo_pop S183).1) (fun r190 : Int32 => px_let (f_Mo_reckon o r190 r185) (fun r193 : Int32 => px_let ((f_Mo_push S188 r193).2) (fun S196 : xS => ((0 : Int32), S196)))))))
def pp_chain (S5 : xS) (o k : Int32) : Prop := (o = 1 → (p_Mo_push S5 k) ∧ ((∀ S9 : xS, S9 = (f_Mo_push S5 k).2 → True))) ∧ (¬ o = 1 → (o = 2 → (∀ S12 : xS, S12 = sI S5 124 17 ((gI S5 124 17) - 1) → True)) ∧ (¬ o = 2 → (o = 3 → (vp_in ((gI S5 124 17) - 1) 24) ∧ ((p_Mo_push S5 (gR S5 130 ((gI S5 124 17) - 1).toNatClampNeg)) ∧ ((∀ S17 : xS, S17 = (f_Mo_push S5 (gR S5 130 ((gI S5 124 17) - 1).toNatClampNeg)).2 → True)))) ∧ (¬ o = 3 → (o = 4 → (vp_in ((gI S5 124 17) - 1) 24) ∧ ((vp_in ((gI S5 124 17) - 2) 24) ∧ ((vp_in ((gI S5 124 17) - 1) 24) ∧ ((∀ S22 : xS, S22 = sR S5 130 (upd (gR S5 130) ((gI S5 124 17) - 1).toNatClampNeg (gR S5 130 ((gI S5 124 17) - 2).toNatClampNeg)) → (vp_in ((gI S22 124 17) - 2) 24) ∧ ((∀ S25 : xS, S25 = sR S22 130 (upd (gR S22 130) ((gI S22 124 17) - 2).toNatClampNeg (gR S5 130 ((gI S5 124 17) - 1).toNatClampNeg)) → True))))))) ∧ (¬ o = 4 → (o = 5 → (p_Mo_pop S5) ∧ ((∀ S30 : xS, S30 = (f_Mo_pop S5 ).2 → (∀ r32 : Int32, r32 = ((f_Mo_pop S5).1) → (p_Mo_pop S30) ∧ ((∀ S35 : xS, S35 = (f_Mo_pop S30 ).2 → (∀ r37 : Int32, r37 = ((f_Mo_pop S30).1) → (p_Mo_reckon o r37 r32) ∧ ((∀ r40 : Int32, r40 = (f_Mo_reckon o r37 r32) → (p_Mo_push S35 r40) ∧ ((∀ S43 : xS, S43 = (f_Mo_push S35 r40).2 → True))))))))))) ∧ (¬ o = 5 → (o = 6 → (p_Mo_pop S5) ∧ ((∀ S47 : xS, S47 = (f_Mo_pop S5 ).2 → (∀ r49 : Int32, r49 = ((f_Mo_pop S5).1) → (p_Mo_pop S47) ∧ ((∀ S52 : xS, S52 = (f_Mo_pop S47 ).2 → (∀ r54 : Int32, r54 = ((f_Mo_pop S47).1) → (p_Mo_reckon o r54 r49) ∧ ((∀ r57 : Int32, r57 = (f_Mo_reckon o r54 r49) → (p_Mo_push S52 r57) ∧ ((∀ S60 : xS, S60 = (f_Mo_push S52 r57).2 → True))))))))))) ∧ (¬ o = 6 → (o = 7 → (p_Mo_pop S5) ∧ ((∀ S64 : xS, S64 = (f_Mo_pop S5 ).2 → (∀ r66 : Int32, r66 = ((f_Mo_pop S5).1) → (p_Mo_pop S64) ∧ ((∀ S69 : xS, S69 = (f_Mo_pop S64 ).2 → (∀ r71 : Int32, r71 = ((f_Mo_pop S64).1) → (p_Mo_reckon o r71 r66) ∧ ((∀ r74 : Int32, r74 = (f_Mo_reckon o r71 r66) → (p_Mo_push S69 r74) ∧ ((∀ S77 : xS, S77 = (f_Mo_push S69 r74).2 → True))))))))))) ∧ (¬ o = 7 → (o = 8 → (p_Mo_pop S5) ∧ ((∀ S81 : xS, S81 = (f_Mo_pop S5 ).2 → (∀ r83 : Int32, r83 = ((f_Mo_pop S5).1) → (p_Mo_pop S81) ∧ ((∀ S86 : xS, S86 = (f_Mo_pop S81 ).2 → (∀ r88 : Int32, r88 = ((f_Mo_pop S81).1) → (p_Mo_reckon o r88 r83) ∧ ((∀ r91 : Int32, r91 = (f_Mo_reckon o r88 r83) → (p_Mo_push S86 r91) ∧ ((∀ S94 : xS, S94 = (f_Mo_push S86 r91).2 → True))))))))))) ∧ (¬ o = 8 → (o = 9 → (p_Mo_pop S5) ∧ ((∀ S98 : xS, S98 = (f_Mo_pop S5 ).2 → (∀ r100 : Int32, r100 = ((f_Mo_pop S5).1) → (p_Mo_pop S98) ∧ ((∀ S103 : xS, S103 = (f_Mo_pop S98 ).2 → (∀ r105 : Int32, r105 = ((f_Mo_pop S98).1) → (p_Mo_reckon o r105 r100) ∧ ((∀ r108 : Int32, r108 = (f_Mo_reckon o r105 r100) → (p_Mo_push S103 r108) ∧ ((∀ S111 : xS, S111 = (f_Mo_push S103 r108).2 → True))))))))))) ∧ (¬ o = 9 → (o = 10 → (p_Mo_pop S5) ∧ ((∀ S115 : xS, S115 = (f_Mo_pop S5 ).2 → (∀ r117 : Int32, r117 = ((f_Mo_pop S5).1) → (vp_in r117 32) ∧ ((p_Mo_push S115 (gR S115 129 r117.toNatClampNeg)) ∧ ((∀ S121 : xS, S121 = (f_Mo_push S115 (gR S115 129 r117.toNatClampNeg)).2 → True))))))) ∧ (¬ o = 10 → (o = 11 → (p_Mo_pop S5) ∧ ((∀ S125 : xS, S125 = (f_Mo_pop S5 ).2 → (∀ r127 : Int32, r127 = ((f_Mo_pop S5).1) → (p_Mo_pop S125) ∧ ((∀ S130 : xS, S130 = (f_Mo_pop S125 ).2 → (∀ r132 : Int32, r132 = ((f_Mo_pop S125).1) → (vp_in r127 32) ∧ ((∀ S134 : xS, S134 = sR S130 129 (upd (gR S130 129) r127.toNatClampNeg r132) → True))))))))) ∧ (¬ o = 11 → (o = 12 → (p_Mo_branch S5 o k) ∧ ((∀ S139 : xS, S139 = (f_Mo_branch S5 o k).2 → True))) ∧ (¬ o = 12 → (o = 13 → (p_Mo_branch S5 o k) ∧ ((∀ S143 : xS, S143 = (f_Mo_branch S5 o k).2 → True))) ∧ (¬ o = 13 → (o = 14 → (p_Mo_branch S5 o k) ∧ ((∀ S147 : xS, S147 = (f_Mo_branch S5 o k).2 → True))) ∧ (¬ o = 14 → (o = 15 → (p_Mo_call S5 k) ∧ ((∀ S151 : xS, S151 = (f_Mo_call S5 k).2 → True))) ∧ (¬ o = 15 → (o = 16 → (p_Mo_giveBack S5) ∧ ((∀ S155 : xS, S155 = (f_Mo_giveBack S5 ).2 → True))) ∧ (¬ o = 16 → (o = 17 → (vp_in (((gI S5 124 14) - 3) - k) 24) ∧ ((p_Mo_push S5 (gR S5 130 (((gI S5 124 14) - 3) - k).toNatClampNeg)) ∧ ((∀ S160 : xS, S160 = (f_Mo_push S5 (gR S5 130 (((gI S5 124 14) - 3) - k).toNatClampNeg)).2 → True)))) ∧ (¬ o = 17 → (o = 18 → (∀ S163 : xS, S163 = sI S5 124 16 ((gI S5 124 16) + 1) → (vp_in ((gI S163 124 16) - 1) 40) ∧ ((p_Mo_push S163 (gR S163 126 ((gI S163 124 16) - 1).toNatClampNeg)) ∧ ((∀ S167 : xS, S167 = (f_Mo_push S163 (gR S163 126 ((gI S163 124 16) - 1).toNatClampNeg)).2 → True))))) ∧ (¬ o = 18 → (o = 19 → (p_Mo_draw S5 k) ∧ ((∀ S171 : xS, S171 = (f_Mo_draw S5 k).2 → (∀ r173 : Int32, r173 = ((f_Mo_draw S5 k).1) → (p_Mo_push S171 r173) ∧ ((∀ S176 : xS, S176 = (f_Mo_push S171 r173).2 → True)))))) ∧ (¬ o = 19 → (o = 20 → (p_Mo_push S5 (gI S5 124 14)) ∧ ((∀ S180 : xS, S180 = (f_Mo_push S5 (gI S5 124 14)).2 → True))) ∧ (¬ o = 20 → (p_Mo_pop S5) ∧ ((∀ S183 : xS, S183 = (f_Mo_pop S5 ).2 → (∀ r185 : Int32, r185 = ((f_Mo_pop S5).1) → (p_Mo_pop S183) ∧ ((∀ S188 : xS, S188 = (f_Mo_pop S183 ).2 → (∀ r190 : Int32, r190 = ((f_Mo_pop S183).1) → (p_Mo_reckon o r190 r185) ∧ ((∀ r193 : Int32, r193 = (f_Mo_reckon o r190 r185) → (p_Mo_push S188 r193) ∧ ((∀ S196 : xS, S196 = (f_Mo_push S188 r193).2 → True))))))))))))))))))))))))))))))
theorem obs_facts {cnt : Int32} {m : aM} {o w : Int32} (h : aObs2 cnt m o w = 0) : o ≤ 20 ∧ ¬ o = 0 ∧ aFew m o w = 0 ∧ (o = 10 ∨ o = 11 → ¬ f_RM_within (aTop m 0) 32 = 0) ∧ (o = 8 → ¬ aTop m 0 = 0) ∧ (o = 19 → 1 ≤ w) ∧ (o = 18 → m.1 4 < cnt) ∧ m.1 5 + tGrows o.toNatClampNeg ≤ 24 := by
  unfold aObs2 at h
  by_cases a1 : ¬ o ≤ 20
  · rw [if_pos a1] at h; exact absurd h (by decide)
  rw [if_neg a1] at h
  by_cases a2 : o = 0
  · rw [if_pos a2] at h; exact absurd h (by decide)
  rw [if_neg a2] at h
  by_cases a3 : ¬ aFew m o w = 0
  · rw [if_pos a3] at h; exact absurd h (by decide)
  rw [if_neg a3] at h
  by_cases a4 : (o = 10 ∨ o = 11) ∧ f_RM_within (aTop m 0) 32 = 0
  · rw [if_pos a4] at h; exact absurd h (by decide)
  rw [if_neg a4] at h
  by_cases a5 : (o = 8 ∧ aTop m 0 = 0) ∨ (o = 19 ∧ ¬ 1 ≤ w)
  · rw [if_pos a5] at h; exact absurd h (by decide)
  rw [if_neg a5] at h
  by_cases a6 : o = 18 ∧ ¬ m.1 4 < cnt
  · rw [if_pos a6] at h; exact absurd h (by decide)
  rw [if_neg a6] at h
  by_cases a7 : m.1 5 + tGrows o.toNatClampNeg ≤ 24
  · exact ⟨Decidable.not_not.mp a1, a2, Decidable.not_not.mp a3, fun z1 z2 => a4 ⟨z1, z2⟩, fun z1 z2 => a5 (Or.inl ⟨z1, z2⟩), fun z1 => Decidable.not_not.mp (fun z2 => a5 (Or.inr ⟨z1, z2⟩)), fun z1 => Decidable.not_not.mp (fun z2 => a6 ⟨z1, z2⟩), a7⟩
  · rw [if_neg a7] at h; exact absurd h (by decide)
theorem grow_nat {h : Nat} {g : Int32} {a : Nat} (e : g = Int32.ofNat a) (ha : a ≤ 2) (hh : h ≤ 24) (z : Int32.ofNat h + g ≤ 24) : h + a ≤ 24 := by
  rw [e, n32_add, show (24 : Int32) = Int32.ofNat 24 from rfl, n32_le (by omega) (by decide)] at z
  exact z
theorem few_nat {m : aM} {o w : Int32} {h a : Nat} (e : m.1 5 = Int32.ofNat h) (hh : h ≤ 24) (h16 : ¬ o = 16) (h17 : ¬ o = 17) (ea : tNeeds o.toNatClampNeg = Int32.ofNat a) (ha : a ≤ 2) (z : aFew m o w = 0) : a ≤ h := by
  unfold aFew at z
  rw [if_neg h16, if_neg h17, ea, e] at z
  by_cases q : Int32.ofNat a ≤ Int32.ofNat h
  · rw [n32_le (by omega) (by omega)] at q; exact q
  · rw [if_neg q] at z; exact absurd z (by decide)
set_option maxHeartbeats 4000000 in
theorem r_op {T0 T : xS} {m : aM} {h k n j : Nat} {o w : Int32} (R : rs T0 T m h k n) (hj : j < 32) (ej : o = Int32.ofNat j) (hobs : aObs2 (Int32.ofNat n) m o w = 0) : pp_chain T o w ∧ ∃ h' k', rs T0 (fp_chain T o w).2 (aOp (gR T 126) (Int32.ofNat n) o w m) h' k' n := by
  obtain ⟨a1, a2, a3, a4, a5, a6, a7, a8⟩ := obs_facts hobs
  have e := rs_e R
  have h24 := rs_24 R
  have eh := rs_h R
  rw [e] at a8
  have hj20 := (op_cases hj ej a1).1
  have hj0 : j ≠ 0 := fun z => a2 (by rw [ej, z]; rfl)
  have ev : ∀ c : Nat, c < 32 → ((o = Int32.ofNat c) ↔ j = c) := fun c hc => by rw [ej, n32_eq (by omega) (by omega)]
  have k1 : o = 1 → p_Mo_push T w ∧ rs T0 (f_Mo_push T w).2 (aPush m w) (h + 1) k n := fun z => by
    subst z; exact rs_push R (grow_nat (a := 1) rfl (by decide) h24 a8) w
  have k2 : o = 2 → rs T0 (sI T 124 17 ((gI T 124 17) - 1)) (aSet m 5 (m.1 5 - 1)) (h - 1) k n := fun z => by
    subst z
    have := few_nat e h24 (by decide) (by decide) (a := 1) rfl (by decide) a3
    rw [eh, e, show (1 : Int32) = Int32.ofNat 1 from rfl, n32_sub this]
    exact rs_5 R (by omega)
  have k3 : o = 3 → ((vp_in ((gI T 124 17) - 1) 24) ∧ ((p_Mo_push T (gR T 130 ((gI T 124 17) - 1).toNatClampNeg)) ∧ ((∀ S17 : xS, S17 = (f_Mo_push T (gR T 130 ((gI T 124 17) - 1).toNatClampNeg)).2 → True)))) ∧ rs T0 (f_Mo_push T (gR T 130 ((gI T 124 17) - 1).toNatClampNeg)).2 (aPush m (aTop m 0)) (h + 1) k n := fun z => by
    subst z
    have q0 := few_nat e h24 (by decide) (by decide) (a := 1) rfl (by decide) a3
    have q1 := grow_nat (a := 1) rfl (by decide) h24 a8
    have s0 := rs_stk R (d := 0) (by omega)
    rw [eh, show (1 : Int32) = Int32.ofNat 1 from rfl, n32_sub q0, n32_clamp (by omega)]
    rw [show h - 1 - 0 = h - 1 by omega] at s0
    rw [s0]
    obtain ⟨q2, q3⟩ := rs_push R (by omega) (aTop m 0)
    exact ⟨⟨vin_of (by omega) (by decide), q2, fun _ _ => trivial⟩, q3⟩
  have k4 := fun (z : o = 4) => rs_exch R (by subst z; exact few_nat e h24 (by decide) (by decide) (a := 2) rfl (by decide) a3)
  have kr := fun (z : 2 ≤ h) => rs_rep R z (o := o) a5
  have n5 : o = 5 → 2 ≤ h := fun z => by subst z; exact few_nat e h24 (by decide) (by decide) (a := 2) rfl (by decide) a3
  have n6 : o = 6 → 2 ≤ h := fun z => by subst z; exact few_nat e h24 (by decide) (by decide) (a := 2) rfl (by decide) a3
  have n7 : o = 7 → 2 ≤ h := fun z => by subst z; exact few_nat e h24 (by decide) (by decide) (a := 2) rfl (by decide) a3
  have n8 : o = 8 → 2 ≤ h := fun z => by subst z; exact few_nat e h24 (by decide) (by decide) (a := 2) rfl (by decide) a3
  have n9 : o = 9 → 2 ≤ h := fun z => by subst z; exact few_nat e h24 (by decide) (by decide) (a := 2) rfl (by decide) a3
  have k10 := fun (z : o = 10) => rs_load R (by subst z; exact few_nat e h24 (by decide) (by decide) (a := 1) rfl (by decide) a3) (a4 (Or.inl z))
  have k11 := fun (z : o = 11) => rs_sto R (by subst z; exact few_nat e h24 (by decide) (by decide) (a := 2) rfl (by decide) a3) (a4 (Or.inr z))
  have k12 := fun (z : o = 12) => rs_branch R (o := o) w (Or.inl z)
  have k13 := fun (z : o = 13) => rs_branch R (o := o) w (Or.inr ⟨Or.inl z, by subst z; exact few_nat e h24 (by decide) (by decide) (a := 1) rfl (by decide) a3⟩)
  have k14 := fun (z : o = 14) => rs_branch R (o := o) w (Or.inr ⟨Or.inr z, by subst z; exact few_nat e h24 (by decide) (by decide) (a := 1) rfl (by decide) a3⟩)
  have k15 := fun (z : o = 15) => rs_call R (by subst z; exact grow_nat (a := 2) rfl (by decide) h24 a8) w
  have k16 : o = 16 → p_Mo_giveBack T ∧ ∃ h', rs T0 (f_Mo_giveBack T).2 (aLeave m) h' k n := fun z => by
    subst z
    unfold aFew at a3
    rw [if_pos rfl, e] at a3
    by_cases q1 : m.1 2 < 2
    · rw [if_pos q1] at a3; exact absurd a3 (by decide)
    rw [if_neg q1] at a3
    by_cases q2 : m.1 2 < Int32.ofNat h
    · have q3 : ¬ m.1 2 < 0 := fun z => q1 (Int32.lt_trans z (by decide))
      obtain ⟨f, hf, ef⟩ := n32_of q3
      rw [ef, n32_lt hf (by omega)] at q2
      rw [ef, show (2 : Int32) = Int32.ofNat 2 from rfl, n32_lt hf (by decide)] at q1
      obtain ⟨x1, x2⟩ := rs_give R ef ⟨by omega, q2⟩
      exact ⟨x1, _, x2⟩
    · rw [if_neg q2] at a3; exact absurd a3 (by decide)
  have k17 := fun (z : o = 17) => rs_arg R (w := w) (by subst z; have := grow_nat (a := 1) rfl (by decide) h24 a8; omega) (by
    subst z
    unfold aFew at a3
    rw [if_neg (by decide), if_pos rfl] at a3
    intro q
    rw [if_pos q] at a3
    exact absurd a3 (by decide))
  have k18 := fun (z : o = 18) => rs_take R (by subst z; have := grow_nat (a := 1) rfl (by decide) h24 a8; omega) (by
    have := a7 z
    have r9 := R.1.2.2.2.2.2.2.2.2.2.1
    have r10 := R.1.2.2.2.2.2.2.2.2.2.2.1
    rw [R.1.2.2.2.2.2.2.2.2.1, n32_lt (by omega) (by omega)] at this
    exact this)
  have k19 := fun (z : o = 19) => rs_rand R (by subst z; have := grow_nat (a := 1) rfl (by decide) h24 a8; omega) (a6 z)
  have k20 : o = 20 → p_Mo_push T (gI T 124 14) ∧ rs T0 (f_Mo_push T (gI T 124 14)).2 (aPush m (m.1 2)) (h + 1) k n := fun z => by
    rw [R.1.2.2.1]
    subst z; exact rs_push R (grow_nat (a := 1) rfl (by decide) h24 a8) (m.1 2)
  refine ⟨?_, ?_⟩
  · unfold pp_chain
    refine ⟨fun z => ⟨(k1 z).1, fun _ _ => trivial⟩, fun y1 => ⟨fun z _ _ => trivial, fun y2 => ⟨fun z => (k3 z).1, fun y3 => ⟨fun z => (k4 z).1, fun y4 => ⟨fun z => (kr (n5 z)).1, fun y5 => ⟨fun z => (kr (n6 z)).1, fun y6 => ⟨fun z => (kr (n7 z)).1, fun y7 => ⟨fun z => (kr (n8 z)).1, fun y8 => ⟨fun z => (kr (n9 z)).1, fun y9 => ?_⟩⟩⟩⟩⟩⟩⟩⟩⟩
    refine ⟨fun z => (k10 z).1, fun y10 => ⟨fun z => (k11 z).1, fun y11 => ⟨fun z => ⟨(k12 z).1, fun _ _ => trivial⟩, fun y12 => ⟨fun z => ⟨(k13 z).1, fun _ _ => trivial⟩, fun y13 => ⟨fun z => ⟨(k14 z).1, fun _ _ => trivial⟩, fun y14 => ⟨fun z => ⟨(k15 z).1, fun _ _ => trivial⟩, fun y15 => ⟨fun z => ⟨(k16 z).1, fun _ _ => trivial⟩, fun y16 => ⟨fun z => (k17 z).1, fun y17 => ⟨fun z => (k18 z).1, fun y18 => ⟨fun z => (k19 z).1, fun y19 => ⟨fun z => ⟨(k20 z).1, fun _ _ => trivial⟩, fun y20 => ?_⟩⟩⟩⟩⟩⟩⟩⟩⟩⟩⟩
    exfalso
    have z1 : j ≠ 1 := fun q => y1 ((ev 1 (by decide)).mpr q)
    have z2 : j ≠ 2 := fun q => y2 ((ev 2 (by decide)).mpr q)
    have z3 : j ≠ 3 := fun q => y3 ((ev 3 (by decide)).mpr q)
    have z4 : j ≠ 4 := fun q => y4 ((ev 4 (by decide)).mpr q)
    have z5 : j ≠ 5 := fun q => y5 ((ev 5 (by decide)).mpr q)
    have z6 : j ≠ 6 := fun q => y6 ((ev 6 (by decide)).mpr q)
    have z7 : j ≠ 7 := fun q => y7 ((ev 7 (by decide)).mpr q)
    have z8 : j ≠ 8 := fun q => y8 ((ev 8 (by decide)).mpr q)
    have z9 : j ≠ 9 := fun q => y9 ((ev 9 (by decide)).mpr q)
    have z10 : j ≠ 10 := fun q => y10 ((ev 10 (by decide)).mpr q)
    have z11 : j ≠ 11 := fun q => y11 ((ev 11 (by decide)).mpr q)
    have z12 : j ≠ 12 := fun q => y12 ((ev 12 (by decide)).mpr q)
    have z13 : j ≠ 13 := fun q => y13 ((ev 13 (by decide)).mpr q)
    have z14 : j ≠ 14 := fun q => y14 ((ev 14 (by decide)).mpr q)
    have z15 : j ≠ 15 := fun q => y15 ((ev 15 (by decide)).mpr q)
    have z16 : j ≠ 16 := fun q => y16 ((ev 16 (by decide)).mpr q)
    have z17 : j ≠ 17 := fun q => y17 ((ev 17 (by decide)).mpr q)
    have z18 : j ≠ 18 := fun q => y18 ((ev 18 (by decide)).mpr q)
    have z19 : j ≠ 19 := fun q => y19 ((ev 19 (by decide)).mpr q)
    have z20 : j ≠ 20 := fun q => y20 ((ev 20 (by decide)).mpr q)
    omega
  · unfold fp_chain aOp
    simp only [px_let_id]
    by_cases z1 : o = 1
    · rw [if_pos z1, if_pos z1]; dsimp only; exact ⟨_, _, (k1 z1).2⟩
    rw [if_neg z1, if_neg z1]
    by_cases z2 : o = 2
    · rw [if_pos z2, if_pos z2]; dsimp only; exact ⟨_, _, k2 z2⟩
    rw [if_neg z2, if_neg z2]
    by_cases z3 : o = 3
    · rw [if_pos z3, if_pos z3]; dsimp only; exact ⟨_, _, (k3 z3).2⟩
    rw [if_neg z3, if_neg z3]
    by_cases z4 : o = 4
    · rw [if_pos z4, if_pos z4]; dsimp only; exact ⟨_, _, (k4 z4).2⟩
    rw [if_neg z4, if_neg z4]
    by_cases z5 : o = 5
    · rw [if_pos z5, if_pos z5]; dsimp only; exact ⟨_, _, (kr (n5 z5)).2⟩
    rw [if_neg z5, if_neg z5]
    by_cases z6 : o = 6
    · rw [if_pos z6, if_pos z6]; dsimp only; exact ⟨_, _, (kr (n6 z6)).2⟩
    rw [if_neg z6, if_neg z6]
    by_cases z7 : o = 7
    · rw [if_pos z7, if_pos z7]; dsimp only; exact ⟨_, _, (kr (n7 z7)).2⟩
    rw [if_neg z7, if_neg z7]
    by_cases z8 : o = 8
    · rw [if_pos z8, if_pos z8]; dsimp only; exact ⟨_, _, (kr (n8 z8)).2⟩
    rw [if_neg z8, if_neg z8]
    by_cases z9 : o = 9
    · rw [if_pos z9, if_pos z9]; dsimp only; exact ⟨_, _, (kr (n9 z9)).2⟩
    rw [if_neg z9, if_neg z9]
    by_cases z10 : o = 10
    · rw [if_pos z10, if_pos z10]; dsimp only; exact ⟨_, _, (k10 z10).2⟩
    rw [if_neg z10, if_neg z10]
    by_cases z11 : o = 11
    · rw [if_pos z11, if_pos z11]; dsimp only; exact ⟨_, _, (k11 z11).2⟩
    rw [if_neg z11, if_neg z11]
    by_cases z12 : o = 12
    · rw [if_pos z12, if_pos z12]; dsimp only
      obtain ⟨h1, q⟩ := (k12 z12).2
      rw [if_pos z12] at q
      exact ⟨h1, _, q⟩
    rw [if_neg z12, if_neg z12]
    by_cases z13 : o = 13
    · rw [if_pos z13, if_pos z13]; dsimp only
      obtain ⟨h1, q⟩ := (k13 z13).2
      rw [if_neg z12, if_pos z13] at q
      exact ⟨h1, _, q⟩
    rw [if_neg z13, if_neg z13]
    by_cases z14 : o = 14
    · rw [if_pos z14, if_pos z14]; dsimp only
      obtain ⟨h1, q⟩ := (k14 z14).2
      rw [if_neg z12, if_neg z13] at q
      exact ⟨h1, _, q⟩
    rw [if_neg z14, if_neg z14]
    by_cases z15 : o = 15
    · rw [if_pos z15, if_pos z15]; dsimp only; exact ⟨_, _, (k15 z15).2⟩
    rw [if_neg z15, if_neg z15]
    by_cases z16 : o = 16
    · rw [if_pos z16, if_pos z16]; dsimp only; exact (k16 z16).2.elim (fun h1 h2 => ⟨h1, _, h2⟩)
    rw [if_neg z16, if_neg z16]
    by_cases z17 : o = 17
    · rw [if_pos z17, if_pos z17]; dsimp only; exact ⟨_, _, (k17 z17).2⟩
    rw [if_neg z17, if_neg z17]
    by_cases z18 : o = 18
    · rw [if_pos z18, if_pos z18]; dsimp only; exact ⟨_, _, (k18 z18).2⟩
    rw [if_neg z18, if_neg z18]
    by_cases z19 : o = 19
    · rw [if_pos z19, if_pos z19]; dsimp only; exact ⟨_, _, (k19 z19).2⟩
    rw [if_neg z19, if_neg z19]
    by_cases z20 : o = 20
    · rw [if_pos z20, if_pos z20]; dsimp only; exact ⟨_, _, (k20 z20).2⟩
    rw [if_neg z20, if_neg z20]
    exfalso
    have x1 : j ≠ 1 := fun q => z1 ((ev 1 (by decide)).mpr q)
    have x2 : j ≠ 2 := fun q => z2 ((ev 2 (by decide)).mpr q)
    have x3 : j ≠ 3 := fun q => z3 ((ev 3 (by decide)).mpr q)
    have x4 : j ≠ 4 := fun q => z4 ((ev 4 (by decide)).mpr q)
    have x5 : j ≠ 5 := fun q => z5 ((ev 5 (by decide)).mpr q)
    have x6 : j ≠ 6 := fun q => z6 ((ev 6 (by decide)).mpr q)
    have x7 : j ≠ 7 := fun q => z7 ((ev 7 (by decide)).mpr q)
    have x8 : j ≠ 8 := fun q => z8 ((ev 8 (by decide)).mpr q)
    have x9 : j ≠ 9 := fun q => z9 ((ev 9 (by decide)).mpr q)
    have x10 : j ≠ 10 := fun q => z10 ((ev 10 (by decide)).mpr q)
    have x11 : j ≠ 11 := fun q => z11 ((ev 11 (by decide)).mpr q)
    have x12 : j ≠ 12 := fun q => z12 ((ev 12 (by decide)).mpr q)
    have x13 : j ≠ 13 := fun q => z13 ((ev 13 (by decide)).mpr q)
    have x14 : j ≠ 14 := fun q => z14 ((ev 14 (by decide)).mpr q)
    have x15 : j ≠ 15 := fun q => z15 ((ev 15 (by decide)).mpr q)
    have x16 : j ≠ 16 := fun q => z16 ((ev 16 (by decide)).mpr q)
    have x17 : j ≠ 17 := fun q => z17 ((ev 17 (by decide)).mpr q)
    have x18 : j ≠ 18 := fun q => z18 ((ev 18 (by decide)).mpr q)
    have x19 : j ≠ 19 := fun q => z19 ((ev 19 (by decide)).mpr q)
    have x20 : j ≠ 20 := fun q => z20 ((ev 20 (by decide)).mpr q)
    omega
theorem r_step {T : xS} {m : aM} {h k n : Nat} (R : rv T m h k n) (hobs : aObs (gR T 125) (Int32.ofNat n) m = 0) : p_Mo_perform T ∧ ∃ h' k', rs T (f_Mo_perform T).2 (aStep (gR T 125) (gR T 126) (Int32.ofNat n) m) h' k' n := by
  have r1 := R.2.1
  have hpc : ¬ f_RM_within (m.1 1) 64 = 0 := fun z => by
    unfold aObs at hobs
    rw [if_pos z] at hobs
    exact absurd hobs (by decide)
  have hob2 : aObs2 (Int32.ofNat n) (aBegin m) (gR T 125 (m.1 1).toNatClampNeg &&& 31) (gR T 125 (m.1 1).toNatClampNeg >>> ((5 : Int32) &&& 31)) = 0 := by
    unfold aObs at hobs
    rw [if_neg hpc] at hobs
    exact hobs
  obtain ⟨c, hc, ec⟩ := wi_get (n := 64) (by decide) hpc
  have hv : vp_in (gI T 124 13) 64 := by rw [r1, ec]; exact vin_of hc (by decide)
  have R0 : rs T T m h k n := ⟨R, rF_rf⟩
  have R3 := rs_1 R0 (m.1 1 + 1)
  have R5 := rs_0 R3 (m.1 0 + 1)
  have R6 := rs_6 R5 (-1)
  have hm : aSet (aSet (aSet m 1 (m.1 1 + 1)) 0 (m.1 0 + 1)) 6 (-1) = aBegin m := by
    refine Prod.ext ?_ rfl
    funext j
    simp only [aBegin, aSet, upd]
    by_cases j0 : j = 0
    · simp [j0]
    · by_cases j1 : j = 1
      · simp [j1]
      · by_cases j6 : j = 6 <;> simp [j0, j1, j6]
  rw [hm] at R6
  have hT : gI (sI T 124 13 (m.1 1 + 1)) 124 12 = m.1 0 := by rw [gI_sI, if_neg (by decide)]; exact R.1
  obtain ⟨j, hj, ej⟩ := and31 (gR T 125 (m.1 1).toNatClampNeg)
  obtain ⟨q1, h', k', q2⟩ := r_op R6 hj ej hob2
  refine ⟨⟨hv, hv, fun S3 c3 S5 c5 => ?_⟩, h', k', ?_⟩
  · subst c3
    rw [r1, hT] at c5
    subst c5
    rw [r1]
    exact q1
  · have hf : f_Mo_perform T = fp_chain (sI (sI T 124 13 (m.1 1 + 1)) 124 12 (m.1 0 + 1)) (gR T 125 (m.1 1).toNatClampNeg &&& 31) (gR T 125 (m.1 1).toNatClampNeg >>> ((5 : Int32) &&& 31)) := by
      rw [← hT, ← r1]
      rfl
    rw [hf]
    unfold aStep
    rw [if_neg hpc]
    exact q2
