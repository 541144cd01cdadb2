/-! ways of both, and the two loops -/
section TRV
variable {S T : xS} {tr : Nat → aM} {t g n u q z e h k : Nat}
theorem trav (L : RL S T tr t g n u q z e h k) {to : Nat} (hto : to ≤ g) (hne : to ≠ t) : p_RM_travel S (Int32.ofNat to) ∧ p_Mo_account T (Int32.ofNat to) ∧
    (∀ i, (i < 4 ∨ 104 ≤ i) → gR (f_RM_travel S (Int32.ofNat to)).2 i = gR S i) ∧ vw (f_RM_travel S (Int32.ofNat to)).2 4 = tr to ∧
    RM (f_Mo_account T (Int32.ofNat to)).2 tr g ∧ aF T (f_Mo_account T (Int32.ofNat to)).2 ∧ rv (f_Mo_account T (Int32.ofNat to)).2 (tr t) h k n ∧
    ∃ u' q', ∀ (T3 : xS) (h' k' : Nat), rv T3 (tr to) h' k' n → (∀ f, (f < 12 ∨ 17 < f) → gI T3 124 f = gI (f_Mo_account T (Int32.ofNat to)).2 124 f) → (∀ i, i ≠ 129 → i ≠ 130 → i ≠ 131 → gR T3 i = gR (f_Mo_account T (Int32.ofNat to)).2 i) → RL (f_RM_travel S (Int32.ofNat to)).2 T3 tr to g n u' q' z e h' k' := by
  obtain ⟨⟨l1, l2, l3, l4, l5, l6, l7, l8, l9, l10, l11, l12, l13, l14⟩, C, P, rk, rm, R, a1, a2, a3, a4, a5⟩ := L
  obtain ⟨c1, ⟨q', c2⟩, c3, c4⟩ := ctravel C P l7 l5 a4 a5 a2 a3 l10 a1 hto
  have htT : gI T 124 12 = Int32.ofNat t := R.1.trans (a5 t a1).1
  have hu32 := C.2.2.2.2.1
  obtain ⟨d1, d2, d3, d4⟩ := racc rk ⟨P.2.2.2.2.1, P.2.2.2.2.2.1⟩ P.2.2.2.1 (Nat.lt_of_le_of_lt hto a3) (by omega) htT (by omega) l12 hu32 hne
  generalize (f_RM_travel S (Int32.ofNat to)).2 = S' at *
  generalize (f_Mo_account T (Int32.ofNat to)).2 = T2 at *
  refine ⟨c1, d1, c4.2.2, c2.1, RM_rF rm (d4.2 132) (d4.2 133), d4, rv_same R (fun f h1 h2 => d4.1 f (by omega) (by omega)) (d4.2 129) (d4.2 130), (acc t u e to).1, q', fun T3 h' k' R3 f3 g3 => ?_⟩
  have P' : CP S' tr z e := by
    obtain ⟨p1, p2, p3, p4, p5, p6, p7, p8⟩ := P
    refine ⟨by rw [c4.2.1 104 1 (Or.inr (by decide)) (Or.inl (by decide))]; exact p1, by rw [c4.2.1 104 2 (Or.inr (by decide)) (Or.inl (by decide))]; exact p2, p3, p4, p5, p6, fun i hi => ?_, fun i j hi hj hij => ?_⟩
    · rw [← p7 i hi, c4.1]
      refine Prod.ext ?_ ?_
      · funext j
        simp only [vw]
        rw [c4.2.1 _ j (Or.inr (by unfold iS; omega)) (Or.inl (by unfold iS; omega))]
      · funext j
        simp only [vw]
        rw [c4.2.2 _ (Or.inr (by unfold iS; omega))]
    · rw [c4.1] at hij; exact p8 i j hi hj hij
  refine ⟨⟨?_, ?_, ?_, ?_, ?_, ?_, l7, ?_, ?_, l10, ?_, ?_, ?_, ?_⟩, c2, P', ⟨?_, ?_, ?_⟩, RM_rF rm ?_ ?_, R3, hto, a2, a3, ?_, a5⟩
  · rw [g3 125 (by decide) (by decide) (by decide), d4.2, c4.2.2 2 (Or.inl (by decide))]; exact l1
  · rw [g3 126 (by decide) (by decide) (by decide), d4.2, c4.2.2 3 (Or.inl (by decide))]; exact l2
  · rw [g3 127 (by decide) (by decide) (by decide), d4.2, c4.2.2 122 (Or.inr (by decide))]; exact l3
  · rw [g3 128 (by decide) (by decide) (by decide), d4.2, c4.2.2 123 (Or.inr (by decide))]; exact l4
  · rw [c4.2.1 1 4 (Or.inl (by decide)) (Or.inl (by decide))]; exact l5
  · rw [f3 11 (Or.inl (by decide)), d4.1 11 (by decide) (by decide)]; exact l6
  · rw [c4.2.1 0 4 (Or.inl (by decide)) (Or.inr (by decide))]; exact l8
  · rw [f3 18 (Or.inr (by decide)), d4.1 18 (by decide) (by decide)]; exact l9
  · rw [f3 20 (Or.inr (by decide)), d3, c3, l11]
  · rw [f3 19 (Or.inr (by decide))]; exact d2
  · rw [c4.2.2 122 (Or.inr (by decide))]; exact l13
  · rw [c4.2.2 123 (Or.inr (by decide))]; exact l14
  · rw [f3 22 (Or.inr (by decide)), d4.1 22 (by decide) (by decide)]; exact rk.1
  · rw [f3 21 (Or.inr (by decide)), d4.1 21 (by decide) (by decide)]; exact rk.2.1
  · rw [g3 134 (by decide) (by decide) (by decide), d4.2]; exact rk.2.2
  · rw [g3 132 (by decide) (by decide) (by decide), d4.2]
  · rw [g3 133 (by decide) (by decide) (by decide), d4.2]
  · rw [c4.2.2 2 (Or.inl (by decide)), c4.2.2 3 (Or.inl (by decide))]; exact a4
/-- seek to the present time changes nothing that counts -/
theorem seek_same (L : RL S T tr t g n u q z e h k) : p_Mo_seek T (Int32.ofNat t) ∧ gI (f_Mo_seek T (Int32.ofNat t)).2 124 10 = gI T 124 10 ∧ ∃ h' k', RL S (f_Mo_seek T (Int32.ofNat t)).2 tr t g n u q z e h' k' := by
  obtain ⟨⟨l1, l2, l3, l4, l5, l6, l7, l8, l9, l10, l11, l12, l13, l14⟩, C, P, rk, rm, R, a1, a2, a3, a4, a5⟩ := L
  obtain ⟨s1, h', k', s2, s3⟩ := rseek (u := t) R (by rw [l1, l2]; exact a4) a5 rm l10 a1 a1
  generalize (f_Mo_seek T (Int32.ofNat t)).2 = T3 at *
  refine ⟨s1, s3.1 10 (Or.inl (by decide)), h', k', ⟨by rw [s3.2 125 (by decide) (by decide)]; exact l1, by rw [s3.2 126 (by decide) (by decide)]; exact l2, by rw [s3.2 127 (by decide) (by decide)]; exact l3, by rw [s3.2 128 (by decide) (by decide)]; exact l4, l5, by rw [s3.1 11 (Or.inl (by decide))]; exact l6, l7, l8, by rw [s3.1 18 (Or.inr (by decide))]; exact l9, l10, by rw [s3.1 20 (Or.inr (by decide))]; exact l11, by rw [s3.1 19 (Or.inr (by decide))]; exact l12, l13, l14⟩, C, P, ⟨by rw [s3.1 22 (Or.inr (by decide))]; exact rk.1, by rw [s3.1 21 (Or.inr (by decide))]; exact rk.2.1, by rw [s3.2 134 (by decide) (by decide)]; exact rk.2.2⟩, RM_rF rm (s3.2 132 (by decide) (by decide)) (s3.2 133 (by decide) (by decide)), s2, a1, a2, a3, a4, a5⟩
/-- a whole way of both -/
theorem goto (L : RL S T tr t g n u q z e h k) {to : Nat} (hto : to ≤ g) (hne : to ≠ t) : p_RM_travel S (Int32.ofNat to) ∧ p_Mo_account T (Int32.ofNat to) ∧ p_Mo_seek (f_Mo_account T (Int32.ofNat to)).2 (Int32.ofNat to) ∧ gI (f_Mo_seek (f_Mo_account T (Int32.ofNat to)).2 (Int32.ofNat to)).2 124 10 = gI T 124 10 ∧ ∃ u' q' h' k', RL (f_RM_travel S (Int32.ofNat to)).2 (f_Mo_seek (f_Mo_account T (Int32.ofNat to)).2 (Int32.ofNat to)).2 tr to g n u' q' z e h' k' := by
  obtain ⟨t1, t2, t3, t4, t5, t6, t7, u', q', t8⟩ := trav L hto hne
  obtain ⟨⟨l1, l2, l3, l4, l5, l6, l7, l8, l9, l10, l11, l12, l13, l14⟩, C, P, rk, rm, R, a1, a2, a3, a4, a5⟩ := L
  obtain ⟨s1, h', k', s2, s3⟩ := rseek (u := to) t7 (by rw [t6.2, t6.2, l1, l2]; exact a4) a5 t5 l10 a1 hto
  exact ⟨t1, t2, s1, (s3.1 10 (Or.inl (by decide))).trans (t6.1 10 (by decide) (by decide)), u', q', h', k', t8 _ h' k' s2 s3.1 (fun i i1 i2 _ => s3.2 i i1 i2)⟩
/-- one back, and whether it stops there -/
theorem back1 (L : RL S T tr t g n u q z e h k) (ht : 1 ≤ t) : p_RM_travel S (Int32.ofNat (t - 1)) ∧ p_Mo_backOne T ∧ p_RM_stopHere (f_RM_travel S (Int32.ofNat (t - 1))).2 ∧ gI (f_Mo_backOne T).2 124 10 = gI T 124 10 ∧ (∃ u' q' h' k', RL (f_RM_travel S (Int32.ofNat (t - 1))).2 (f_Mo_backOne T).2 tr (t - 1) g n u' q' z e h' k') ∧ (t = 1 → (f_Mo_backOne T).1 = 12 ∧ f_RM_stopHere (f_RM_travel S (Int32.ofNat (t - 1))).2 = 0) ∧ (t ≠ 1 → (f_Mo_backOne T).1 = f_RM_stopHere (f_RM_travel S (Int32.ofNat (t - 1))).2) := by
  have L0 := L
  have htg : t ≤ g := L.2.2.2.2.2.2.1
  obtain ⟨t1, t2, t3, t4, t5, t6, t7, u', q', t8⟩ := trav L (to := t - 1) (by omega) (by omega)
  obtain ⟨⟨l1, l2, l3, l4, l5, l6, l7, l8, l9, l10, l11, l12, l13, l14⟩, C, P, rk, rm, R, a1, a2, a3, a4, a5⟩ := L
  have htT : gI T 124 12 = Int32.ofNat t := R.1.trans (a5 t a1).1
  have e1 : gI T 124 12 - 1 = Int32.ofNat (t - 1) := by rw [htT]; exact n32_sub (b := 1) ht
  have hK2 : trk (gR (f_Mo_account T (Int32.ofNat (t - 1))).2 125) (gR (f_Mo_account T (Int32.ofNat (t - 1))).2 126) n g tr := by rw [t6.2, t6.2, l1, l2]; exact a4
  unfold p_Mo_backOne f_Mo_backOne
  simp only [px_let_id]
  rw [e1]
  generalize hT2 : (f_Mo_account T (Int32.ofNat (t - 1))).2 = T2 at *
  generalize hS' : (f_RM_travel S (Int32.ofNat (t - 1))).2 = S' at *
  have hz0 : (Int32.ofNat (t - 1) = 0) ↔ t = 1 := by rw [show (0 : Int32) = Int32.ofNat 0 from rfl, n32_eq (by omega) (by decide)]; omega
  have h10 : gI T2 124 10 = gI T 124 10 := t6.1 10 (by decide) (by decide)
  by_cases h1 : t = 1
  · subst h1
    rw [if_pos (hz0.mpr rfl)]
    obtain ⟨s1, h', k', s2, s3⟩ := rseek (u := 0) t7 hK2 a5 t5 l10 a1 (by omega)
    have hst : f_RM_stopHere S' = 0 ∧ p_RM_stopHere S' := by
      have hx : gI S' 4 0 = 0 := by rw [vw_reg t4 (by decide)]; exact (a5 0 (by omega)).1
      unfold f_RM_stopHere p_RM_stopHere
      rw [if_pos hx]
      exact ⟨rfl, fun _ => trivial, fun w => absurd hx w⟩
    refine ⟨t1, ⟨t2, fun S2 q2 => ⟨fun _ => ⟨by subst q2; exact s1, fun _ _ => trivial⟩, fun w => absurd (hz0.mpr rfl) w⟩⟩, hst.2, (s3.1 10 (Or.inl (by decide))).trans h10, ⟨u', q', h', k', t8 _ h' k' s2 s3.1 (fun i i1 i2 _ => s3.2 i i1 i2)⟩, fun _ => ⟨rfl, hst.1⟩, fun w => absurd rfl w⟩
  · have hz1 : ¬ Int32.ofNat (t - 1) = 0 := fun w => h1 (hz0.mp w)
    rw [if_neg hz1]
    have e2 : Int32.ofNat (t - 1) - 1 = Int32.ofNat (t - 2) := by
      rw [show (1 : Int32) = Int32.ofNat 1 from rfl, n32_sub (by omega)]
      congr 1
    rw [e2]
    obtain ⟨s1, h', k', s2, s3⟩ := rseek (u := t - 2) t7 hK2 a5 t5 l10 a1 (by omega)
    generalize hT9 : (f_Mo_seek T2 (Int32.ofNat (t - 2))).2 = T9 at *
    obtain ⟨m1, m2, m3, m4⟩ := rrem T9
    generalize hT12 : (f_Mo_remember T9).2 = T12 at *
    have R12 : rv T12 (tr (t - 2)) h' k' n := rv_same s2 (fun f _ _ => m4 124 f) (m3 129 (by decide)) (m3 130 (by decide))
    obtain ⟨s4, h2, k2, s5, s6⟩ := rseek (T := T12) (t := t - 2) (u := t - 1) R12 (by rw [m3 125 (by decide), m3 126 (by decide), s3.2 125 (by decide) (by decide), s3.2 126 (by decide) (by decide)]; exact hK2) a5 (RM_rF t5 (by rw [m3 132 (by decide)]; exact s3.2 132 (by decide) (by decide)) (by rw [m3 133 (by decide)]; exact s3.2 133 (by decide) (by decide))) l10 (by omega) (by omega)
    generalize hT15 : (f_Mo_seek T12 (Int32.ofNat (t - 1))).2 = T15 at *
    have fr1 : ∀ f, (f < 12 ∨ 17 < f) → gI T15 124 f = gI T2 124 f := fun f hf => (s6.1 f hf).trans ((m4 124 f).trans (s3.1 f hf))
    have fr2 : ∀ i, i ≠ 129 → i ≠ 130 → i ≠ 131 → gR T15 i = gR T2 i := fun i i1 i2 i3 => (s6.2 i i1 i2).trans ((m3 i i3).trans (s3.2 i i1 i2))
    have Lf := t8 T15 h2 k2 s5 fr1 fr2
    have hchg : chg (tr (t - 2)) (tr (t - 1)) := by
      obtain ⟨k1, k2'⟩ := a4 (t - 2) (by omega)
      obtain ⟨hh, hhb, ehh⟩ := (a5 (t - 2) (by omega)).2.1
      have := (step_chg (inp := gR S 3) ehh hhb k1).2
      rw [← k2', show t - 2 + 1 = t - 1 by omega] at this
      exact this
    obtain ⟨st1, st2, st3⟩ := stops t4 s5 (by rw [fr2 127 (by decide) (by decide) (by decide), t6.2, t3 122 (Or.inr (by decide))]; exact l3) (by rw [fr2 128 (by decide) (by decide) (by decide), t6.2, t3 123 (Or.inr (by decide))]; exact l4) hchg (fun c hc => by
      rw [s6.2 131 (by decide) (by decide), m2 c hc]
      exact s2.2.2.2.2.2.2.2.2.2.2.2.1 c hc) (a5 (t - 1) (by omega)).1 ⟨by omega, by omega⟩
    refine ⟨t1, ⟨t2, fun S2 q2 => ⟨fun w => absurd w hz1, fun _ => ?_⟩⟩, st1, (fr1 10 (Or.inl (by decide))).trans h10, ⟨u', q', h2, k2, Lf⟩, fun w => absurd w h1, fun _ => st3.symm⟩
    subst q2
    refine ⟨s1, fun S9 q9 => ?_⟩
    rw [hT9] at q9
    subst q9
    refine ⟨m1, fun S12 q12 => ?_⟩
    rw [hT12] at q12
    subst q12
    refine ⟨s4, fun S15 q15 => ?_⟩
    rw [hT15] at q15
    subst q15
    exact ⟨st2, fun _ _ => trivial⟩
end TRV
