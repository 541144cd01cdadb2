/-! one step of both -/
section ADV
variable {S T : xS} {tr : Nat → aM} {t g n u q z e h k : Nat}
set_option maxHeartbeats 4000000 in
theorem adv (L : RL S T tr t g n u q z e h k) : p_RM_advance S ∧ p_Mo_advance T ∧ (f_RM_advance S).1 = (f_Mo_advance T).1 ∧ gR (f_Mo_advance T).2 131 = gR T 131 ∧ gI (f_Mo_advance T).2 124 10 = gI T 124 10 ∧ ∃ (tr' : Nat → aM) (t' g' u' q' z' e' h' k' : Nat), RL (f_RM_advance S).2 (f_Mo_advance T).2 tr' t' g' n u' q' z' e' h' k' ∧ ((f_RM_advance S).1 = 0 → t' = t + 1 ∧ tr' t = tr t) := by
  have L0 := L
  obtain ⟨⟨l1, l2, l3, l4, l5, l6, l7, l8, l9, l10, l11, l12, l13, l14⟩, C, P, rk, rm, R, a1, a2, a3, a4, a5⟩ := L
  have ho1 := c_obs C.1
  have ho2 := r_obs R l6
  rw [l5] at ho1
  rw [l1] at ho2
  have htS : gI S 4 0 = Int32.ofNat t := by rw [vw_reg C.1 (by decide)]; exact (a5 t a1).1
  have htT : gI T 124 12 = Int32.ofNat t := R.1.trans (a5 t a1).1
  unfold p_RM_advance p_Mo_advance f_RM_advance f_Mo_advance
  simp only [px_let_id]
  by_cases hz : ¬ aObs (gR S 2) (Int32.ofNat n) (tr t) = 0
  · rw [ho1.1, ho2.1, if_neg hz, if_neg hz]
    exact ⟨⟨ho1.2, fun r2 q2 => ⟨fun w => absurd (q2.symm.trans w) hz, fun _ => trivial⟩⟩, ⟨ho2.2, fun r2 q2 => ⟨fun w => absurd (q2.symm.trans w) hz, fun _ => trivial⟩⟩, rfl, rfl, rfl, tr, t, g, u, q, z, e, h, k, L0, fun w => absurd w hz⟩
  have hob : aObs (gR S 2) (Int32.ofNat n) (tr t) = 0 := Decidable.not_not.mp hz
  rw [ho1.1, ho2.1, if_pos hob, if_pos hob]
  have h3S : (gI S 4 0 < 3000) ↔ t < 3000 := by rw [htS]; exact n32_lt (b := 3000) (by omega) (by decide)
  have h3T : (gI T 124 12 = 3000) ↔ t = 3000 := by rw [htT]; exact n32_eq (b := 3000) (by omega) (by decide)
  by_cases h3 : t = 3000
  · have x1 : ¬ gI S 4 0 < 3000 := fun w => by rw [h3S] at w; omega
    rw [if_neg x1, if_pos (h3T.mpr h3)]
    exact ⟨⟨ho1.2, fun r2 q2 => ⟨fun _ => ⟨fun w => absurd w x1, fun _ => trivial⟩, fun _ => trivial⟩⟩, ⟨ho2.2, fun r2 q2 => ⟨fun _ => ⟨fun _ => trivial, fun w => absurd (h3T.mpr h3) w⟩, fun _ => trivial⟩⟩, rfl, rfl, rfl, tr, t, g, u, q, z, e, h, k, L0, fun w => absurd (show (8 : Int32) = 0 from w) (by decide)⟩
  have h3l : t < 3000 := by omega
  have x2 : ¬ gI T 124 12 = 3000 := fun w => h3 (h3T.mp w)
  rw [if_pos (h3S.mpr h3l), if_neg x2]
  -- the trace, one longer
  let tr' : Nat → aM := fun i => if i ≤ g then tr i else aStep (gR S 2) (gR S 3) (Int32.ofNat n) (tr g)
  have ext : ∀ i, i ≤ g → tr' i = tr i := fun i hi => if_pos hi
  have hst : tr' (t + 1) = aStep (gR S 2) (gR S 3) (Int32.ofNat n) (tr' t) := by
    rw [ext t a1]
    by_cases htg : t < g
    · rw [ext (t + 1) (by omega)]; exact (a4 t htg).2
    · have : t = g := by omega
      subst this
      exact if_neg (by omega)
  clear_value tr'
  obtain ⟨-, C', P', -, rm', R', -, -, -, a4', a5'⟩ := RL_ext L0 ext
  have hob' : aObs (gR S 2) (Int32.ofNat n) (tr' t) = 0 := by rw [ext t a1]; exact hob
  obtain ⟨p1, C7, O7⟩ := ci_step C' l7 l5 hob' hst
  obtain ⟨p2, h', k', R7, F7⟩ := r_step R' (by rw [l1]; exact hob')
  rw [l1, l2, ← hst] at R7
  have hh7 := R7.2.2.2.2.2.2.1
  have hh7b := R7.2.2.2.2.2.2.2.1
  have hk7 := R7.2.2.2.2.2.2.2.2.1
  have hk7b := R7.2.2.2.2.2.2.2.2.2.1
  obtain ⟨hh, hhb, ehh⟩ := (a5' t a1).2.1
  have htime : (tr' (t + 1)).1 0 = Int32.ofNat (t + 1) := by
    have := (step_chg (inp := gR S 3) ehh hhb hob').1
    rw [← hst] at this
    rw [this, (a5' t a1).1]
    exact n32_add t 1
  have hgood : good n (t + 1) (tr' (t + 1)) := ⟨htime, ⟨h', hh7b, hh7⟩, ⟨k', hk7b, hk7⟩, ⟨(f_Ma_perform S).2, 4, C7.1.symm⟩⟩
  generalize hS7 : (f_Ma_perform S).2 = S7 at *
  generalize hT7 : (f_Mo_perform T).2 = T7 at *
  have ht7 : gI S7 4 0 = Int32.ofNat (t + 1) := by rw [vw_reg C7.1 (by decide)]; exact htime
  have hT7t : gI T7 124 12 = Int32.ofNat (t + 1) := R7.1.trans htime
  have g7 : gI S7 0 4 = Int32.ofNat g := by rw [O7.2.1 0 4 (Or.inl (by decide))]; exact l8
  have u7 : gI T7 124 19 = Int32.ofNat u := by rw [F7.1 19 (Or.inr (by decide))]; exact l12
  have gT7 : gI T7 124 18 = Int32.ofNat g := by rw [F7.1 18 (Or.inr (by decide))]; exact l9
  have hcS : (gI S7 4 0 ≤ gI S7 0 4) ↔ t + 1 ≤ g := by rw [ht7, g7]; exact n32_le (by omega) (by omega)
  have hu32 := C.2.2.2.2.1
  have hX : ∀ x : Int32, x = Int32.ofNat (min (u + 1) 32) → ((gI (sI T7 124 19 x) 124 12 ≤ gI (sI T7 124 19 x) 124 18) ↔ t + 1 ≤ g) := fun x _ => by
    rw [gI_sI, if_neg (by decide), gI_sI, if_neg (by decide), hT7t, gT7]; exact n32_le (by omega) (by omega)
  have hxs : (32 ≤ gI T7 124 19 ∧ (32 : Int32) = Int32.ofNat (min (u + 1) 32)) ∨ (¬ 32 ≤ gI T7 124 19 ∧ gI T7 124 19 + 1 = Int32.ofNat (min (u + 1) 32)) := by
    by_cases w : u = 32
    · left
      rw [u7, w]
      exact ⟨by decide, rfl⟩
    · right
      rw [u7]
      refine ⟨fun y => ?_, ?_⟩
      · rw [show (32 : Int32) = Int32.ofNat 32 from rfl, n32_le (by decide) (by omega)] at y; omega
      · rw [show (1 : Int32) = Int32.ofNat 1 from rfl, n32_add]
        congr 1
        omega
  have hbad : ∀ (X : xS), X = sI T7 124 19 (Int32.ofNat (min (u + 1) 32)) → rv X (tr' (t + 1)) h' k' n ∧ RK X z e ∧ RM X tr' g ∧ gR X 125 = gR S 2 ∧ gR X 126 = gR S 3 ∧ gR X 127 = gR S 122 ∧ gR X 128 = gR S 123 ∧ gI X 124 11 = Int32.ofNat n ∧ gI X 124 12 = Int32.ofNat (t + 1) ∧ gI X 124 18 = Int32.ofNat g ∧ gI X 124 19 = Int32.ofNat (min (u + 1) 32) ∧ gI X 124 20 = gI S 0 5 ∧ gR X 131 = gR T 131 ∧ gI X 124 10 = gI T 124 10 := fun X hX9 => by
    subst hX9
    refine ⟨rv_same R7 (fun f h1 h2 => by rw [gI_sI, if_neg (by omega)]) rfl rfl, ⟨?_, ?_, ?_⟩, RM_rF rm' ?_ ?_, ?_, ?_, ?_, ?_, ?_, ?_, ?_, ?_, ?_, ?_, ?_⟩
    · rw [gI_sI, if_neg (by decide), F7.1 22 (Or.inr (by decide))]; exact rk.1
    · rw [gI_sI, if_neg (by decide), F7.1 21 (Or.inr (by decide))]; exact rk.2.1
    · rw [gR_sI, F7.2 134 (by decide) (by decide)]; exact rk.2.2
    · rw [gR_sI]; exact F7.2 132 (by decide) (by decide)
    · rw [gR_sI]; exact F7.2 133 (by decide) (by decide)
    · rw [gR_sI, F7.2 125 (by decide) (by decide)]; exact l1
    · rw [gR_sI, F7.2 126 (by decide) (by decide)]; exact l2
    · rw [gR_sI, F7.2 127 (by decide) (by decide)]; exact l3
    · rw [gR_sI, F7.2 128 (by decide) (by decide)]; exact l4
    · rw [gI_sI, if_neg (by decide), F7.1 11 (Or.inl (by decide))]; exact l6
    · rw [gI_sI, if_neg (by decide)]; exact hT7t
    · rw [gI_sI, if_neg (by decide)]; exact gT7
    · rw [gI_sI, if_pos ⟨rfl, rfl⟩]
    · rw [gI_sI, if_neg (by decide), F7.1 20 (Or.inr (by decide))]; exact l11.symm
    · rw [gR_sI]; exact F7.2 131 (by decide) (by decide)
    · rw [gI_sI, if_neg (by decide)]; exact F7.1 10 (Or.inl (by decide))
  obtain ⟨bR, bK, bM, b5, b6, b7, b8, b11, b12, b18, b19, b20, b31, b10⟩ := hbad _ rfl
  by_cases htg : t + 1 ≤ g
  · -- a time that there was
    rw [if_pos (hcS.mpr htg)]
    have fin : RL S7 (sI T7 124 19 (Int32.ofNat (min (u + 1) 32))) tr' (t + 1) g n (min (u + 1) 32) ((q + 1) % 32) z e h' k' := by
      refine ⟨⟨?_, ?_, ?_, ?_, ?_, b11, l7, g7, b18, l10, ?_, b19, ?_, ?_⟩, C7, CP_oF P' O7, bK, bM, bR, htg, a2, a3, ?_, a5'⟩
      · rw [b5]; exact (O7.2.2 2 (Or.inl (by decide))).symm
      · rw [b6]; exact (O7.2.2 3 (Or.inl (by decide))).symm
      · rw [b7]; exact (O7.2.2 122 (Or.inr (by decide))).symm
      · rw [b8]; exact (O7.2.2 123 (Or.inr (by decide))).symm
      · rw [O7.2.1 1 4 (Or.inl (by decide))]; exact l5
      · rw [O7.2.1 0 5 (Or.inl (by decide)), b20]
      · rw [O7.2.2 122 (Or.inr (by decide))]; exact l13
      · rw [O7.2.2 123 (Or.inr (by decide))]; exact l14
      · rw [O7.2.2 2 (Or.inl (by decide)), O7.2.2 3 (Or.inl (by decide))]; exact a4'
    have pS : p_Ma_obstacle S ∧ ∀ r2 : Int32, r2 = aObs (gR S 2) (Int32.ofNat n) (tr t) → (r2 = 0 → (gI S 4 0 < 3000 → p_Ma_perform S ∧ ∀ S7' : xS, S7' = S7 → (gI S7' 4 0 ≤ gI S7' 0 4 → True) ∧ (¬ gI S7' 4 0 ≤ gI S7' 0 4 → ∀ S10 : xS, S10 = sI S7' 0 4 (gI S7' 4 0) → p_Cp_offer S10 4 ∧ ∀ S13 : xS, S13 = (f_Cp_offer S10 4).2 → True)) ∧ (¬ gI S 4 0 < 3000 → True)) ∧ (¬ r2 = 0 → True) :=
      ⟨ho1.2, fun r2 q2 => ⟨fun _ => ⟨fun _ => ⟨p1, fun S7' e7 => by subst e7; exact ⟨fun _ => trivial, fun w => absurd (hcS.mpr htg) w⟩⟩, fun _ => trivial⟩, fun _ => trivial⟩⟩
    rcases hxs with ⟨y1, y2⟩ | ⟨y1, y2⟩
    · rw [if_pos y1, if_pos ((hX _ y2).mpr htg)]
      refine ⟨pS, ⟨ho2.2, fun r2 q2 => ⟨fun _ => ⟨fun w => absurd w x2, fun _ => ⟨p2, fun S7' e7 => ?_⟩⟩, fun _ => trivial⟩⟩, rfl, ?_, ?_, tr', t + 1, g, min (u + 1) 32, (q + 1) % 32, z, e, h', k', ?_, fun _ => ⟨rfl, ext t a1⟩⟩
      · subst e7
        exact ⟨fun _ S10 e10 => by subst e10; exact ⟨fun _ => trivial, fun w => absurd ((hX _ y2).mpr htg) w⟩, fun w => absurd y1 w⟩
      · rw [y2]; exact b31
      · rw [y2]; exact b10
      · rw [y2]; exact fin
    · rw [if_neg y1, if_pos ((hX _ y2).mpr htg)]
      refine ⟨pS, ⟨ho2.2, fun r2 q2 => ⟨fun _ => ⟨fun w => absurd w x2, fun _ => ⟨p2, fun S7' e7 => ?_⟩⟩, fun _ => trivial⟩⟩, rfl, ?_, ?_, tr', t + 1, g, min (u + 1) 32, (q + 1) % 32, z, e, h', k', ?_, fun _ => ⟨rfl, ext t a1⟩⟩
      · subst e7
        exact ⟨fun w => absurd w y1, fun _ S10 e10 => by subst e10; exact ⟨fun _ => trivial, fun w => absurd ((hX _ y2).mpr htg) w⟩⟩
      · rw [y2]; exact b31
      · rw [y2]; exact b10
      · rw [y2]; exact fin
  · -- a new time
    have htg2 : t = g := by omega
    subst htg2
    have hcS' : ¬ gI S7 4 0 ≤ gI S7 0 4 := fun w => htg (hcS.mp w)
    rw [if_neg hcS']
    have G' : trg n (t + 1) tr' := fun i hi => by
      by_cases hi2 : i = t + 1
      · rw [hi2]; exact hgood
      · exact a5' i (by omega)
    have K' : trk (gR S 2) (gR S 3) n (t + 1) tr' := fun i hi => by
      by_cases hi2 : i = t
      · rw [hi2]; exact ⟨hob', hst⟩
      · exact a4' i (by omega)
    have C10 : CI (sI S7 0 4 (gI S7 4 0)) tr' (t + 1) (min (u + 1) 32) ((q + 1) % 32) := CI_05 C7 (Or.inl (by decide)) _
    have P10 : CP (sI S7 0 4 (gI S7 4 0)) tr' z e := CP_05 (CP_oF P' O7) (by decide) _
    obtain ⟨o1, o2, o3⟩ := coffer P10 G' C10.1 a2 a3 (by omega)
    obtain ⟨w1, w2, w3, w4, w5, w6⟩ := rgrow bR b12 bK bM ⟨P.2.2.2.2.1, P.2.2.2.2.2.1⟩ P.2.2.1 P.2.2.2.1 a2 a3 (by omega)
    obtain ⟨z1, z2⟩ := nze_ok (g := t) P.2.2.2.2.1 P.2.2.1 P.2.2.2.1 a2 a3
    have rd : ∀ i f, i < 4 → (i ≠ 0 ∨ f ≠ 4) → gI (f_Cp_offer (sI S7 0 4 (gI S7 4 0)) 4).2 i f = gI S i f := fun i f h1 h2 => by
      rw [o3.1 i f (Or.inl (by omega)), gI_sI, if_neg (by omega)]
      exact O7.2.1 i f (Or.inl h1)
    have ra : ∀ i, (i < 4 ∨ 122 ≤ i) → gR (f_Cp_offer (sI S7 0 4 (gI S7 4 0)) 4).2 i = gR S i := fun i h1 => by
      rw [o3.2 i (by omega), gR_sI]
      exact O7.2.2 i (by omega)
    have fin : RL (f_Cp_offer (sI S7 0 4 (gI S7 4 0)) 4).2 (f_Mo_grow (sI T7 124 19 (Int32.ofNat (min (u + 1) 32)))).2 tr' (t + 1) (t + 1) n (min (u + 1) 32) ((q + 1) % 32) (nze z e t).1 (nze z e t).2 h' k' := by
      refine ⟨⟨?_, ?_, ?_, ?_, ?_, ?_, l7, ?_, w4, by omega, ?_, ?_, ?_, ?_⟩, CI_pF C10 o3, o2, w2, w3, rv_same bR (fun f h1 h2 => w5 f (by omega) (by omega) (by omega)) (w6 129 (by decide) (by decide) (by decide)) (w6 130 (by decide) (by decide) (by decide)), Nat.le_refl _, z1, z2, ?_, G'⟩
      · rw [w6 125 (by decide) (by decide) (by decide), b5, ra 2 (by omega)]
      · rw [w6 126 (by decide) (by decide) (by decide), b6, ra 3 (by omega)]
      · rw [w6 127 (by decide) (by decide) (by decide), b7, ra 122 (by omega)]
      · rw [w6 128 (by decide) (by decide) (by decide), b8, ra 123 (by omega)]
      · rw [rd 1 4 (by omega) (by omega)]; exact l5
      · rw [w5 11 (by decide) (by decide) (by decide)]; exact b11
      · rw [o3.1 0 4 (Or.inl (by decide)), gI_sI, if_pos ⟨rfl, rfl⟩]; exact ht7
      · rw [rd 0 5 (by omega) (by omega), w5 20 (by decide) (by decide) (by decide), b20]
      · rw [w5 19 (by decide) (by decide) (by decide)]; exact b19
      · rw [ra 122 (by omega)]; exact l13
      · rw [ra 123 (by omega)]; exact l14
      · rw [ra 2 (by omega), ra 3 (by omega)]; exact K'
    have pS : p_Ma_obstacle S ∧ ∀ r2 : Int32, r2 = aObs (gR S 2) (Int32.ofNat n) (tr t) → (r2 = 0 → (gI S 4 0 < 3000 → p_Ma_perform S ∧ ∀ S7' : xS, S7' = S7 → (gI S7' 4 0 ≤ gI S7' 0 4 → True) ∧ (¬ gI S7' 4 0 ≤ gI S7' 0 4 → ∀ S10 : xS, S10 = sI S7' 0 4 (gI S7' 4 0) → p_Cp_offer S10 4 ∧ ∀ S13 : xS, S13 = (f_Cp_offer S10 4).2 → True)) ∧ (¬ gI S 4 0 < 3000 → True)) ∧ (¬ r2 = 0 → True) :=
      ⟨ho1.2, fun r2 q2 => ⟨fun _ => ⟨fun _ => ⟨p1, fun S7' e7 => by subst e7; exact ⟨fun w => absurd w hcS', fun _ S10 e10 => by subst e10; exact ⟨o1, fun _ _ => trivial⟩⟩⟩, fun _ => trivial⟩, fun _ => trivial⟩⟩
    rcases hxs with ⟨y1, y2⟩ | ⟨y1, y2⟩
    · have hX' : ¬ gI (sI T7 124 19 32) 124 12 ≤ gI (sI T7 124 19 32) 124 18 := fun w => htg ((hX _ y2).mp w)
      rw [if_pos y1, if_neg hX']
      refine ⟨pS, ⟨ho2.2, fun r2 q2 => ⟨fun _ => ⟨fun w => absurd w x2, fun _ => ⟨p2, fun S7' e7 => ?_⟩⟩, fun _ => trivial⟩⟩, rfl, ?_, ?_, tr', t + 1, t + 1, min (u + 1) 32, (q + 1) % 32, (nze z e t).1, (nze z e t).2, h', k', ?_, fun _ => ⟨rfl, ext t a1⟩⟩
      · subst e7
        exact ⟨fun _ S10 e10 => by subst e10; exact ⟨fun w => absurd w hX', fun _ => ⟨by rw [y2]; exact w1, fun _ _ => trivial⟩⟩, fun w => absurd y1 w⟩
      · rw [y2]; exact (w6 131 (by decide) (by decide) (by decide)).trans b31
      · rw [y2]; exact (w5 10 (by decide) (by decide) (by decide)).trans b10
      · rw [y2]; exact fin
    · have hX' : ¬ gI (sI T7 124 19 (gI T7 124 19 + 1)) 124 12 ≤ gI (sI T7 124 19 (gI T7 124 19 + 1)) 124 18 := fun w => htg ((hX _ y2).mp w)
      rw [if_neg y1, if_neg hX']
      refine ⟨pS, ⟨ho2.2, fun r2 q2 => ⟨fun _ => ⟨fun w => absurd w x2, fun _ => ⟨p2, fun S7' e7 => ?_⟩⟩, fun _ => trivial⟩⟩, rfl, ?_, ?_, tr', t + 1, t + 1, min (u + 1) 32, (q + 1) % 32, (nze z e t).1, (nze z e t).2, h', k', ?_, fun _ => ⟨rfl, ext t a1⟩⟩
      · subst e7
        exact ⟨fun w => absurd w y1, fun _ S10 e10 => by subst e10; exact ⟨fun w => absurd w hX', fun _ => ⟨by rw [y2]; exact w1, fun _ _ => trivial⟩⟩⟩
      · rw [y2]; exact (w6 131 (by decide) (by decide) (by decide)).trans b31
      · rw [y2]; exact (w5 10 (by decide) (by decide) (by decide)).trans b10
      · rw [y2]; exact fin
end ADV
