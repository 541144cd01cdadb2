/-! the two loops, the start, and the whole -/
theorem mo_forth_end {j : Nat} (hj : 1 ≤ j) {T : xS} {a x v : Int32} (hx : ¬ x = 0) : q_Mo_forth j T a x v ∧ g_Mo_forth j T a x v = (x, T) := by
  obtain ⟨j, rfl⟩ : ∃ i, j = i + 1 := ⟨j - 1, by omega⟩
  unfold q_Mo_forth g_Mo_forth
  refine ⟨⟨fun _ => ⟨fun _ => trivial, fun _ => trivial⟩, fun _ => ⟨fun w => absurd w hx, fun _ => ⟨fun _ => trivial, fun _ => trivial⟩⟩⟩, ?_⟩
  by_cases hv : a ≤ v
  · rw [if_pos hv, if_neg hx]
  · rw [if_neg hv, if_neg hx, if_neg hx]
theorem mo_back_end {j : Nat} (hj : 1 ≤ j) {T : xS} {a x v : Int32} (hx : ¬ x = 0) : q_Mo_back j T a x v ∧ g_Mo_back j T a x v = (x, T) := by
  obtain ⟨j, rfl⟩ : ∃ i, j = i + 1 := ⟨j - 1, by omega⟩
  unfold q_Mo_back g_Mo_back
  refine ⟨⟨fun _ => ⟨fun _ => trivial, fun _ => trivial⟩, fun _ => ⟨fun w => absurd w hx, fun _ => ⟨fun _ => trivial, fun _ => trivial⟩⟩⟩, ?_⟩
  by_cases hv : a ≤ v
  · rw [if_pos hv, if_neg hx]
  · rw [if_neg hv, if_neg hx, if_neg hx]
set_option maxHeartbeats 4000000 in
theorem forth_l {a : Nat} (ha : a ≤ 1000) : ∀ (r fuel : Nat) (S T : xS) (tr : Nat → aM) (t g n u q z e h k v : Nat), r < fuel → v + r = a → RL S T tr t g n u q z e h k → gI T 124 10 = 0 → q_RM_forth fuel S (Int32.ofNat a) (Int32.ofNat v) ∧ q_Mo_forth fuel T (Int32.ofNat a) 0 (Int32.ofNat v) ∧ (g_RM_forth fuel S (Int32.ofNat a) (Int32.ofNat v)).1 = (g_Mo_forth fuel T (Int32.ofNat a) 0 (Int32.ofNat v)).1 ∧ gI (g_Mo_forth fuel T (Int32.ofNat a) 0 (Int32.ofNat v)).2 124 10 = 0 ∧ Rel (g_RM_forth fuel S (Int32.ofNat a) (Int32.ofNat v)).2 (g_Mo_forth fuel T (Int32.ofNat a) 0 (Int32.ofNat v)).2 := by
  intro r
  have z0 : (0 : Int32) = 0 := rfl
  induction r with
  | zero =>
    intro fuel S T tr t g n u q z e h k v h1 h2 L hc
    obtain ⟨j, rfl⟩ : ∃ j, fuel = j + 1 := ⟨fuel - 1, by omega⟩
    have hav : Int32.ofNat a ≤ Int32.ofNat v := (n32_le (by omega) (by omega)).mpr (by omega)
    unfold q_RM_forth q_Mo_forth g_RM_forth g_Mo_forth
    rw [if_pos hav, if_pos hav, if_pos z0]
    exact ⟨⟨fun _ => trivial, fun w => absurd hav w⟩, ⟨fun _ => ⟨fun _ => trivial, fun _ => trivial⟩, fun w => absurd hav w⟩, rfl, hc, ⟨tr, t, g, n, u, q, z, e, h, k, L⟩⟩
  | succ r ih =>
    intro fuel S T tr t g n u q z e h k v h1 h2 L hc
    obtain ⟨j, rfl⟩ : ∃ j, fuel = j + 1 := ⟨fuel - 1, by omega⟩
    have hav : ¬ Int32.ofNat a ≤ Int32.ofNat v := fun w => by rw [n32_le (by omega) (by omega)] at w; omega
    have e1 : Int32.ofNat v + 1 = Int32.ofNat (v + 1) := n32_add v 1
    obtain ⟨m1, m2, m3, m4⟩ := rrem T
    have L5 : RL S (f_Mo_remember T).2 tr t g n u q z e h k := RL_tF L ⟨fun f _ => m4 124 f, m3⟩
    have hwere : ∀ c, c < 32 → gR (f_Mo_remember T).2 131 c = (tr t).2 c := fun c hc' => by
      rw [m2 c hc']
      exact L.2.2.2.2.2.1.2.2.2.2.2.2.2.2.2.2.2.1 c hc'
    have hc5 : gI (f_Mo_remember T).2 124 10 = 0 := by rw [m4]; exact hc
    obtain ⟨b1, b2, b3, b4, b5, tr', t', g', u', q', z', e', h', k', b6, b7⟩ := adv L5
    unfold q_RM_forth q_Mo_forth g_RM_forth g_Mo_forth
    dsimp only [px_let_id]
    rw [if_neg hav, if_neg hav, if_pos z0, e1]
    generalize hT5 : (f_Mo_remember T).2 = T5 at *
    generalize hA : f_RM_advance S = A at *
    generalize hB : f_Mo_advance T5 = B at *
    obtain ⟨x, S'⟩ := A
    obtain ⟨y, T'⟩ := B
    dsimp only at b3 b4 b5 b6 b7 ⊢
    subst b3
    by_cases hx : x = 0
    · subst hx
      obtain ⟨et, b8⟩ := b7 rfl
      subst et
      have htg' : t + 1 ≤ g' := b6.2.2.2.2.2.2.1
      have hg3 : g' ≤ 3000 := b6.1.2.2.2.2.2.2.2.2.2.1
      have hchg : chg (tr t) (tr' (t + 1)) := by
        obtain ⟨k1, k2⟩ := b6.2.2.2.2.2.2.2.2.2.1 t (by omega)
        obtain ⟨hh, hhb, ehh⟩ := (b6.2.2.2.2.2.2.2.2.2.2 t (by omega)).2.1
        have := (step_chg (inp := gR S' 3) ehh hhb k1).2
        rw [← k2, b8] at this
        exact this
      obtain ⟨s1, s2, s3⟩ := stops b6.2.1.1 b6.2.2.2.2.2.1 b6.1.2.2.1 b6.1.2.2.2.1 hchg (fun c hc' => by rw [b4]; exact hwere c hc') (b6.2.2.2.2.2.2.2.2.2.2 (t + 1) htg').1 ⟨by omega, by omega⟩
      rw [if_pos z0, if_pos z0, ← s3]
      by_cases hs : f_RM_stopHere S' = 0
      · obtain ⟨i1, i2, i3, i4, i5⟩ := ih j S' T' tr' (t + 1) g' n u' q' z' e' h' k' (v + 1) (by omega) (by omega) b6 (b5.trans hc5)
        rw [if_pos hs, hs]
        refine ⟨⟨fun w => absurd w hav, fun _ => ⟨b1, fun S3 q3 r5 q5 => ⟨fun _ => ⟨by rw [q3]; exact s1, fun r9 q9 => ⟨fun w => by rw [q3]; exact i1, fun _ => trivial⟩⟩, fun w => absurd q5 w⟩⟩⟩, ⟨fun w => absurd w hav, fun _ => ⟨fun _ => ⟨m1, fun S5 q5 => ?_⟩, fun w => absurd z0 w⟩⟩, i3, i4, i5⟩
        rw [q5, hB]
        refine ⟨b2, fun S8 q8 r10 q10 => ⟨fun _ => ?_, fun w => absurd q10 w⟩⟩
        rw [q8]
        refine ⟨s2, fun r14 q14 => ?_⟩
        rw [q14, ← s3, hs]
        exact i2
      · obtain ⟨n1, n2⟩ := mo_forth_end (j := j) (by omega) (T := T') (a := Int32.ofNat a) (v := Int32.ofNat (v + 1)) hs
        rw [if_neg hs, n2]
        refine ⟨⟨fun w => absurd w hav, fun _ => ⟨b1, fun S3 q3 r5 q5 => ⟨fun _ => ⟨by rw [q3]; exact s1, fun r9 q9 => ⟨fun w => absurd (by rw [q3] at q9; exact q9.symm.trans w) hs, fun _ => trivial⟩⟩, fun w => absurd q5 w⟩⟩⟩, ⟨fun w => absurd w hav, fun _ => ⟨fun _ => ⟨m1, fun S5 q5 => ?_⟩, fun w => absurd z0 w⟩⟩, rfl, b5.trans hc5, ⟨tr', t + 1, g', n, u', q', z', e', h', k', b6⟩⟩
        rw [q5, hB]
        refine ⟨b2, fun S8 q8 r10 q10 => ⟨fun _ => ?_, fun w => absurd q10 w⟩⟩
        rw [q8]
        refine ⟨s2, fun r14 q14 => ?_⟩
        rw [q14, ← s3]
        exact n1
    · obtain ⟨n1, n2⟩ := mo_forth_end (j := j) (by omega) (T := T') (a := Int32.ofNat a) (v := Int32.ofNat (v + 1)) hx
      rw [if_neg hx, if_neg hx, if_neg hx, n2]
      refine ⟨⟨fun w => absurd w hav, fun _ => ⟨b1, fun S3 q3 r5 q5 => ⟨fun w => absurd (q5.symm.trans w) hx, fun w => ⟨fun w2 => absurd w2 w, fun _ => trivial⟩⟩⟩⟩, ⟨fun w => absurd w hav, fun _ => ⟨fun _ => ⟨m1, fun S5 q5 => ?_⟩, fun w => absurd z0 w⟩⟩, rfl, b5.trans hc5, ⟨tr', t', g', n, u', q', z', e', h', k', b6⟩⟩
      rw [q5, hB]
      refine ⟨b2, fun S8 q8 r10 q10 => ⟨fun w => absurd (q10.symm.trans w) hx, fun _ => ?_⟩⟩
      rw [q8, q10]
      exact n1
set_option maxHeartbeats 4000000 in
theorem back_l {a : Nat} (ha : a ≤ 1000) : ∀ (r fuel : Nat) (S T : xS) (tr : Nat → aM) (t g n u q z e h k v : Nat) (x : Int32), r < fuel → v + r = a → RL S T tr t g n u q z e h k → gI T 124 10 = 0 → (t = 0 → x = 12) → (t ≠ 0 → x = 0) → q_RM_back fuel S (Int32.ofNat a) (Int32.ofNat v) ∧ q_Mo_back fuel T (Int32.ofNat a) x (Int32.ofNat v) ∧ (g_RM_back fuel S (Int32.ofNat a) (Int32.ofNat v)).1 = (g_Mo_back fuel T (Int32.ofNat a) x (Int32.ofNat v)).1 ∧ gI (g_Mo_back fuel T (Int32.ofNat a) x (Int32.ofNat v)).2 124 10 = 0 ∧ Rel (g_RM_back fuel S (Int32.ofNat a) (Int32.ofNat v)).2 (g_Mo_back fuel T (Int32.ofNat a) x (Int32.ofNat v)).2 := by
  intro r
  have z0 : (0 : Int32) = 0 := rfl
  have n12 : ¬ (12 : Int32) = 0 := by decide
  induction r with
  | zero =>
    intro fuel S T tr t g n u q z e h k v x h1 h2 L hc hx1 hx2
    have htS : gI S 4 0 = Int32.ofNat t := (vw_reg L.2.1.1 (by decide)).trans (L.2.2.2.2.2.2.2.2.2.2 t L.2.2.2.2.2.2.1).1
    have htg : t ≤ g := L.2.2.2.2.2.2.1
    have hg3 : g ≤ 3000 := L.1.2.2.2.2.2.2.2.2.2.1
    have hz : (gI S 4 0 = 0) ↔ t = 0 := by rw [htS, show (0 : Int32) = Int32.ofNat 0 from rfl, n32_eq (by omega) (by decide)]
    have R : Rel S T := ⟨tr, t, g, n, u, q, z, e, h, k, L⟩
    obtain ⟨j, rfl⟩ : ∃ j, fuel = j + 1 := ⟨fuel - 1, by omega⟩
    have hav : Int32.ofNat a ≤ Int32.ofNat v := (n32_le (by omega) (by omega)).mpr (by omega)
    unfold q_RM_back q_Mo_back g_RM_back g_Mo_back
    rw [if_pos hav, if_pos hav]
    have pR : (Int32.ofNat a ≤ Int32.ofNat v → (gI S 4 0 = 0 → True) ∧ (¬ gI S 4 0 = 0 → True)) := fun _ => ⟨fun _ => trivial, fun _ => trivial⟩
    by_cases ht : t = 0
    · rw [hx1 ht, if_pos (hz.mpr ht), if_neg n12]
      exact ⟨⟨pR, fun w => absurd hav w⟩, ⟨fun _ => ⟨fun _ => trivial, fun _ => trivial⟩, fun w => absurd hav w⟩, rfl, hc, R⟩
    · rw [hx2 ht, if_neg (fun w => ht (hz.mp w)), if_pos z0]
      exact ⟨⟨pR, fun w => absurd hav w⟩, ⟨fun _ => ⟨fun _ => trivial, fun _ => trivial⟩, fun w => absurd hav w⟩, rfl, hc, R⟩
  | succ r ih =>
    intro fuel S T tr t g n u q z e h k v x h1 h2 L hc hx1 hx2
    have htS : gI S 4 0 = Int32.ofNat t := (vw_reg L.2.1.1 (by decide)).trans (L.2.2.2.2.2.2.2.2.2.2 t L.2.2.2.2.2.2.1).1
    have htg : t ≤ g := L.2.2.2.2.2.2.1
    have hg3 : g ≤ 3000 := L.1.2.2.2.2.2.2.2.2.2.1
    have hz : (gI S 4 0 = 0) ↔ t = 0 := by rw [htS, show (0 : Int32) = Int32.ofNat 0 from rfl, n32_eq (by omega) (by decide)]
    have hzl : (gI S 4 0 ≤ 0) ↔ t = 0 := by rw [htS, show (0 : Int32) = Int32.ofNat 0 from rfl, n32_le (by omega) (by decide)]; omega
    have R : Rel S T := ⟨tr, t, g, n, u, q, z, e, h, k, L⟩
    obtain ⟨j, rfl⟩ : ∃ j, fuel = j + 1 := ⟨fuel - 1, by omega⟩
    have hav : ¬ Int32.ofNat a ≤ Int32.ofNat v := fun w => by rw [n32_le (by omega) (by omega)] at w; omega
    have e1 : Int32.ofNat v + 1 = Int32.ofNat (v + 1) := n32_add v 1
    by_cases ht : t = 0
    · obtain ⟨n1, n2⟩ := mo_back_end (j := j + 1) (by omega) (T := T) (a := Int32.ofNat a) (v := Int32.ofNat v) n12
      rw [hx1 ht, n2]
      unfold q_RM_back g_RM_back
      rw [if_neg hav, if_pos (hzl.mpr ht), if_pos (hz.mpr ht)]
      exact ⟨⟨fun w => absurd w hav, fun _ => ⟨fun _ => ⟨fun _ => trivial, fun _ => trivial⟩, fun w => absurd (hzl.mpr ht) w⟩⟩, n1, rfl, hc, R⟩
    · rw [hx2 ht]
      have em : gI S 4 0 - 1 = Int32.ofNat (t - 1) := by rw [htS]; exact n32_sub (b := 1) (by omega)
      have ht' : ¬ gI S 4 0 ≤ 0 := fun w => ht (hzl.mp w)
      obtain ⟨b1, b2, b3, b4, ⟨u', q', h', k', b5⟩, b6, b7⟩ := back1 L (by omega)
      unfold q_RM_back q_Mo_back g_RM_back g_Mo_back
      dsimp only [px_let_id]
      rw [if_neg hav, if_neg hav, if_pos z0, if_neg ht', em, e1]
      generalize hS6 : (f_RM_travel S (Int32.ofNat (t - 1))).2 = S6 at *
      generalize hB : f_Mo_backOne T = B at *
      obtain ⟨y, T'⟩ := B
      dsimp only at b4 b5 b6 b7 ⊢
      by_cases hs : f_RM_stopHere S6 = 0
      · have hy1 : t - 1 = 0 → y = 12 := fun w => (b6 (by omega)).1
        have hy2 : t - 1 ≠ 0 → y = 0 := fun w => (b7 (by omega)).trans hs
        obtain ⟨i1, i2, i3, i4, i5⟩ := ih j S6 T' tr (t - 1) g n u' q' z e h' k' (v + 1) y (by omega) (by omega) b5 (b4.trans hc) hy1 hy2
        rw [if_pos hs]
        refine ⟨⟨fun w => absurd w hav, fun _ => ⟨fun w => absurd w ht', fun _ => ⟨b1, fun S6' q6 => ?_⟩⟩⟩, ⟨fun w => absurd w hav, fun _ => ⟨fun _ => ⟨b2, fun S5 q5 r7 q7 => ?_⟩, fun w => absurd z0 w⟩⟩, i3, i4, i5⟩
        · rw [q6]
          exact ⟨b3, fun r9 q9 => ⟨fun _ => i1, fun _ => trivial⟩⟩
        · rw [q5, q7]
          exact i2
      · have ht1 : t ≠ 1 := fun w => hs (b6 w).2
        have hy : y = f_RM_stopHere S6 := b7 ht1
        have hy0 : ¬ y = 0 := by rw [hy]; exact hs
        obtain ⟨n1, n2⟩ := mo_back_end (j := j) (by omega) (T := T') (a := Int32.ofNat a) (v := Int32.ofNat (v + 1)) hy0
        rw [if_neg hs, n2]
        refine ⟨⟨fun w => absurd w hav, fun _ => ⟨fun w => absurd w ht', fun _ => ⟨b1, fun S6' q6 => ?_⟩⟩⟩, ⟨fun w => absurd w hav, fun _ => ⟨fun _ => ⟨b2, fun S5 q5 r7 q7 => ?_⟩, fun w => absurd z0 w⟩⟩, hy.symm, b4.trans hc, ⟨tr, t - 1, g, n, u', q', z, e, h', k', b5⟩⟩
        · rw [q6]
          exact ⟨b3, fun r9 q9 => ⟨fun w => absurd (q9.symm.trans w) hs, fun _ => trivial⟩⟩
        · rw [q5, q7]
          exact n1
theorem fuel_cases (a : Int32) : (f_RM_isFuel a = 0 ∧ (a < 0 ∨ (¬ a < 0 ∧ ¬ a ≤ 1000))) ∨ (f_RM_isFuel a = 1 ∧ ¬ a < 0 ∧ a ≤ 1000 ∧ ∃ m, m ≤ 1000 ∧ a = Int32.ofNat m) := by
  unfold f_RM_isFuel
  by_cases h1 : a < 0
  · left; rw [if_pos h1]; exact ⟨rfl, Or.inl h1⟩
  · rw [if_neg h1]
    by_cases h2 : a ≤ 1000
    · right
      rw [if_neg (show ¬ 1000 < a from Int32.not_lt.mpr h2)]
      obtain ⟨m, hm, rfl⟩ := n32_of h1
      refine ⟨rfl, h1, h2, m, ?_, rfl⟩
      rw [show (1000 : Int32) = Int32.ofNat 1000 from rfl, n32_le hm (by decide)] at h2
      exact h2
    · left
      rw [if_pos (Int32.not_le.mp h2)]
      exact ⟨rfl, Or.inr ⟨h1, h2⟩⟩
set_option maxHeartbeats 1000000 in
theorem lkR_forth : lk_forth Rel := by
  rintro S T a ⟨tr, t, g, n, u, q, z, e, h, k, L⟩
  have R1 : Rel S (sI T 124 10 1) := ⟨tr, t, g, n, u, q, z, e, h, k, RL_code L 1⟩
  have hc0 := code_at T 0
  have hc1 := code_at T 1
  have c1 : ¬ (1 : Int32) ≤ 0 := by decide
  have c0 : (0 : Int32) ≤ 0 := by decide
  unfold p_Mo_forth f_Mo_forth p_RM_forth f_RM_forth tp_RM_forth_IAE
  simp only [px_let_id]
  rcases fuel_cases a with ⟨w1, ha | ⟨ha, hb⟩⟩ | ⟨w1, ha, hb, m, hm, rfl⟩
  · rw [if_pos ha, hc1, if_neg c1]
    refine ⟨⟨fun _ S2 q2 => ⟨fun w => absurd w ?_, fun _ => trivial⟩, fun w => absurd ha w⟩, Or.inr ⟨hc1, fun r1 q1 => ⟨fun _ => trivial, fun w => absurd (q1.trans w1) w⟩, R1⟩⟩
    subst q2; rw [hc1]; exact c1
  · rw [if_neg ha, if_neg hb, hc1, if_neg c1]
    refine ⟨⟨fun w => absurd w ha, fun _ => ⟨fun w => absurd w hb, fun _ S2 q2 => ⟨fun w => absurd w ?_, fun _ => trivial⟩⟩⟩, Or.inr ⟨hc1, fun r1 q1 => ⟨fun _ => trivial, fun w => absurd (q1.trans w1) w⟩, R1⟩⟩
    subst q2; rw [hc1]; exact c1
  · have L1 := RL_c0 (RL_code L 0)
    have h10 : gI (sI (sI T 124 10 0) 124 20 0) 124 10 = 0 := by rw [gI_sI, if_neg (by decide)]; exact hc0
    obtain ⟨i1, i2, i3, i4, i5⟩ := forth_l hm m 1001 _ _ tr t g n u q z e h k 0 (by omega) (by omega) L1 h10
    rw [w1, if_neg ha, if_pos hb, hc0, if_pos c0, if_neg (show ¬ (1 : Int32) = 0 by decide)]
    refine ⟨⟨fun w => absurd w ha, fun _ => ⟨fun _ S8 q8 => ⟨fun _ S11 q11 => ?_, fun _ => trivial⟩, fun w => absurd hb w⟩⟩, Or.inl ⟨i4, fun r1 q1 => ⟨fun w => absurd (q1.symm.trans w) (by decide), fun _ S4 q4 => ?_⟩, i3, i5⟩⟩
    · subst q8; subst q11; exact i2
    · subst q4; exact i1
set_option maxHeartbeats 1000000 in
theorem lkR_back : lk_back Rel := by
  rintro S T a ⟨tr, t, g, n, u, q, z, e, h, k, L⟩
  have R1 : Rel S (sI T 124 10 1) := ⟨tr, t, g, n, u, q, z, e, h, k, RL_code L 1⟩
  have hc0 := code_at T 0
  have hc1 := code_at T 1
  have c1 : ¬ (1 : Int32) ≤ 0 := by decide
  have c0 : (0 : Int32) ≤ 0 := by decide
  unfold p_Mo_back f_Mo_back p_RM_back f_RM_back tp_RM_back_IAE
  simp only [px_let_id]
  rcases fuel_cases a with ⟨w1, ha | ⟨ha, hb⟩⟩ | ⟨w1, ha, hb, m, hm, rfl⟩
  · rw [if_pos ha, hc1, if_neg c1]
    refine ⟨⟨fun _ S2 q2 => ⟨fun w => absurd w ?_, fun _ => trivial⟩, fun w => absurd ha w⟩, Or.inr ⟨hc1, fun r1 q1 => ⟨fun _ => trivial, fun w => absurd (q1.trans w1) w⟩, R1⟩⟩
    subst q2; rw [hc1]; exact c1
  · rw [if_neg ha, if_neg hb, hc1, if_neg c1]
    refine ⟨⟨fun w => absurd w ha, fun _ => ⟨fun w => absurd w hb, fun _ S2 q2 => ⟨fun w => absurd w ?_, fun _ => trivial⟩⟩⟩, Or.inr ⟨hc1, fun r1 q1 => ⟨fun _ => trivial, fun w => absurd (q1.trans w1) w⟩, R1⟩⟩
    subst q2; rw [hc1]; exact c1
  · have L1 := RL_c0 (RL_code L 0)
    have htg : t ≤ g := L.2.2.2.2.2.2.1
    have hg3 : g ≤ 3000 := L.1.2.2.2.2.2.2.2.2.2.1
    have e12 : gI (sI (sI T 124 10 0) 124 20 0) 124 12 = Int32.ofNat t := L1.2.2.2.2.2.1.1.trans (L1.2.2.2.2.2.2.2.2.2.2 t htg).1
    have h10 : gI (sI (sI T 124 10 0) 124 20 0) 124 10 = 0 := by rw [gI_sI, if_neg (by decide)]; exact hc0
    have hz : (Int32.ofNat t = 0) ↔ t = 0 := by rw [show (0 : Int32) = Int32.ofNat 0 from rfl, n32_eq (by omega) (by decide)]
    rw [w1, if_neg ha, if_pos hb, hc0, if_pos c0, e12, if_neg (show ¬ (1 : Int32) = 0 by decide)]
    by_cases ht : t = 0
    · obtain ⟨i1, i2, i3, i4, i5⟩ := back_l hm m 1001 _ _ tr t g n u q z e h k 0 12 (by omega) (by omega) L1 h10 (fun _ => rfl) (fun w => absurd ht w)
      rw [if_pos (hz.mpr ht)]
      refine ⟨⟨fun w => absurd w ha, fun _ => ⟨fun _ S8 q8 => ⟨fun _ S11 q11 => ?_, fun _ => trivial⟩, fun w => absurd hb w⟩⟩, Or.inl ⟨i4, fun r1 q1 => ⟨fun w => absurd (q1.symm.trans w) (by decide), fun _ S4 q4 => ?_⟩, i3, i5⟩⟩
      · subst q8; subst q11; exact ⟨fun _ => i2, fun w => absurd (e12.trans (hz.mpr ht)) w⟩
      · subst q4; exact i1
    · obtain ⟨i1, i2, i3, i4, i5⟩ := back_l hm m 1001 _ _ tr t g n u q z e h k 0 0 (by omega) (by omega) L1 h10 (fun w => absurd w ht) (fun _ => rfl)
      have hz' : ¬ Int32.ofNat t = 0 := fun w => ht (hz.mp w)
      rw [if_neg hz']
      refine ⟨⟨fun w => absurd w ha, fun _ => ⟨fun _ S8 q8 => ⟨fun _ S11 q11 => ?_, fun _ => trivial⟩, fun w => absurd hb w⟩⟩, Or.inl ⟨i4, fun r1 q1 => ⟨fun w => absurd (q1.symm.trans w) (by decide), fun _ S4 q4 => ?_⟩, i3, i5⟩⟩
      · subst q8; subst q11; exact ⟨fun w => absurd (e12.symm.trans w) hz', fun _ => i2⟩
      · subst q4; exact i1
theorem lkR_start : lk_start Rel := by
  intro x
  have R : rv (T00 x) (vw (S0 x) 4) 0 0 0 := ⟨rfl, rfl, rfl, rfl, rfl, rfl, rfl, by omega, rfl, by omega, by omega, fun j hj => (if_pos (show j < 56 by omega)).symm, fun j hj => absurd hj (by omega)⟩
  obtain ⟨k1, k2, -, k3, k4⟩ := rmark (K := 0) R (by omega) rfl
  generalize (f_Mo_mark (T00 x)).2 = M at *
  have gi : ∀ f, f ≠ 22 → gI (sI M 124 22 1) 124 f = gI (T00 x) 124 f := fun f hf => by rw [gI_sI, if_neg (fun w => hf w.2), k3]
  have gr : ∀ i, i ≠ 132 → i ≠ 133 → gR (sI M 124 22 1) i = gR (T00 x) i := fun i h1 h2 => by rw [gR_sI, k4 i h1 h2]
  refine ⟨k1, fun _ => vw (S0 x) 4, 0, 0, 0, 0, 0, 1, 16, 0, 0, ⟨?_, ?_, ?_, ?_, rfl, ?_, by omega, rfl, ?_, by omega, ?_, ?_, fun _ => Or.inl rfl, fun _ => Or.inl rfl⟩, ⟨rfl, rfl, by omega, rfl, by omega, by omega, fun j hj => absurd hj (by omega)⟩, ⟨rfl, rfl, by omega, by omega, by omega, by omega, fun i hi => ?_, fun i j hi hj hij => ?_⟩, ⟨?_, ?_, fun i hi => ?_⟩, fun K hK => ?_, rv_same R (fun f h1 h2 => gi f (by omega)) (gr 129 (by decide) (by decide)) (gr 130 (by decide) (by decide)), by omega, by omega, by omega, fun i hi => absurd hi (by omega), fun i hi => ?_⟩
  · rw [gr 125 (by decide) (by decide)]; rfl
  · rw [gr 126 (by decide) (by decide)]; rfl
  · rw [gr 127 (by decide) (by decide)]; rfl
  · rw [gr 128 (by decide) (by decide)]; rfl
  · rw [gi 11 (by decide)]; rfl
  · rw [gi 18 (by decide)]; rfl
  · rw [gi 20 (by decide)]; rfl
  · rw [gi 19 (by decide)]; rfl
  · obtain rfl : i = 0 := by omega
    show vw (S0 x) 106 = vw (S0 x) 4
    refine Prod.ext ?_ rfl
    funext j
    simp [vw, gI, S0]
  · have e1 : gK (S0 x) i = i % 8 := rfl
    have e2 : gK (S0 x) j = j % 8 := rfl
    rw [e1, e2] at hij
    omega
  · rw [gI_sI, if_pos ⟨rfl, rfl⟩]; rfl
  · rw [gi 21 (by decide)]; rfl
  · obtain rfl : i = 0 := by omega
    rw [gr 134 (by decide) (by decide)]; rfl
  · obtain rfl : K = 0 := by omega
    exact k2
  · obtain rfl : i = 0 := by omega
    exact ⟨rfl, ⟨0, by omega, rfl⟩, ⟨0, by omega, rfl⟩, ⟨S0 x, 4, rfl⟩⟩
theorem lk_all : LK Rel := ⟨lkR_start, lkR_poke, lkR_input, lkR_step, lkR_forth, lkR_back, lkR_go, lkR_setBreak, lkR_clearBreak, lkR_setWatch, lkR_clearWatch, lkR_state, lkR_cell, lkR_stack, lkR_checkpoint⟩
