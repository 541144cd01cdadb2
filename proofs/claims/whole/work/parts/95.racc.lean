theorem rv_same {T T' : xS} {m : aM} {h k n : Nat} (R : rv T m h k n) (h1 : ∀ f, 12 ≤ f → f ≤ 17 → gI T' 124 f = gI T 124 f) (h2 : gR T' 129 = gR T 129) (h3 : gR T' 130 = gR T 130) : rv T' m h k n := by
  obtain ⟨r0, r1, r2, r3, r4, r5, r6, r7, r8, r9, r10, r11, r12⟩ := R
  exact ⟨(h1 12 (by decide) (by decide)).trans r0, (h1 13 (by decide) (by decide)).trans r1, (h1 14 (by decide) (by decide)).trans r2, (h1 15 (by decide) (by decide)).trans r3, (h1 16 (by decide) (by decide)).trans r4, (h1 17 (by decide) (by decide)).trans r5, r6, r7, r8, r9, r10, by rw [h2]; exact r11, by rw [h3]; exact r12⟩
/-- a new time: reached, marked, kept -/
theorem rgrow {T : xS} {tr : Nat → aM} {z e g n h k : Nat} (R : rv T (tr (g + 1)) h k n) (ht : gI T 124 12 = Int32.ofNat (g + 1)) (Kk : RK T z e) (M : RM T tr g) (he : 1 ≤ e ∧ e ≤ 1000) (hz1 : 1 ≤ z) (hz8 : z ≤ 8) (hz : (z - 1) * e ≤ g) (hz2 : g < z * e) (hg : g + 1 ≤ 3000) :
    p_Mo_grow T ∧ RK (f_Mo_grow T).2 (nze z e g).1 (nze z e g).2 ∧ RM (f_Mo_grow T).2 tr (g + 1) ∧ gI (f_Mo_grow T).2 124 18 = Int32.ofNat (g + 1) ∧ (∀ f, f ≠ 18 → f ≠ 21 → f ≠ 22 → gI (f_Mo_grow T).2 124 f = gI T 124 f) ∧ (∀ i, i ≠ 132 → i ≠ 133 → i ≠ 134 → gR (f_Mo_grow T).2 i = gR T i) := by
  have R1 : rv (sI T 124 18 (gI T 124 12)) (tr (g + 1)) h k n := rv_same R (fun f h1 h2 => by rw [gI_sI, if_neg (by omega)]) rfl rfl
  have ht1 : gI (sI T 124 18 (gI T 124 12)) 124 12 = Int32.ofNat (g + 1) := by rw [gI_sI, if_neg (by decide)]; exact ht
  have K1 : RK (sI T 124 18 (gI T 124 12)) z e := ⟨by rw [gI_sI, if_neg (by decide)]; exact Kk.1, by rw [gI_sI, if_neg (by decide)]; exact Kk.2.1, Kk.2.2⟩
  have M1 : RM (sI T 124 18 (gI T 124 12)) tr g := M
  have g18 : gI (sI T 124 18 (gI T 124 12)) 124 18 = Int32.ofNat (g + 1) := by rw [gI_sI, if_pos ⟨rfl, rfl⟩]; exact ht
  have fr1 : ∀ f, f ≠ 18 → gI (sI T 124 18 (gI T 124 12)) 124 f = gI T 124 f := fun f hf => by rw [gI_sI, if_neg (by omega)]
  unfold p_Mo_grow f_Mo_grow
  simp only [px_let_id]
  have hsub : (∀ (P : xS → Prop), P (sI T 124 18 (gI T 124 12)) → ∀ S1 : xS, S1 = sI T 124 18 (gI T 124 12) → P S1) := fun P hP S1 q => q ▸ hP
  generalize hS1 : sI T 124 18 (gI T 124 12) = S1 at *
  have hq : (gI S1 124 12 - gI S1 124 12 / 250 * 250 = 0) ↔ (g + 1) % 250 = 0 := by
    rw [ht1, show (250 : Int32) = Int32.ofNat 250 from rfl, n32_rem (by omega) (by decide), show (0 : Int32) = Int32.ofNat 0 from rfl, n32_eq (by omega) (by decide)]
  by_cases hm : (g + 1) % 250 = 0
  · have hx := hq.mpr hm
    rw [if_pos hx]
    obtain ⟨K, hK⟩ : ∃ K, g + 1 = 250 * K := ⟨(g + 1) / 250, by omega⟩
    obtain ⟨p1, p2, p3, p4⟩ := rmark (K := K) R1 (by omega) (by rw [ht1, hK])
    have ht5 : gI (f_Mo_mark S1).2 124 12 = Int32.ofNat (g + 1) := (p4.1 _ _).trans ht1
    have K5 : RK (f_Mo_mark S1).2 z e := ⟨(p4.1 _ _).trans K1.1, (p4.1 _ _).trans K1.2.1, by rw [p4.2 134 (by decide) (by decide)]; exact K1.2.2⟩
    obtain ⟨q1, S', q2, q3, q4, q5⟩ := grk K5 ht5 he hz1 hz8 hz hz2 hg
    refine ⟨fun S1' e1 => ?_, ?_⟩
    · subst e1
      exact ⟨fun _ => ⟨p1, fun S5 e5 => by subst e5; exact q1⟩, fun w => absurd hx w⟩
    · rw [q2]
      refine ⟨q3, fun K' hK' => ?_, (q4 18 (by decide) (by decide)).trans ((p4.1 _ _).trans g18), fun f f1 f2 f3 => (q4 f f2 f3).trans ((p4.1 _ _).trans (fr1 f f1)), fun i i1 i2 i3 => (q5 i i3).trans ((p4.2 i i1 i2).trans (by rw [← hS1]; rfl))⟩
      have hmk : mkv (f_Mo_mark S1).2 K' (tr (250 * K')) := by
        by_cases hKK : K' = K
        · rw [hKK, ← hK]; exact p2
        · exact p3 K' _ hKK (M1 K' (by omega))
      unfold mkv at hmk ⊢
      rw [q5 132 (by decide), q5 133 (by decide)]
      exact hmk
  · have hx : ¬ gI S1 124 12 - gI S1 124 12 / 250 * 250 = 0 := fun w => hm (hq.mp w)
    rw [if_neg hx]
    obtain ⟨q1, S', q2, q3, q4, q5⟩ := grk K1 ht1 he hz1 hz8 hz hz2 hg
    refine ⟨fun S1' e1 => ?_, ?_⟩
    · subst e1
      exact ⟨fun w => absurd w hx, fun _ => q1⟩
    · rw [q2]
      refine ⟨q3, fun K' hK' => ?_, (q4 18 (by decide) (by decide)).trans g18, fun f f1 f2 f3 => (q4 f f2 f3).trans (fr1 f f1), fun i i1 i2 i3 => (q5 i i3).trans (by rw [← hS1]; rfl)⟩
      have hmk : mkv S1 K' (tr (250 * K')) := M1 K' (by omega)
      unfold mkv at hmk ⊢
      rw [q5 132 (by decide), q5 133 (by decide)]
      exact hmk
/-- what a way costs, and what is left to undo -/
def aF (T T' : xS) : Prop := (∀ f, f ≠ 19 → f ≠ 20 → gI T' 124 f = gI T 124 f) ∧ (∀ i, gR T' i = gR T i)
theorem acl {T : xS} {z e t u to : Nat} (Kk : RK T z e) (he : 1 ≤ e ∧ e ≤ 1000) (hz8 : z ≤ 8) (hto : to < z * e) (ht3 : to ≤ 3000) (ht : gI T 124 12 = Int32.ofNat t) (htl : t ≤ 3000) (hu : gI T 124 19 = Int32.ofNat u) (hu32 : u ≤ 32) :
    ∀ (r fuel v : Nat), r < fuel → v + r = z → q_Mo_account fuel T (Int32.ofNat to) (Int32.ofNat (min (to / e) (v - 1) * e)) (Int32.ofNat v) ∧
      gI (g_Mo_account fuel T (Int32.ofNat to) (Int32.ofNat (min (to / e) (v - 1) * e)) (Int32.ofNat v)).2 124 19 = Int32.ofNat (if to < t ∨ t < to / e * e then min (to - to / e * e) 32 else min (u + (to - t)) 32) ∧
      gI (g_Mo_account fuel T (Int32.ofNat to) (Int32.ofNat (min (to / e) (v - 1) * e)) (Int32.ofNat v)).2 124 20 = gI T 124 20 + Int32.ofNat (if to < t ∨ t < to / e * e then to - to / e * e else to - t) ∧ aF T (g_Mo_account fuel T (Int32.ofNat to) (Int32.ofNat (min (to / e) (v - 1) * e)) (Int32.ofNat v)).2 := by
  obtain ⟨k1, k2, k3⟩ := Kk
  have hq : to / e < z := (Nat.div_lt_iff_lt_mul he.1).mpr hto
  have hle : ∀ v, v ≤ to / e ↔ v * e ≤ to := fun v => Nat.le_div_iff_mul_le he.1
  have hce : to / e * e ≤ to := Nat.div_mul_le_self to e
  generalize to / e = c at *
  intro r
  induction r with
  | zero =>
    intro fuel v h1 h2
    obtain ⟨k, rfl⟩ : ∃ k, fuel = k + 1 := ⟨fuel - 1, by omega⟩
    have hc : gI T 124 22 ≤ Int32.ofNat v := by rw [k1]; exact (n32_le (by omega) (by omega)).mpr (by omega)
    have hm : min c (v - 1) = c := by omega
    rw [hm]
    have fin : ∀ (x y : Nat), x ≤ 4000 → y ≤ 4000 → ∀ (X : xS), X = (if gI (sI T 124 19 (Int32.ofNat x)) 124 19 ≤ 32 then ((0 : Int32), sI (sI (sI T 124 19 (Int32.ofNat x)) 124 19 (gI (sI T 124 19 (Int32.ofNat x)) 124 19)) 124 20 (gI (sI (sI T 124 19 (Int32.ofNat x)) 124 19 (gI (sI T 124 19 (Int32.ofNat x)) 124 19)) 124 20 + Int32.ofNat y)) else ((0 : Int32), sI (sI (sI T 124 19 (Int32.ofNat x)) 124 19 32) 124 20 (gI (sI (sI T 124 19 (Int32.ofNat x)) 124 19 32) 124 20 + Int32.ofNat y))).2 →
        gI X 124 19 = Int32.ofNat (min x 32) ∧ gI X 124 20 = gI T 124 20 + Int32.ofNat y ∧ aF T X := by
      intro x y hx hy X hX
      have g19 : gI (sI T 124 19 (Int32.ofNat x)) 124 19 = Int32.ofNat x := by rw [gI_sI, if_pos ⟨rfl, rfl⟩]
      have hx32 : (gI (sI T 124 19 (Int32.ofNat x)) 124 19 ≤ 32) ↔ x ≤ 32 := by rw [g19]; exact n32_le (b := 32) (by omega) (by decide)
      by_cases q : x ≤ 32
      · rw [if_pos (hx32.mpr q)] at hX
        dsimp only at hX
        rw [g19] at hX
        subst hX
        refine ⟨?_, ?_, fun f f1 f2 => ?_, fun i => rfl⟩
        · rw [gI_sI, if_neg (by decide), gI_sI, if_pos ⟨rfl, rfl⟩]
          congr 1
          omega
        · rw [gI_sI, if_pos ⟨rfl, rfl⟩, gI_sI, if_neg (by decide), gI_sI, if_neg (by decide)]
        · rw [gI_sI, if_neg (by omega), gI_sI, if_neg (by omega), gI_sI, if_neg (by omega)]
      · rw [if_neg (fun w => q (hx32.mp w))] at hX
        dsimp only at hX
        subst hX
        refine ⟨?_, ?_, fun f f1 f2 => ?_, fun i => rfl⟩
        · rw [gI_sI, if_neg (by decide), gI_sI, if_pos ⟨rfl, rfl⟩, show (32 : Int32) = Int32.ofNat 32 from rfl]
          congr 1
          omega
        · rw [gI_sI, if_pos ⟨rfl, rfl⟩, gI_sI, if_neg (by decide), gI_sI, if_neg (by decide)]
        · rw [gI_sI, if_neg (by omega), gI_sI, if_neg (by omega), gI_sI, if_neg (by omega)]
    have hlt : (Int32.ofNat to < gI T 124 12) ↔ to < t := by rw [ht]; exact n32_lt (by omega) (by omega)
    have hcl : (Int32.ofNat (c * e) ≤ gI T 124 12) ↔ c * e ≤ t := by rw [ht]; exact n32_le (by omega) (by omega)
    have s1 : (0 : Int32) + (Int32.ofNat to - Int32.ofNat (c * e)) = Int32.ofNat (to - c * e) := by
      rw [n32_sub hce, show (0 : Int32) = Int32.ofNat 0 from rfl, n32_add]
      congr 1
      omega
    have s2 : Int32.ofNat to - Int32.ofNat (c * e) = Int32.ofNat (to - c * e) := n32_sub hce
    unfold q_Mo_account g_Mo_account
    simp only [px_let_id]
    rw [if_pos hc, s1, s2]
    refine ⟨⟨fun _ => ⟨fun _ _ _ => ⟨fun _ _ _ _ _ => trivial, fun _ _ _ _ _ => trivial⟩, fun _ => ⟨fun _ _ _ => ⟨fun _ _ _ _ _ => trivial, fun _ _ _ _ _ => trivial⟩, fun _ _ _ => ⟨fun _ _ _ _ _ => trivial, fun _ _ _ _ _ => trivial⟩⟩⟩, fun w => absurd hc w⟩, ?_⟩
    by_cases a1 : to < t
    · rw [if_pos (hlt.mpr a1), if_pos (Or.inl a1), if_pos (Or.inl a1)]
      exact fin _ _ (by omega) (by omega) _ rfl
    · rw [if_neg (fun w => a1 (hlt.mp w))]
      by_cases a2 : c * e ≤ t
      · have s3 : gI T 124 19 + (Int32.ofNat to - gI T 124 12) = Int32.ofNat (u + (to - t)) := by rw [hu, ht, n32_sub (by omega), n32_add]
        have s4 : Int32.ofNat to - gI T 124 12 = Int32.ofNat (to - t) := by rw [ht]; exact n32_sub (by omega)
        rw [if_pos (hcl.mpr a2), if_neg (show ¬ (to < t ∨ t < c * e) by omega), if_neg (show ¬ (to < t ∨ t < c * e) by omega), s3, s4]
        exact fin _ _ (by omega) (by omega) _ rfl
      · rw [if_neg (fun w => a2 (hcl.mp w)), if_pos (show to < t ∨ t < c * e by omega), if_pos (show to < t ∨ t < c * e by omega)]
        exact fin _ _ (by omega) (by omega) _ rfl
  | succ r ih =>
    intro fuel v h1 h2
    obtain ⟨k, rfl⟩ : ∃ k, fuel = k + 1 := ⟨fuel - 1, by omega⟩
    have hc : ¬ gI T 124 22 ≤ Int32.ofNat v := by rw [k1, n32_le (by omega) (by omega)]; omega
    have hve : v * e ≤ 8 * 1000 := Nat.mul_le_mul (by omega) he.2
    have hcl : (Int32.ofNat v).toNatClampNeg = v := n32_clamp (by omega)
    have hv1 : Int32.ofNat v + 1 = Int32.ofNat (v + 1) := n32_add v 1
    have hvv : vp_in (Int32.ofNat v) 9 := vin_of (by omega) (by decide)
    have hle2 := hle v
    obtain ⟨i1, i2⟩ := ih k (v + 1) (by omega) (by omega)
    rw [show v + 1 - 1 = v by omega] at i1 i2
    unfold q_Mo_account g_Mo_account
    rw [if_neg hc, hcl, k3 v (by omega), hv1]
    have hlt : (Int32.ofNat to < Int32.ofNat (v * e)) ↔ to < v * e := n32_lt (by omega) (by omega)
    by_cases hx : to < v * e
    · have hm : min c (v - 1) = min c v := by omega
      rw [hm, if_pos (hlt.mpr hx)]
      exact ⟨⟨fun w => absurd w hc, fun _ => ⟨hvv, fun _ => i1, fun w => absurd (hlt.mpr hx) w⟩⟩, i2⟩
    · have hm : min c v = v := by omega
      rw [hm] at i1 i2
      rw [if_neg (fun w => hx (hlt.mp w))]
      exact ⟨⟨fun w => absurd w hc, fun _ => ⟨hvv, fun w => absurd (hlt.mp w) hx, fun _ => ⟨hvv, i1⟩⟩⟩, i2⟩
theorem racc {T : xS} {z e t u to : Nat} (Kk : RK T z e) (he : 1 ≤ e ∧ e ≤ 1000) (hz8 : z ≤ 8) (hto : to < z * e) (ht3 : to ≤ 3000) (ht : gI T 124 12 = Int32.ofNat t) (htl : t ≤ 3000) (hu : gI T 124 19 = Int32.ofNat u) (hu32 : u ≤ 32) (hne : to ≠ t) :
    p_Mo_account T (Int32.ofNat to) ∧ gI (f_Mo_account T (Int32.ofNat to)).2 124 19 = Int32.ofNat (acc t u e to).1 ∧ gI (f_Mo_account T (Int32.ofNat to)).2 124 20 = gI T 124 20 + Int32.ofNat (acc t u e to).2 ∧ aF T (f_Mo_account T (Int32.ofNat to)).2 := by
  obtain ⟨i1, i2, i3, i4⟩ := acl Kk he hz8 hto ht3 ht htl hu hu32 z 10 0 (by omega) (by omega)
  rw [show min (to / e) (0 - 1) = 0 from Nat.min_zero _, Nat.zero_mul] at i1 i2 i3 i4
  have hle : (gI T 124 12 ≤ Int32.ofNat to) ↔ t ≤ to := by rw [ht]; exact n32_le (by omega) (by omega)
  have i0 : g_Mo_account 10 T (Int32.ofNat to) 0 0 = g_Mo_account 10 T (Int32.ofNat to) (Int32.ofNat 0) (Int32.ofNat 0) := rfl
  have i0' : q_Mo_account 10 T (Int32.ofNat to) 0 0 := i1
  rw [← i0] at i2 i3 i4
  unfold p_Mo_account f_Mo_account acc
  rw [if_neg hne]
  by_cases a1 : t ≤ to
  · rw [if_pos (hle.mpr a1), if_neg (show ¬ (to < t ∧ t - to ≤ u) by omega)]
    refine ⟨⟨fun _ => i0', fun w => absurd (hle.mpr a1) w⟩, ?_, ?_, i4⟩
    · rw [i2]
      split <;> rfl
    · rw [i3]
      split <;> rfl
  · have a2 : ¬ gI T 124 12 ≤ Int32.ofNat to := fun w => a1 (hle.mp w)
    rw [if_neg a2]
    have ed : gI T 124 12 - Int32.ofNat to = Int32.ofNat (t - to) := by rw [ht]; exact n32_sub (by omega)
    have hus : (gI T 124 19 < gI T 124 12 - Int32.ofNat to) ↔ u < t - to := by rw [ed, hu]; exact n32_lt (by omega) (by omega)
    by_cases a3 : u < t - to
    · rw [if_pos (hus.mpr a3), if_neg (show ¬ (to < t ∧ t - to ≤ u) by omega)]
      refine ⟨⟨fun w => absurd w a2, fun _ => ⟨fun _ => i0', fun w => absurd (hus.mpr a3) w⟩⟩, ?_, ?_, i4⟩
      · rw [i2]
        split <;> rfl
      · rw [i3]
        split <;> rfl
    · have a4 : ¬ gI T 124 19 < gI T 124 12 - Int32.ofNat to := fun w => a3 (hus.mp w)
      rw [if_neg a4, if_pos (show to < t ∧ t - to ≤ u by omega)]
      simp only [px_let_id]
      refine ⟨⟨fun w => absurd w a2, fun _ => ⟨fun w => absurd w a4, fun _ _ _ => trivial⟩⟩, ?_, ?_, fun f f1 f2 => ?_, fun i => rfl⟩
      · rw [gI_sI, if_pos ⟨rfl, rfl⟩, ed, hu]
        exact n32_sub (by omega)
      · rw [gI_sI, if_neg (by decide)]
        show _ = gI T 124 20 + 0
        rw [Int32.add_zero]
      · rw [gI_sI, if_neg (by omega)]
