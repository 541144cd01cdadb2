/-! what the reference remembers, when it stops; the relation of the two -/
theorem rem_l : ∀ (r fuel : Nat) (T : xS) (v : Nat), r < fuel → v + r = 32 → q_Mo_remember fuel T (Int32.ofNat v) ∧ (∀ j, v ≤ j → j < 32 → gR (g_Mo_remember fuel T (Int32.ofNat v)).2 131 j = gR T 129 j) ∧ (∀ j, j < v → gR (g_Mo_remember fuel T (Int32.ofNat v)).2 131 j = gR T 131 j) ∧ (∀ i, i ≠ 131 → gR (g_Mo_remember fuel T (Int32.ofNat v)).2 i = gR T i) ∧ (∀ i f, gI (g_Mo_remember fuel T (Int32.ofNat v)).2 i f = gI T i f) := by
  intro r
  induction r with
  | zero =>
    intro fuel T v h1 h2
    obtain ⟨k, rfl⟩ : ∃ k, fuel = k + 1 := ⟨fuel - 1, by omega⟩
    have hc : (32 : Int32) ≤ Int32.ofNat v := (v32 v (by omega)).mpr (by omega)
    unfold q_Mo_remember g_Mo_remember
    rw [if_pos hc]
    exact ⟨⟨fun _ => trivial, fun h => absurd hc h⟩, fun j hj hj2 => absurd hj2 (by omega), fun _ _ => rfl, fun _ _ => rfl, fun _ _ => rfl⟩
  | succ r ih =>
    intro fuel T v h1 h2
    obtain ⟨k, rfl⟩ : ∃ k, fuel = k + 1 := ⟨fuel - 1, by omega⟩
    have hc : ¬ (32 : Int32) ≤ Int32.ofNat v := fun z => by rw [v32 v (by omega)] at z; omega
    have e1 : Int32.ofNat v + 1 = Int32.ofNat (v + 1) := n32_add v 1
    have hv : vp_in (Int32.ofNat v) 32 := vin_of (by omega) (by decide)
    obtain ⟨i1, i2, i3, i4, i5⟩ := ih k (sR T 131 (upd (gR T 131) v (gR T 129 v))) (v + 1) (by omega) (by omega)
    unfold q_Mo_remember g_Mo_remember
    simp only [px_let_id]
    rw [if_neg hc, n32_clamp (n := v) (by omega), e1]
    refine ⟨⟨fun h => absurd h hc, fun _ => ⟨hv, hv, fun S3 q => by subst q; exact i1⟩⟩, fun j hj hj2 => ?_, fun j hj => ?_, fun i hi => ?_, i5⟩
    · by_cases hjv : j = v
      · subst hjv
        rw [i3 j (by omega), gR_sR, if_pos rfl, upd_self]
      · rw [i2 j (by omega) hj2, gR_sR, if_neg (by decide)]
    · rw [i3 j (by omega), gR_sR, if_pos rfl, upd_ne _ _ (by omega)]
    · rw [i4 i hi, gR_sR, if_neg hi]
theorem rrem (T : xS) : p_Mo_remember T ∧ (∀ j, j < 32 → gR (f_Mo_remember T).2 131 j = gR T 129 j) ∧ (∀ i, i ≠ 131 → gR (f_Mo_remember T).2 i = gR T i) ∧ (∀ i f, gI (f_Mo_remember T).2 i f = gI T i f) := by
  obtain ⟨i1, i2, i3, i4, i5⟩ := rem_l 32 33 T 0 (by omega) (by omega)
  exact ⟨i1, fun j hj => i2 j (by omega) hj, i4, i5⟩
theorem stp_l {T : xS} : ∀ (r fuel v : Nat), r < fuel → v + r = 32 → (q_Mo_stop fuel T 1 (Int32.ofNat v) ∧ g_Mo_stop fuel T 1 (Int32.ofNat v) = 10) ∧ q_Mo_stop fuel T 0 (Int32.ofNat v) ∧ ((∀ c, v ≤ c → c < 32 → gR T 128 c = 0 ∨ gR T 129 c = gR T 131 c) → g_Mo_stop fuel T 0 (Int32.ofNat v) = 0) ∧ ((∃ c, v ≤ c ∧ c < 32 ∧ ¬ gR T 128 c = 0 ∧ ¬ gR T 129 c = gR T 131 c) → g_Mo_stop fuel T 0 (Int32.ofNat v) = 10) := by
  intro r
  induction r with
  | zero =>
    intro fuel v h1 h2
    obtain ⟨k, rfl⟩ : ∃ k, fuel = k + 1 := ⟨fuel - 1, by omega⟩
    have hc : (32 : Int32) ≤ Int32.ofNat v := (v32 v (by omega)).mpr (by omega)
    unfold q_Mo_stop g_Mo_stop
    rw [if_pos hc, if_pos hc, if_pos rfl, if_neg (by decide)]
    exact ⟨⟨⟨fun _ => ⟨fun _ => trivial, fun _ => trivial⟩, fun h => absurd hc h⟩, rfl⟩, ⟨fun _ => ⟨fun _ => trivial, fun _ => trivial⟩, fun h => absurd hc h⟩, fun _ => rfl, fun ⟨c, a1, a2, _⟩ => absurd a2 (by omega)⟩
  | succ r ih =>
    intro fuel v h1 h2
    obtain ⟨k, rfl⟩ : ∃ k, fuel = k + 1 := ⟨fuel - 1, by omega⟩
    have hc : ¬ (32 : Int32) ≤ Int32.ofNat v := fun z => by rw [v32 v (by omega)] at z; omega
    have e1 : Int32.ofNat v + 1 = Int32.ofNat (v + 1) := n32_add v 1
    have hv : vp_in (Int32.ofNat v) 32 := vin_of (by omega) (by decide)
    obtain ⟨⟨i1, i2⟩, i3, i4, i5⟩ := ih k (v + 1) (by omega) (by omega)
    unfold q_Mo_stop g_Mo_stop
    rw [if_neg hc, if_neg hc, if_pos rfl, if_neg (show ¬ (1 : Int32) = 0 by decide), n32_clamp (n := v) (by omega), e1]
    refine ⟨⟨⟨fun h => absurd h hc, fun _ => ⟨fun h => absurd h (by decide), fun _ => i1⟩⟩, i2⟩, ⟨fun h => absurd h hc, fun _ => ⟨fun _ => ⟨hv, fun _ => i3, fun _ => ⟨hv, hv, fun _ => i3, fun _ => i1⟩⟩, fun h => absurd rfl h⟩⟩, fun hh => ?_, fun ⟨c, c1, c2, c3, c4⟩ => ?_⟩
    · have h9 := i4 (fun c a b => hh c (by omega) b)
      by_cases a1 : gR T 128 v = 0
      · rw [if_pos a1]; exact h9
      · rw [if_neg a1]
        rcases hh v (Nat.le_refl _) (by omega) with a2 | a2
        · exact absurd a2 a1
        · rw [if_pos a2]; exact h9
    · by_cases a1 : gR T 128 v = 0
      · rw [if_pos a1]
        exact i5 ⟨c, by
          have : c ≠ v := fun q => c3 (by rw [q]; exact a1)
          omega, c2, c3, c4⟩
      · rw [if_neg a1]
        by_cases a2 : gR T 129 v = gR T 131 v
        · rw [if_pos a2]
          exact i5 ⟨c, by
            have : c ≠ v := fun q => c4 (by rw [q]; exact a2)
            omega, c2, c3, c4⟩
        · rw [if_neg a2]; exact i2
/-- both stop alike -/
theorem stops {S T : xS} {m m' : aM} {h k n i : Nat} (hv : vw S 4 = m') (R : rv T m' h k n) (hb : gR T 127 = gR S 122) (hw : gR T 128 = gR S 123) (hc : chg m m') (hwere : ∀ c, c < 32 → gR T 131 c = m.2 c) (ht : m'.1 0 = Int32.ofNat i) (hi : 1 ≤ i ∧ i ≤ 3000) : p_RM_stopHere S ∧ p_Mo_stop T ∧ f_RM_stopHere S = f_Mo_stop T := by
  have r1 := R.2.1
  have r11 := R.2.2.2.2.2.2.2.2.2.2.2.1
  have t0 : ¬ gI S 4 0 = 0 := by rw [vw_reg hv (by decide), ht, show (0 : Int32) = Int32.ofNat 0 from rfl, n32_eq (by omega) (by decide)]; omega
  have e1 := vw_reg hv (k := 1) (by decide)
  have e6 := vw_reg hv (k := 6) (by decide)
  obtain ⟨-, i3, i4, i5⟩ := stp_l (T := T) 32 33 0 (by omega) (by omega)
  have q0 : q_Mo_stop 33 T 0 0 := i3
  -- the watches
  have hwat : ((f_RM_within (gI S 4 6) 32 = 0 ∨ (¬ f_RM_within (gI S 4 6) 32 = 0 ∧ gR S 123 (gI S 4 6).toNatClampNeg = 0)) ∧ g_Mo_stop 33 T 0 0 = 0) ∨ ((¬ f_RM_within (gI S 4 6) 32 = 0 ∧ ¬ gR S 123 (gI S 4 6).toNatClampNeg = 0) ∧ g_Mo_stop 33 T 0 0 = 10) := by
    rw [e6]
    rcases hc with ⟨c1, c2⟩ | ⟨c, c0, c1, c2, c3⟩
    · left
      refine ⟨Or.inl (by rw [c1]; decide), i4 (fun d _ d2 => Or.inr ?_)⟩
      rw [r11 d d2, hwere d d2]; exact c2 d d2
    · have hin : f_RM_within (m'.1 6) 32 = 1 := by rw [c1]; exact wi_in (n := 32) c0 (by decide)
      have hcl : (m'.1 6).toNatClampNeg = c := by rw [c1]; exact n32_clamp (by omega)
      rw [hin, hcl]
      by_cases a1 : gR S 123 c = 0
      · left
        refine ⟨Or.inr ⟨by decide, a1⟩, i4 (fun d _ d2 => ?_)⟩
        by_cases hd : d = c
        · left; rw [hw, hd]; exact a1
        · right; rw [r11 d d2, hwere d d2]; exact c3 d d2 hd
      · right
        refine ⟨⟨by decide, a1⟩, i5 ⟨c, by omega, c0, by rw [hw]; exact a1, ?_⟩⟩
        rw [r11 c c0, hwere c c0]; exact c2
  have pW : ∀ r5 : Int32, r5 = f_RM_within (gI S 4 6) 32 → (r5 = 0 → True) ∧ (¬ r5 = 0 → vp_in (gI S 4 6) 32 ∧ ((gR S 123 (gI S 4 6).toNatClampNeg = 0 → True) ∧ (¬ gR S 123 (gI S 4 6).toNatClampNeg = 0 → True))) := fun r5 q5 => ⟨fun _ => trivial, fun h5 => by
    rw [q5] at h5
    obtain ⟨c, hc, ec⟩ := wi32 h5
    exact ⟨by rw [ec]; exact vin_of hc (by decide), fun _ => trivial, fun _ => trivial⟩⟩
  have fW : (if f_RM_within (gI S 4 6) 32 = 0 then (0 : Int32) else if gR S 123 (gI S 4 6).toNatClampNeg = 0 then 0 else 10) = g_Mo_stop 33 T 0 0 := by
    rcases hwat with ⟨a1 | ⟨a1, a2⟩, a3⟩ | ⟨⟨a1, a2⟩, a3⟩
    · rw [if_pos a1, a3]
    · rw [if_neg a1, if_pos a2, a3]
    · rw [if_neg a1, if_neg a2, a3]
  unfold p_RM_stopHere p_Mo_stop f_RM_stopHere f_Mo_stop
  simp only [px_let_id]
  rw [if_neg t0, e1, r1, hb, fW]
  rcases wi_cases (m'.1 1) 64 with ⟨g1, g2⟩ | ⟨g1, g2, g3⟩
  · rw [g1, if_pos rfl]
    have hx : (if m'.1 1 < 0 then g_Mo_stop 33 T 0 0 else if 64 ≤ m'.1 1 then g_Mo_stop 33 T 0 0 else if gR S 122 (m'.1 1).toNatClampNeg = 0 then g_Mo_stop 33 T 0 0 else 9) = g_Mo_stop 33 T 0 0 := by
      rcases g2 with g2 | g2
      · rw [if_pos g2]
      · by_cases g3 : m'.1 1 < 0
        · rw [if_pos g3]
        · rw [if_neg g3, if_pos g2]
    rw [hx]
    refine ⟨⟨fun h => absurd h t0, fun _ r2 q2 => ⟨fun _ => pW, fun h => absurd q2 h⟩⟩, ⟨fun _ => q0, fun w1 => ⟨fun _ => q0, fun w2 => ?_⟩⟩, rfl⟩
    rcases g2 with g2 | g2
    · exact absurd g2 w1
    · exact absurd g2 w2
  · rw [g1, if_neg (show ¬ (1 : Int32) = 0 by decide), if_neg g2, if_neg g3]
    obtain ⟨c, hc, ec⟩ := wi_get (n := 64) (by decide) (show ¬ f_RM_within (m'.1 1) 64 = 0 by rw [g1]; decide)
    have hvp : vp_in (m'.1 1) 64 := by rw [ec]; exact vin_of hc (by decide)
    exact ⟨⟨fun h => absurd h t0, fun _ r2 q2 => ⟨fun h => absurd (q2.symm.trans h) (by decide), fun _ => ⟨hvp, fun _ => pW, fun _ => trivial⟩⟩⟩, ⟨fun _ => q0, fun w1 => ⟨fun _ => q0, fun w2 => ⟨hvp, fun _ => q0, fun _ => trivial⟩⟩⟩, rfl⟩
def LN (S T : xS) (n g u : Nat) : Prop := gR T 125 = gR S 2 ∧ gR T 126 = gR S 3 ∧ gR T 127 = gR S 122 ∧ gR T 128 = gR S 123 ∧ gI S 1 4 = Int32.ofNat n ∧ gI T 124 11 = Int32.ofNat n ∧ n ≤ 40 ∧ gI S 0 4 = Int32.ofNat g ∧ gI T 124 18 = Int32.ofNat g ∧ g ≤ 3000 ∧ gI S 0 5 = gI T 124 20 ∧ gI T 124 19 = Int32.ofNat u ∧ (∀ j, gR S 122 j = 0 ∨ gR S 122 j = 1) ∧ (∀ j, gR S 123 j = 0 ∨ gR S 123 j = 1)
def RL (S T : xS) (tr : Nat → aM) (t g n u q z e h k : Nat) : Prop := LN S T n g u ∧ CI S tr t u q ∧ CP S tr z e ∧ RK T z e ∧ RM T tr g ∧ rv T (tr t) h k n ∧ t ≤ g ∧ (z - 1) * e ≤ g ∧ g < z * e ∧ trk (gR S 2) (gR S 3) n g tr ∧ trg n g tr
def Rel (S T : xS) : Prop := ∃ (tr : Nat → aM) (t g n u q z e h k : Nat), RL S T tr t g n u q z e h k
/-- the reference's code of a call, and what it remembers, don't matter -/
def tF (T T' : xS) : Prop := (∀ f, f ≠ 10 → gI T' 124 f = gI T 124 f) ∧ (∀ i, i ≠ 131 → gR T' i = gR T i)
section RLS
variable {S T T' : xS} {tr : Nat → aM} {t g n u q z e h k : Nat}
theorem RL_tF (L : RL S T tr t g n u q z e h k) (hf : tF T T') : RL S T' tr t g n u q z e h k := by
  obtain ⟨⟨l1, l2, l3, l4, l5, l6, l7, l8, l9, l10, l11, l12, l13, l14⟩, c, p, rk, rm, r, a1, a2, a3, a4, a5⟩ := L
  refine ⟨⟨by rw [hf.2 125 (by decide)]; exact l1, by rw [hf.2 126 (by decide)]; exact l2, by rw [hf.2 127 (by decide)]; exact l3, by rw [hf.2 128 (by decide)]; exact l4, l5, by rw [hf.1 11 (by decide)]; exact l6, l7, l8, by rw [hf.1 18 (by decide)]; exact l9, l10, by rw [hf.1 20 (by decide)]; exact l11, by rw [hf.1 19 (by decide)]; exact l12, l13, l14⟩, c, p, ⟨by rw [hf.1 22 (by decide)]; exact rk.1, by rw [hf.1 21 (by decide)]; exact rk.2.1, by rw [hf.2 134 (by decide)]; exact rk.2.2⟩, RM_rF rm (hf.2 132 (by decide)) (hf.2 133 (by decide)), rv_same r (fun f h1 h2 => hf.1 f (by omega)) (hf.2 129 (by decide)) (hf.2 130 (by decide)), a1, a2, a3, a4, a5⟩
theorem CP_05 {S : xS} {tr : Nat → aM} {z e : Nat} (C : CP S tr z e) {i f : Nat} (hi : i < 104) (x : Int32) : CP (sI S i f x) tr z e := by
  obtain ⟨h1, h2, h3, h4, h5, h6, h7, h8⟩ := C
  refine ⟨by rw [gI_sI, if_neg (by omega)]; exact h1, by rw [gI_sI, if_neg (by omega)]; exact h2, h3, h4, h5, h6, fun j hj => ?_, h8⟩
  rw [← h7 j hj]
  refine Prod.ext ?_ rfl
  funext k
  simp only [vw, gI_sI, gK_sI]
  rw [if_neg (show ¬ (iS (gK S j) = i ∧ k = f) by unfold iS; omega)]
theorem RL_c0 (L : RL S T tr t g n u q z e h k) : RL (sI S 0 5 0) (sI T 124 20 0) tr t g n u q z e h k := by
  obtain ⟨⟨l1, l2, l3, l4, l5, l6, l7, l8, l9, l10, l11, l12, l13, l14⟩, c, p, rk, rm, r, a1, a2, a3, a4, a5⟩ := L
  refine ⟨⟨l1, l2, l3, l4, by rw [gI_sI, if_neg (by decide)]; exact l5, by rw [gI_sI, if_neg (by decide)]; exact l6, l7, by rw [gI_sI, if_neg (by decide)]; exact l8, by rw [gI_sI, if_neg (by decide)]; exact l9, l10, by rw [gI_sI, if_pos ⟨rfl, rfl⟩, gI_sI, if_pos ⟨rfl, rfl⟩], by rw [gI_sI, if_neg (by decide)]; exact l12, l13, l14⟩, CI_05 c (Or.inl (by decide)) _, CP_05 p (by decide) _, ⟨by rw [gI_sI, if_neg (by decide)]; exact rk.1, by rw [gI_sI, if_neg (by decide)]; exact rk.2.1, rk.2.2⟩, RM_rF rm rfl rfl, rv_same r (fun f h1 h2 => by rw [gI_sI, if_neg (by omega)]) rfl rfl, a1, a2, a3, a4, a5⟩
theorem RL_ext {tr' : Nat → aM} (L : RL S T tr t g n u q z e h k) (he : ∀ i, i ≤ g → tr' i = tr i) : RL S T tr' t g n u q z e h k := by
  obtain ⟨l, ⟨c1, c2, c3, c4, c5, c6, c7⟩, ⟨p1, p2, p3, p4, p5, p6, p7, p8⟩, rk, rm, r, a1, a2, a3, a4, a5⟩ := L
  refine ⟨l, ⟨by rw [he t a1]; exact c1, c2, c3, c4, c5, c6, fun j hj => ?_⟩, ⟨p1, p2, p3, p4, p5, p6, fun i hi => ?_, p8⟩, rk, fun K hK => ?_, by rw [he t a1]; exact r, a1, a2, a3, fun i hi => ?_, fun i hi => ?_⟩
  · rw [he _ (by omega), he _ (by omega)]; exact c7 j hj
  · rw [he _ (Nat.le_trans (Nat.mul_le_mul_right e (by omega)) a2)]; exact p7 i hi
  · rw [he _ hK]; exact rm K hK
  · rw [he i (by omega), he (i + 1) (by omega)]; exact a4 i hi
  · rw [he i hi]; exact a5 i hi
end RLS
