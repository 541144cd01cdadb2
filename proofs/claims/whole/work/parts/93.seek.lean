/-! the reference goes to a time -/
theorem rF_tr {A B C : xS} (h1 : rF A B) (h2 : rF B C) : rF A C := ⟨fun f h => (h2.1 f h).trans (h1.1 f h), fun i a b => (h2.2 i a b).trans (h1.2 i a b)⟩
theorem sk3 {tr : Nat → aM} {cd inp : Nat → Int32} {n g : Nat} (K : trk cd inp n g tr) (G : trg n g tr) (hg : g ≤ 3000) : ∀ (r fuel : Nat) (T : xS) (t u h k : Nat), r < fuel → t + r = u → u ≤ g → gR T 125 = cd → gR T 126 = inp → rv T (tr t) h k n →
    q_Mo_seek_3 fuel T (Int32.ofNat u) ∧ ∃ h' k', rs T (g_Mo_seek_3 fuel T (Int32.ofNat u)).2 (tr u) h' k' n := by
  intro r
  induction r with
  | zero =>
    intro fuel T t u h k h1 h2 h3 e1 e2 R
    obtain ⟨kk, rfl⟩ : ∃ kk, fuel = kk + 1 := ⟨fuel - 1, by omega⟩
    have ht : gI T 124 12 = Int32.ofNat t := R.1.trans (G t (by omega)).1
    have hc : Int32.ofNat u ≤ gI T 124 12 := by rw [ht]; exact (n32_le (by omega) (by omega)).mpr (by omega)
    unfold q_Mo_seek_3 g_Mo_seek_3
    rw [if_pos hc]
    have : t = u := by omega
    subst this
    exact ⟨⟨fun _ => trivial, fun h => absurd hc h⟩, h, k, R, rF_rf⟩
  | succ r ih =>
    intro fuel T t u h k h1 h2 h3 e1 e2 R
    obtain ⟨kk, rfl⟩ : ∃ kk, fuel = kk + 1 := ⟨fuel - 1, by omega⟩
    have ht : gI T 124 12 = Int32.ofNat t := R.1.trans (G t (by omega)).1
    have hc : ¬ Int32.ofNat u ≤ gI T 124 12 := by rw [ht, n32_le (by omega) (by omega)]; omega
    obtain ⟨k1, k2⟩ := K t (by omega)
    obtain ⟨p1, h', k', p2, p3⟩ := r_step R (by rw [e1]; exact k1)
    rw [e1, e2, ← k2] at p2
    unfold q_Mo_seek_3 g_Mo_seek_3
    simp only [px_let_id]
    rw [if_neg hc]
    obtain ⟨i1, h2', k2', i2, i3⟩ := ih kk (f_Mo_perform T).2 (t + 1) u h' k' (by omega) (by omega) h3 (by rw [p3.2 125 (by decide) (by decide)]; exact e1) (by rw [p3.2 126 (by decide) (by decide)]; exact e2) p2
    exact ⟨⟨fun h => absurd h hc, fun _ => ⟨p1, fun S3 q => by subst q; exact i1⟩⟩, h2', k2', i2, rF_tr p3 i3⟩
theorem sk2 {tr : Nat → aM} {cd inp : Nat → Int32} {n g K u : Nat} (hu : 250 * K ≤ u) (hug : u ≤ g) (hK : K ≤ 12) (KK : trk cd inp n g tr) (G : trg n g tr) (hg : g ≤ 3000) (hn : n ≤ 40) : ∀ (r fuel : Nat) (T : xS) (v : Nat), r < fuel → v + r = 24 → gR T 125 = cd → gR T 126 = inp → mkv T K (tr (250 * K)) → (∀ j, j < 32 → gR T 129 j = (tr (250 * K)).2 j) → (∀ j, j < v → gR T 130 j = gR T 132 (56 * K + 32 + j)) →
    q_Mo_seek_2 fuel T (Int32.ofNat u) (Int32.ofNat K) (Int32.ofNat v) ∧ ∃ h' k', rs T (g_Mo_seek_2 fuel T (Int32.ofNat u) (Int32.ofNat K) (Int32.ofNat v)).2 (tr u) h' k' n := by
  intro r
  induction r with
  | zero =>
    intro fuel T v h1 h2 e1 e2 M hc hs
    obtain ⟨k, rfl⟩ : ∃ k, fuel = k + 1 := ⟨fuel - 1, by omega⟩
    have hcc : (24 : Int32) ≤ Int32.ofNat v := (v24 v (by omega)).mpr (by omega)
    have w0 : vp_in (Int32.ofNat (5 * K)) 65 := vin_of (by omega) (by decide)
    have w1 : vp_in (Int32.ofNat (5 * K + 1)) 65 := vin_of (by omega) (by decide)
    have w2 : vp_in (Int32.ofNat (5 * K + 2)) 65 := vin_of (by omega) (by decide)
    have w3 : vp_in (Int32.ofNat (5 * K + 3)) 65 := vin_of (by omega) (by decide)
    have w4 : vp_in (Int32.ofNat (5 * K + 4)) 65 := vin_of (by omega) (by decide)
    obtain ⟨m1, m2, m3, m4, m5, m6, m7⟩ := M
    obtain ⟨g1, ⟨h, hh, g2⟩, ⟨k', hk', g3⟩, -⟩ := G (250 * K) (by omega)
    have e250 : (250 : Int32) * Int32.ofNat K = Int32.ofNat (250 * K) := by rw [show (250 : Int32) = Int32.ofNat 250 from rfl, n32_mul]
    have R17 : rv (sI (sI (sI (sI (sI (sI T 124 13 (gR T 133 (5 * K))) 124 14 (gR T 133 (5 * K + 1))) 124 15 (gR T 133 (5 * K + 2))) 124 16 (gR T 133 (5 * K + 3))) 124 17 (gR T 133 (5 * K + 4))) 124 12 (Int32.ofNat (250 * K))) (tr (250 * K)) h k' n := by
      refine ⟨by simp [gI_sI, g1], by simp [gI_sI, m3], by simp [gI_sI, m4], by simp [gI_sI, m5], by simp [gI_sI, m6], by simp [gI_sI, m7], g2, hh, g3, hk', hn, hc, fun j hj => ?_⟩
      show gR T 130 j = _
      rw [hs j (by omega)]
      exact m2 h hh g2 j hj
    obtain ⟨i1, h2', k2', i2, i3⟩ := sk3 KK G hg (u - 250 * K) 3001 _ (250 * K) u h k' (by omega) (by omega) hug (by exact e1) (by exact e2) R17
    unfold q_Mo_seek_2 g_Mo_seek_2
    simp only [px_let_id]
    rw [if_pos hcc, ix5, ix51, ix52, ix53, ix54, n32_clamp (n := 5 * K) (by omega), n32_clamp (n := 5 * K + 1) (by omega), n32_clamp (n := 5 * K + 2) (by omega), n32_clamp (n := 5 * K + 3) (by omega), n32_clamp (n := 5 * K + 4) (by omega), e250]
    simp only [gR_sI]
    refine ⟨⟨fun _ => ⟨w0, fun S3 q3 => ⟨w1, fun S6 q6 => ⟨w2, fun S9 q9 => ⟨w3, fun S12 q12 => ⟨w4, fun S15 q15 S17 q17 => ?_⟩⟩⟩⟩⟩, fun h => absurd hcc h⟩, h2', k2', i2, rF_tr ?_ i3⟩
    · subst q3; subst q6; subst q9; subst q12; subst q15; subst q17
      exact i1
    · refine ⟨fun f hf => ?_, fun i a b => rfl⟩
      rw [gI_sI, if_neg (by omega), gI_sI, if_neg (by omega), gI_sI, if_neg (by omega), gI_sI, if_neg (by omega), gI_sI, if_neg (by omega), gI_sI, if_neg (by omega)]
  | succ r ih =>
    intro fuel T v h1 h2 e1 e2 M hc hs
    obtain ⟨k, rfl⟩ : ∃ k, fuel = k + 1 := ⟨fuel - 1, by omega⟩
    have hcc : ¬ (24 : Int32) ≤ Int32.ofNat v := fun z => by rw [v24 v (by omega)] at z; omega
    have ev : Int32.ofNat v + 1 = Int32.ofNat (v + 1) := n32_add v 1
    obtain ⟨i1, h', k', i2, i3⟩ := ih k (sR T 130 (upd (gR T 130) v (gR T 132 (56 * K + 32 + v)))) (v + 1) (by omega) (by omega) (by rw [gR_sR, if_neg (by decide)]; exact e1) (by rw [gR_sR, if_neg (by decide)]; exact e2) M (fun j hj => by rw [gR_sR, if_neg (by decide)]; exact hc j hj) (fun j hj => by
      rw [gR_sR, if_pos rfl, gR_sR, if_neg (by decide)]
      by_cases hjv : j = v
      · subst hjv; rw [upd_self]
      · rw [upd_ne _ _ hjv]; exact hs j (by omega))
    unfold q_Mo_seek_2 g_Mo_seek_2
    simp only [px_let_id]
    rw [if_neg hcc, ix5632, n32_clamp (n := 56 * K + 32 + v) (by omega), n32_clamp (n := v) (by omega), ev]
    refine ⟨⟨fun h => absurd h hcc, fun _ => ⟨vin_of (by omega) (by decide), vin_of (by omega) (by decide), fun S20 q => by subst q; exact i1⟩⟩, h', k', i2, rF_tr ?_ i3⟩
    exact ⟨fun f _ => rfl, fun i a b => by rw [gR_sR, if_neg b]⟩
theorem sk1 {tr : Nat → aM} {cd inp : Nat → Int32} {n g K u : Nat} (hu : 250 * K ≤ u) (hug : u ≤ g) (hK : K ≤ 12) (KK : trk cd inp n g tr) (G : trg n g tr) (hg : g ≤ 3000) (hn : n ≤ 40) : ∀ (r fuel : Nat) (T : xS) (v : Nat), r < fuel → v + r = 32 → gR T 125 = cd → gR T 126 = inp → mkv T K (tr (250 * K)) → (∀ j, j < v → gR T 129 j = (tr (250 * K)).2 j) →
    q_Mo_seek_1 fuel T (Int32.ofNat u) (Int32.ofNat K) (Int32.ofNat v) ∧ ∃ h' k', rs T (g_Mo_seek_1 fuel T (Int32.ofNat u) (Int32.ofNat K) (Int32.ofNat v)).2 (tr u) h' k' n := by
  intro r
  induction r with
  | zero =>
    intro fuel T v h1 h2 e1 e2 M hc
    obtain ⟨k, rfl⟩ : ∃ k, fuel = k + 1 := ⟨fuel - 1, by omega⟩
    have hcc : (32 : Int32) ≤ Int32.ofNat v := (v32 v (by omega)).mpr (by omega)
    obtain ⟨i1, i2⟩ := sk2 hu hug hK KK G hg hn 24 25 T 0 (by omega) (by omega) e1 e2 M (fun j hj => hc j (by omega)) (fun j hj => absurd hj (by omega))
    unfold q_Mo_seek_1 g_Mo_seek_1
    rw [if_pos hcc]
    exact ⟨⟨fun _ => i1, fun h => absurd hcc h⟩, i2⟩
  | succ r ih =>
    intro fuel T v h1 h2 e1 e2 M hc
    obtain ⟨k, rfl⟩ : ∃ k, fuel = k + 1 := ⟨fuel - 1, by omega⟩
    have hcc : ¬ (32 : Int32) ≤ Int32.ofNat v := fun z => by rw [v32 v (by omega)] at z; omega
    have ev : Int32.ofNat v + 1 = Int32.ofNat (v + 1) := n32_add v 1
    obtain ⟨i1, h', k', i2, i3⟩ := ih k (sR T 129 (upd (gR T 129) v (gR T 132 (56 * K + v)))) (v + 1) (by omega) (by omega) (by rw [gR_sR, if_neg (by decide)]; exact e1) (by rw [gR_sR, if_neg (by decide)]; exact e2) M (fun j hj => by
      rw [gR_sR, if_pos rfl]
      by_cases hjv : j = v
      · subst hjv; rw [upd_self]; exact M.1 j (by omega)
      · rw [upd_ne _ _ hjv]; exact hc j (by omega))
    unfold q_Mo_seek_1 g_Mo_seek_1
    simp only [px_let_id]
    rw [if_neg hcc, ix56, n32_clamp (n := 56 * K + v) (by omega), n32_clamp (n := v) (by omega), ev]
    refine ⟨⟨fun h => absurd h hcc, fun _ => ⟨vin_of (by omega) (by decide), vin_of (by omega) (by decide), fun S3 q => by subst q; exact i1⟩⟩, h', k', i2, rF_tr ?_ i3⟩
    exact ⟨fun f _ => rfl, fun i a b => by rw [gR_sR, if_neg a]⟩
def RM (T : xS) (tr : Nat → aM) (g : Nat) : Prop := ∀ K, 250 * K ≤ g → mkv T K (tr (250 * K))
theorem rseek {T : xS} {tr : Nat → aM} {n g t u h k : Nat} (R : rv T (tr t) h k n) (KK : trk (gR T 125) (gR T 126) n g tr) (G : trg n g tr) (M : RM T tr g) (hg : g ≤ 3000) (ht : t ≤ g) (hu : u ≤ g) : p_Mo_seek T (Int32.ofNat u) ∧ ∃ h' k', rs T (f_Mo_seek T (Int32.ofNat u)).2 (tr u) h' k' n := by
  have htm : gI T 124 12 = Int32.ofNat t := R.1.trans (G t ht).1
  have hn : n ≤ 40 := R.2.2.2.2.2.2.2.2.2.2.1
  unfold p_Mo_seek f_Mo_seek
  by_cases hc : t ≤ u
  · have hc2 : gI T 124 12 ≤ Int32.ofNat u := by rw [htm]; exact (n32_le (by omega) (by omega)).mpr hc
    rw [if_pos hc2]
    obtain ⟨i1, i2⟩ := sk3 KK G hg (u - t) 3001 T t u h k (by omega) (by omega) hu rfl rfl R
    exact ⟨⟨fun _ => i1, fun h => absurd hc2 h⟩, i2⟩
  · have hc2 : ¬ gI T 124 12 ≤ Int32.ofNat u := by rw [htm, n32_le (by omega) (by omega)]; omega
    rw [if_neg hc2]
    have hd : Int32.ofNat u / 250 = Int32.ofNat (u / 250) := n32_div (b := 250) (by omega) (by decide)
    rw [hd]
    obtain ⟨i1, i2⟩ := sk1 (K := u / 250) (u := u) (by omega) hu (by omega) KK G hg hn 32 33 T 0 (by omega) (by omega) rfl rfl (M _ (by omega)) (fun j hj => absurd hj (by omega))
    exact ⟨⟨fun h => absurd h hc2, fun _ => i1⟩, i2⟩
theorem RM_rF {T T' : xS} {tr : Nat → aM} {g : Nat} (M : RM T tr g) (h1 : gR T' 132 = gR T 132) (h2 : gR T' 133 = gR T 133) : RM T' tr g := by
  intro K hK
  have := M K hK
  unfold mkv at *
  rw [h1, h2]
  exact this
