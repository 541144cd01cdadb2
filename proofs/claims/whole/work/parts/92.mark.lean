/-! the reference's marks, and its ways through time -/
def mkv (T : xS) (K : Nat) (m : aM) : Prop := (∀ j, j < 32 → gR T 132 (56 * K + j) = m.2 j) ∧ (∀ h, h ≤ 24 → m.1 5 = Int32.ofNat h → ∀ j, j < h → gR T 132 (56 * K + 32 + j) = m.2 (32 + j)) ∧ gR T 133 (5 * K) = m.1 1 ∧ gR T 133 (5 * K + 1) = m.1 2 ∧ gR T 133 (5 * K + 2) = m.1 3 ∧ gR T 133 (5 * K + 3) = m.1 4 ∧ gR T 133 (5 * K + 4) = m.1 5
/-- all else stays -/
def mF (T T' : xS) : Prop := (∀ i f, gI T' i f = gI T i f) ∧ (∀ i, i ≠ 132 → i ≠ 133 → gR T' i = gR T i)
theorem ix56 (K v : Nat) : (56 : Int32) * Int32.ofNat K + Int32.ofNat v = Int32.ofNat (56 * K + v) := by
  rw [show (56 : Int32) = Int32.ofNat 56 from rfl, n32_mul, n32_add]
theorem ix5632 (K v : Nat) : (56 : Int32) * Int32.ofNat K + 32 + Int32.ofNat v = Int32.ofNat (56 * K + 32 + v) := by
  rw [show (56 : Int32) = Int32.ofNat 56 from rfl, n32_mul, show (32 : Int32) = Int32.ofNat 32 from rfl, n32_add, n32_add]
theorem ix5 (K : Nat) : (5 : Int32) * Int32.ofNat K = Int32.ofNat (5 * K) := by
  rw [show (5 : Int32) = Int32.ofNat 5 from rfl, n32_mul]
theorem ix51 (K : Nat) : Int32.ofNat (5 * K) + 1 = Int32.ofNat (5 * K + 1) := n32_add _ 1
theorem ix52 (K : Nat) : Int32.ofNat (5 * K) + 2 = Int32.ofNat (5 * K + 2) := n32_add _ 2
theorem ix53 (K : Nat) : Int32.ofNat (5 * K) + 3 = Int32.ofNat (5 * K + 3) := n32_add _ 3
theorem ix54 (K : Nat) : Int32.ofNat (5 * K) + 4 = Int32.ofNat (5 * K + 4) := n32_add _ 4
theorem v24 (v : Nat) (h : v < 4000) : ((24 : Int32) ≤ Int32.ofNat v) ↔ 24 ≤ v := n32_le (a := 24) (by decide) (by omega)
theorem v32 (v : Nat) (h : v < 4000) : ((32 : Int32) ≤ Int32.ofNat v) ↔ 32 ≤ v := n32_le (a := 32) (by decide) (by omega)
theorem mk2 {K : Nat} (hK : K ≤ 12) : ∀ (r fuel : Nat) (S : xS) (v : Nat), r < fuel → v + r = 24 → q_Mo_mark_2 fuel S (Int32.ofNat K) (Int32.ofNat v) ∧
    (∀ j, v ≤ j → j < 24 → gR (g_Mo_mark_2 fuel S (Int32.ofNat K) (Int32.ofNat v)).2 132 (56 * K + 32 + j) = gR S 130 j) ∧ (∀ a, (a < 56 * K + 32 + v ∨ 56 * K + 56 ≤ a) → gR (g_Mo_mark_2 fuel S (Int32.ofNat K) (Int32.ofNat v)).2 132 a = gR S 132 a) ∧
    (gR (g_Mo_mark_2 fuel S (Int32.ofNat K) (Int32.ofNat v)).2 133 (5 * K) = gI S 124 13 ∧ gR (g_Mo_mark_2 fuel S (Int32.ofNat K) (Int32.ofNat v)).2 133 (5 * K + 1) = gI S 124 14 ∧ gR (g_Mo_mark_2 fuel S (Int32.ofNat K) (Int32.ofNat v)).2 133 (5 * K + 2) = gI S 124 15 ∧ gR (g_Mo_mark_2 fuel S (Int32.ofNat K) (Int32.ofNat v)).2 133 (5 * K + 3) = gI S 124 16 ∧ gR (g_Mo_mark_2 fuel S (Int32.ofNat K) (Int32.ofNat v)).2 133 (5 * K + 4) = gI S 124 17) ∧
    (∀ a, (a < 5 * K ∨ 5 * K + 5 ≤ a) → gR (g_Mo_mark_2 fuel S (Int32.ofNat K) (Int32.ofNat v)).2 133 a = gR S 133 a) ∧ mF S (g_Mo_mark_2 fuel S (Int32.ofNat K) (Int32.ofNat v)).2 := by
  intro r
  induction r with
  | zero =>
    intro fuel S v h1 h2
    obtain ⟨k, rfl⟩ : ∃ k, fuel = k + 1 := ⟨fuel - 1, by omega⟩
    have hc : (24 : Int32) ≤ Int32.ofNat v := (v24 v (by omega)).mpr (by omega)
    have w0 : vp_in (Int32.ofNat (5 * K)) 65 := vin_of (by omega) (by decide)
    have w1 : vp_in (Int32.ofNat (5 * K + 1)) 65 := vin_of (by omega) (by decide)
    have w2 : vp_in (Int32.ofNat (5 * K + 2)) 65 := vin_of (by omega) (by decide)
    have w3 : vp_in (Int32.ofNat (5 * K + 3)) 65 := vin_of (by omega) (by decide)
    have w4 : vp_in (Int32.ofNat (5 * K + 4)) 65 := vin_of (by omega) (by decide)
    unfold q_Mo_mark_2 g_Mo_mark_2
    simp only [px_let_id]
    rw [if_pos hc, ix5, ix51, ix52, ix53, ix54, n32_clamp (n := 5 * K) (by omega), n32_clamp (n := 5 * K + 1) (by omega), n32_clamp (n := 5 * K + 2) (by omega), n32_clamp (n := 5 * K + 3) (by omega), n32_clamp (n := 5 * K + 4) (by omega)]
    simp only [gI_sR, gR_sR, if_true]
    refine ⟨⟨fun _ => ⟨w0, fun _ _ => ⟨w1, fun _ _ => ⟨w2, fun _ _ => ⟨w3, fun _ _ => ⟨w4, fun _ _ => trivial⟩⟩⟩⟩⟩, fun h => absurd hc h⟩, fun j hj hj2 => absurd hj2 (by omega), fun a ha => by simp, ⟨?_, ?_, ?_, ?_, ?_⟩, fun a ha => ?_, fun i f => rfl, fun i g1 g2 => by simp [gR_sR, g2]⟩
    · rw [upd_ne _ _ (by omega), upd_ne _ _ (by omega), upd_ne _ _ (by omega), upd_ne _ _ (by omega), upd_self]
    · rw [upd_ne _ _ (by omega), upd_ne _ _ (by omega), upd_ne _ _ (by omega), upd_self]
    · rw [upd_ne _ _ (by omega), upd_ne _ _ (by omega), upd_self]
    · rw [upd_ne _ _ (by omega), upd_self]
    · rw [upd_self]
    · rw [upd_ne _ _ (by omega), upd_ne _ _ (by omega), upd_ne _ _ (by omega), upd_ne _ _ (by omega), upd_ne _ _ (by omega)]
  | succ r ih =>
    intro fuel S v h1 h2
    obtain ⟨k, rfl⟩ : ∃ k, fuel = k + 1 := ⟨fuel - 1, by omega⟩
    have hc : ¬ (24 : Int32) ≤ Int32.ofNat v := fun z => by rw [v24 v (by omega)] at z; omega
    have e1 : Int32.ofNat v + 1 = Int32.ofNat (v + 1) := n32_add v 1
    obtain ⟨i1, i2, i3, i4, i5, i6, i7⟩ := ih k (sR S 132 (upd (gR S 132) (56 * K + 32 + v) (gR S 130 v))) (v + 1) (by omega) (by omega)
    unfold q_Mo_mark_2 g_Mo_mark_2
    simp only [px_let_id]
    rw [if_neg hc, ix5632, n32_clamp (n := 56 * K + 32 + v) (by omega), n32_clamp (n := v) (by omega), e1]
    refine ⟨⟨fun h => absurd h hc, fun _ => ⟨vin_of (by omega) (by decide), vin_of (by omega) (by decide), fun S18 q => by subst q; exact i1⟩⟩, fun j hj hj2 => ?_, fun a ha => ?_, i4, i5, i6, fun i g1 g2 => ?_⟩
    · by_cases hjv : j = v
      · subst hjv
        rw [i3 _ (by omega), gR_sR, if_pos rfl, upd_self]
      · rw [i2 j (by omega) hj2, gR_sR, if_neg (by decide)]
    · rw [i3 a (by omega), gR_sR, if_pos rfl, upd_ne _ _ (by omega)]
    · rw [i7 i g1 g2, gR_sR, if_neg g1]
theorem mk1 {K : Nat} (hK : K ≤ 12) : ∀ (r fuel : Nat) (S : xS) (v : Nat), r < fuel → v + r = 32 → q_Mo_mark_1 fuel S (Int32.ofNat K) (Int32.ofNat v) ∧
    (∀ j, v ≤ j → j < 32 → gR (g_Mo_mark_1 fuel S (Int32.ofNat K) (Int32.ofNat v)).2 132 (56 * K + j) = gR S 129 j) ∧ (∀ j, j < 24 → gR (g_Mo_mark_1 fuel S (Int32.ofNat K) (Int32.ofNat v)).2 132 (56 * K + 32 + j) = gR S 130 j) ∧ (∀ a, (a < 56 * K + v ∨ 56 * K + 56 ≤ a) → gR (g_Mo_mark_1 fuel S (Int32.ofNat K) (Int32.ofNat v)).2 132 a = gR S 132 a) ∧
    (gR (g_Mo_mark_1 fuel S (Int32.ofNat K) (Int32.ofNat v)).2 133 (5 * K) = gI S 124 13 ∧ gR (g_Mo_mark_1 fuel S (Int32.ofNat K) (Int32.ofNat v)).2 133 (5 * K + 1) = gI S 124 14 ∧ gR (g_Mo_mark_1 fuel S (Int32.ofNat K) (Int32.ofNat v)).2 133 (5 * K + 2) = gI S 124 15 ∧ gR (g_Mo_mark_1 fuel S (Int32.ofNat K) (Int32.ofNat v)).2 133 (5 * K + 3) = gI S 124 16 ∧ gR (g_Mo_mark_1 fuel S (Int32.ofNat K) (Int32.ofNat v)).2 133 (5 * K + 4) = gI S 124 17) ∧
    (∀ a, (a < 5 * K ∨ 5 * K + 5 ≤ a) → gR (g_Mo_mark_1 fuel S (Int32.ofNat K) (Int32.ofNat v)).2 133 a = gR S 133 a) ∧ mF S (g_Mo_mark_1 fuel S (Int32.ofNat K) (Int32.ofNat v)).2 := by
  intro r
  induction r with
  | zero =>
    intro fuel S v h1 h2
    obtain ⟨k, rfl⟩ : ∃ k, fuel = k + 1 := ⟨fuel - 1, by omega⟩
    have hc : (32 : Int32) ≤ Int32.ofNat v := (v32 v (by omega)).mpr (by omega)
    obtain ⟨i1, i2, i3, i4, i5, i6⟩ := mk2 hK 24 25 S 0 (by omega) (by omega)
    unfold q_Mo_mark_1 g_Mo_mark_1
    rw [if_pos hc]
    exact ⟨⟨fun _ => i1, fun h => absurd hc h⟩, fun j hj hj2 => absurd hj2 (by omega), fun j hj => i2 j (by omega) hj, fun a ha => i3 a (by omega), i4, i5, i6⟩
  | succ r ih =>
    intro fuel S v h1 h2
    obtain ⟨k, rfl⟩ : ∃ k, fuel = k + 1 := ⟨fuel - 1, by omega⟩
    have hc : ¬ (32 : Int32) ≤ Int32.ofNat v := fun z => by rw [v32 v (by omega)] at z; omega
    have e1 : Int32.ofNat v + 1 = Int32.ofNat (v + 1) := n32_add v 1
    obtain ⟨i1, i2, i2b, i3, i4, i5, i6, i7⟩ := ih k (sR S 132 (upd (gR S 132) (56 * K + v) (gR S 129 v))) (v + 1) (by omega) (by omega)
    unfold q_Mo_mark_1 g_Mo_mark_1
    simp only [px_let_id]
    rw [if_neg hc, ix56, n32_clamp (n := 56 * K + v) (by omega), n32_clamp (n := v) (by omega), e1]
    refine ⟨⟨fun h => absurd h hc, fun _ => ⟨vin_of (by omega) (by decide), vin_of (by omega) (by decide), fun S18 q => by subst q; exact i1⟩⟩, fun j hj hj2 => ?_, fun j hj => ?_, fun a ha => ?_, i4, i5, i6, fun i g1 g2 => ?_⟩
    · by_cases hjv : j = v
      · subst hjv
        rw [i3 _ (by omega), gR_sR, if_pos rfl, upd_self]
      · rw [i2 j (by omega) hj2, gR_sR, if_neg (by decide)]
    · rw [i2b j hj, gR_sR, if_neg (by decide)]
    · rw [i3 a (by omega), gR_sR, if_pos rfl, upd_ne _ _ (by omega)]
    · rw [i7 i g1 g2, gR_sR, if_neg g1]
theorem rmark {T : xS} {m : aM} {h k n K : Nat} (R : rv T m h k n) (hK : K ≤ 12) (ht : gI T 124 12 = Int32.ofNat (250 * K)) : p_Mo_mark T ∧ mkv (f_Mo_mark T).2 K m ∧ (∀ K' m', K' ≠ K → mkv T K' m' → mkv (f_Mo_mark T).2 K' m') ∧ mF T (f_Mo_mark T).2 := by
  have hd : gI T 124 12 / 250 = Int32.ofNat K := by
    rw [ht, show (250 : Int32) = Int32.ofNat 250 from rfl, n32_div (by omega) (by decide)]
    congr 1
    omega
  unfold p_Mo_mark f_Mo_mark
  rw [hd]
  obtain ⟨i1, i2, i2b, i3, i4, i5, i6⟩ := mk1 hK 32 33 T 0 (by omega) (by omega)
  obtain ⟨r0, r1, r2, r3, r4, r5, r6, r7, r8, r9, r10, r11, r12⟩ := R
  refine ⟨i1, ⟨fun j hj => ?_, fun h' hh' e' j hj => ?_, i4.1.trans r1, i4.2.1.trans r2, i4.2.2.1.trans r3, i4.2.2.2.1.trans r4, i4.2.2.2.2.trans r5⟩, fun K' m' hne hm => ?_, i6⟩
  · exact (i2 j (by omega) hj).trans (r11 j hj)
  · rw [r6, n32_eq (by omega) (by omega)] at e'
    exact (i2b j (by omega)).trans (r12 j (by omega))
  · obtain ⟨m1, m2, m3, m4, m5, m6, m7⟩ := hm
    refine ⟨fun j hj => ?_, fun h' hh' e' j hj => ?_, (i5 _ (by omega)).trans m3, (i5 _ (by omega)).trans m4, (i5 _ (by omega)).trans m5, (i5 _ (by omega)).trans m6, (i5 _ (by omega)).trans m7⟩
    · exact (i3 _ (by omega)).trans (m1 j hj)
    · exact (i3 _ (by omega)).trans (m2 h' hh' e' j hj)
