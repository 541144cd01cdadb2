/-! the reference: it grows, it accounts, it remembers, it stops -/
def RK (T : xS) (z e : Nat) : Prop := gI T 124 22 = Int32.ofNat z ∧ gI T 124 21 = Int32.ofNat e ∧ ∀ i, i < z → gR T 134 i = Int32.ofNat (i * e)
theorem grl {e : Nat} (he : 1 ≤ e ∧ e ≤ 375) : ∀ (r fuel : Nat) (S : xS) (v : Nat), r < fuel → v + r = 9 → gI S 124 22 = Int32.ofNat ((v + 1) / 2) → gI S 124 21 = Int32.ofNat (2 * e) → (∀ i, i < (v + 1) / 2 → gR S 134 i = Int32.ofNat (i * (2 * e))) → (∀ i, v ≤ i → i < 9 → gR S 134 i = Int32.ofNat (i * e)) →
    q_Mo_grow fuel S (Int32.ofNat v) ∧ RK (g_Mo_grow fuel S (Int32.ofNat v)).2 5 (2 * e) ∧ (∀ i f, (i ≠ 124 ∨ f ≠ 22) → gI (g_Mo_grow fuel S (Int32.ofNat v)).2 i f = gI S i f) ∧ (∀ i, i ≠ 134 → gR (g_Mo_grow fuel S (Int32.ofNat v)).2 i = gR S i) := by
  intro r
  induction r with
  | zero =>
    intro fuel S v h1 h2 a1 a2 a3 a4
    obtain ⟨k, rfl⟩ : ∃ k, fuel = k + 1 := ⟨fuel - 1, by omega⟩
    have hc : (9 : Int32) ≤ Int32.ofNat v := (n32_le (a := 9) (by decide) (by omega)).mpr (by omega)
    unfold q_Mo_grow g_Mo_grow
    rw [if_pos hc]
    have hv : v = 9 := by omega
    subst hv
    exact ⟨⟨fun _ => trivial, fun h => absurd hc h⟩, ⟨a1, a2, a3⟩, fun _ _ _ => rfl, fun _ _ => rfl⟩
  | succ r ih =>
    intro fuel S v h1 h2 a1 a2 a3 a4
    obtain ⟨k, rfl⟩ : ∃ k, fuel = k + 1 := ⟨fuel - 1, by omega⟩
    have hc : ¬ (9 : Int32) ≤ Int32.ofNat v := fun z => by rw [show (9 : Int32) = Int32.ofNat 9 from rfl, n32_le (by decide) (by omega)] at z; omega
    have hcl : (Int32.ofNat v).toNatClampNeg = v := n32_clamp (by omega)
    have hav := a4 v (Nat.le_refl _) (by omega)
    have hve : v * e ≤ 9 * 375 := Nat.mul_le_mul (by omega) he.2
    have hmm : v * e % (2 * e) = v % 2 * e := Nat.mul_mod_mul_right e v 2
    have hm2 : v * e % (2 * e) < 2 * e := Nat.mod_lt _ (by omega)
    have hq : (gR S 134 v - gR S 134 v / gI S 124 21 * gI S 124 21 = 0) ↔ v * e % (2 * e) = 0 := by
      rw [hav, a2, n32_rem (by omega) (by omega), show (0 : Int32) = Int32.ofNat 0 from rfl, n32_eq (by omega) (by decide)]
    have hne : ¬ gI S 124 21 = 0 := by rw [a2, show (0 : Int32) = Int32.ofNat 0 from rfl, n32_eq (by omega) (by decide)]; omega
    have hv1 : Int32.ofNat v + 1 = Int32.ofNat (v + 1) := n32_add v 1
    have hvv : vp_in (Int32.ofNat v) 9 := vin_of (by omega) (by decide)
    unfold q_Mo_grow g_Mo_grow
    simp only [px_let_id]
    rw [if_neg hc, hcl, hv1]
    by_cases hp : v % 2 = 0
    · have hx : gR S 134 v - gR S 134 v / gI S 124 21 * gI S 124 21 = 0 := hq.mpr (by rw [hmm, hp]; omega)
      have hu : (v + 1) / 2 = v / 2 := by omega
      rw [hu] at a1 a3
      have hcl2 : (gI S 124 22).toNatClampNeg = v / 2 := by rw [a1]; exact n32_clamp (by omega)
      have e9 : gI (sR S 134 (upd (gR S 134) (v / 2) (gR S 134 v))) 124 22 + 1 = Int32.ofNat ((v + 1 + 1) / 2) := by
        rw [gI_sR, a1, show (1 : Int32) = Int32.ofNat 1 from rfl, n32_add]
        congr 1
        omega
      rw [if_pos hx, hcl2, e9]
      obtain ⟨i1, i2, i3, i4⟩ := ih k (sI (sR S 134 (upd (gR S 134) (v / 2) (gR S 134 v))) 124 22 (Int32.ofNat ((v + 1 + 1) / 2))) (v + 1) (by omega) (by omega) (by rw [gI_sI, if_pos ⟨rfl, rfl⟩]) (by rw [gI_sI, if_neg (by decide), gI_sR]; exact a2) (fun i hi => by
        rw [gR_sI, gR_sR, if_pos rfl]
        by_cases hiv : i = v / 2
        · rw [hiv, upd_self, hav]
          congr 1
          have h4 : v = v / 2 * 2 := by omega
          rw [← Nat.mul_assoc, ← h4]
        · rw [upd_ne _ _ hiv]; exact a3 i (by omega)) (fun i hi hi9 => by
        rw [gR_sI, gR_sR, if_pos rfl, upd_ne _ _ (by omega)]; exact a4 i (by omega) hi9)
      refine ⟨⟨fun h => absurd h hc, fun _ => ⟨hvv, hne, fun _ => ⟨hvv, by rw [a1]; exact vin_of (by omega) (by decide), fun S6 q6 S9 q9 => ?_⟩, fun h => absurd hx h⟩⟩, i2, fun i f h => ?_, fun i h => ?_⟩
      · subst q6
        rw [e9] at q9
        subst q9
        exact i1
      · rw [i3 i f h, gI_sI, if_neg (by omega), gI_sR]
      · rw [i4 i h, gR_sI, gR_sR, if_neg h]
    · have hx : ¬ gR S 134 v - gR S 134 v / gI S 124 21 * gI S 124 21 = 0 := fun z => by
        have := hq.mp z
        rw [hmm, show v % 2 = 1 by omega] at this
        omega
      rw [if_neg hx]
      obtain ⟨i1, i2, i3, i4⟩ := ih k S (v + 1) (by omega) (by omega) (by rw [a1]; congr 1; omega) a2 (fun i hi => a3 i (by omega)) (fun i hi => a4 i (by omega))
      exact ⟨⟨fun h => absurd h hc, fun _ => ⟨hvv, hne, fun h => absurd h hx, fun _ => i1⟩⟩, i2, i3, i4⟩
/-- behind the mark: one more time is kept, or they are thinned out -/
theorem grk {S : xS} {z e g : Nat} (Kk : RK S z e) (ht : gI S 124 12 = Int32.ofNat (g + 1)) (he : 1 ≤ e ∧ e ≤ 1000) (hz1 : 1 ≤ z) (hz8 : z ≤ 8) (hz : (z - 1) * e ≤ g) (hz2 : g < z * e) (hg : g + 1 ≤ 3000) :
    ((¬ (gI S 124 21) = 0) ∧ ((((gI S 124 12) - (gI S 124 12) / (gI S 124 21) * (gI S 124 21)) = 0 → (vp_in (gI S 124 22) 9) ∧ ((∀ S9 : xS, S9 = sR S 134 (upd (gR S 134) (gI S 124 22).toNatClampNeg (gI S 124 12)) → (∀ S12 : xS, S12 = sI S9 124 22 ((gI S9 124 22) + 1) → (9 ≤ (gI S12 124 22) → (∀ S15 : xS, S15 = sI S12 124 21 (2 * (gI S12 124 21)) → (∀ S17 : xS, S17 = sI S15 124 22 0 → q_Mo_grow 10 S17 0))) ∧ (¬ 9 ≤ (gI S12 124 22) → True))))) ∧ (¬ ((gI S 124 12) - (gI S 124 12) / (gI S 124 21) * (gI S 124 21)) = 0 → True))) ∧
    ∃ S', (if ((gI S 124 12) - (gI S 124 12) / (gI S 124 21) * (gI S 124 21)) = 0 then (if 9 ≤ (gI (sI (sR S 134 (upd (gR S 134) (gI S 124 22).toNatClampNeg (gI S 124 12))) 124 22 ((gI (sR S 134 (upd (gR S 134) (gI S 124 22).toNatClampNeg (gI S 124 12))) 124 22) + 1)) 124 22) then g_Mo_grow 10 (sI (sI (sI (sR S 134 (upd (gR S 134) (gI S 124 22).toNatClampNeg (gI S 124 12))) 124 22 ((gI (sR S 134 (upd (gR S 134) (gI S 124 22).toNatClampNeg (gI S 124 12))) 124 22) + 1)) 124 21 (2 * (gI (sI (sR S 134 (upd (gR S 134) (gI S 124 22).toNatClampNeg (gI S 124 12))) 124 22 ((gI (sR S 134 (upd (gR S 134) (gI S 124 22).toNatClampNeg (gI S 124 12))) 124 22) + 1)) 124 21))) 124 22 0) 0 else ((0 : Int32), sI (sR S 134 (upd (gR S 134) (gI S 124 22).toNatClampNeg (gI S 124 12))) 124 22 ((gI (sR S 134 (upd (gR S 134) (gI S 124 22).toNatClampNeg (gI S 124 12))) 124 22) + 1))) else ((0 : Int32), S)).2 = S' ∧ RK S' (nze z e g).1 (nze z e g).2 ∧ (∀ f, f ≠ 21 → f ≠ 22 → gI S' 124 f = gI S 124 f) ∧ (∀ i, i ≠ 134 → gR S' i = gR S i) := by
  obtain ⟨k1, k2, k3⟩ := Kk
  have hm2 : (g + 1) % e < e := Nat.mod_lt _ he.1
  have hq : (gI S 124 12 - gI S 124 12 / gI S 124 21 * gI S 124 21 = 0) ↔ (g + 1) % e = 0 := by
    rw [ht, k2, n32_rem (by omega) (by omega), show (0 : Int32) = Int32.ofNat 0 from rfl, n32_eq (by omega) (by decide)]
  have hne : ¬ gI S 124 21 = 0 := by rw [k2, show (0 : Int32) = Int32.ofNat 0 from rfl, n32_eq (by omega) (by decide)]; omega
  have hcl : (gI S 124 22).toNatClampNeg = z := by rw [k1]; exact n32_clamp (by omega)
  unfold nze
  by_cases hm : ¬ (g + 1) % e = 0
  · have hx : ¬ gI S 124 12 - gI S 124 12 / gI S 124 21 * gI S 124 21 = 0 := fun w => hm (hq.mp w)
    rw [if_neg hx, if_pos hm]
    exact ⟨⟨hne, fun h => absurd h hx, fun _ => trivial⟩, S, rfl, ⟨k1, k2, k3⟩, fun _ _ _ => rfl, fun _ _ => rfl⟩
  have hm0 : (g + 1) % e = 0 := Decidable.not_not.mp hm
  have hge := at_end he.1 hz1 hz hz2 hm0
  have hx := hq.mpr hm0
  rw [if_pos hx, if_neg hm]
  have e12 : gI S 124 22 + 1 = Int32.ofNat (z + 1) := by rw [k1]; exact n32_add z 1
  simp only [gI_sR, e12]
  have g22 : gI (sI (sR S 134 (upd (gR S 134) (gI S 124 22).toNatClampNeg (gI S 124 12))) 124 22 (Int32.ofNat (z + 1))) 124 22 = Int32.ofNat (z + 1) := by rw [gI_sI, if_pos ⟨rfl, rfl⟩]
  have h9 : ((9 : Int32) ≤ gI (sI (sR S 134 (upd (gR S 134) (gI S 124 22).toNatClampNeg (gI S 124 12))) 124 22 (Int32.ofNat (z + 1))) 124 22) ↔ z = 8 := by
    rw [g22, show (9 : Int32) = Int32.ofNat 9 from rfl, n32_le (by decide) (by omega)]
    omega
  have hvz : vp_in (gI S 124 22) 9 := by rw [k1]; exact vin_of (by omega) (by decide)
  have hlist : ∀ i, i < z + 1 → upd (gR S 134) z (Int32.ofNat (g + 1)) i = Int32.ofNat (i * e) := fun i hi => by
    by_cases hiz : i = z
    · rw [hiz, upd_self, hge]
    · rw [upd_ne _ _ hiz]; exact k3 i (by omega)
  by_cases h8 : z = 8
  · rw [if_pos (h9.mpr h8), if_pos h8]
    have g21 : gI (sI (sR S 134 (upd (gR S 134) (gI S 124 22).toNatClampNeg (gI S 124 12))) 124 22 (Int32.ofNat (z + 1))) 124 21 = Int32.ofNat e := by rw [gI_sI, if_neg (by decide), gI_sR]; exact k2
    have e2 : (2 : Int32) * Int32.ofNat e = Int32.ofNat (2 * e) := n32_mul 2 e
    rw [g21, e2]
    obtain ⟨i1, i2, i3, i4⟩ := grl (e := e) ⟨he.1, by have h7 := hge; rw [h8] at h7; omega⟩ 9 10 (sI (sI (sI (sR S 134 (upd (gR S 134) (gI S 124 22).toNatClampNeg (gI S 124 12))) 124 22 (Int32.ofNat (z + 1))) 124 21 (Int32.ofNat (2 * e))) 124 22 0) 0 (by decide) rfl (by rw [gI_sI, if_pos ⟨rfl, rfl⟩]; rfl) (by rw [gI_sI, if_neg (by decide), gI_sI, if_pos ⟨rfl, rfl⟩]) (fun i hi => absurd hi (by omega)) (fun i hi hi9 => by
      rw [gR_sI, gR_sI, gR_sI, gR_sR, if_pos rfl, hcl, ht]
      exact hlist i (by omega))
    refine ⟨⟨hne, fun _ => ⟨hvz, fun S9 q9 S12 q12 => ⟨fun _ S15 q15 S17 q17 => ?_, fun _ => trivial⟩⟩, fun _ => trivial⟩, _, rfl, i2, fun f f1 f2 => ?_, fun i hi => ?_⟩
    · subst q9
      rw [gI_sR, e12] at q12
      subst q12
      rw [g21, e2] at q15
      subst q15; subst q17
      exact i1
    · refine (i3 124 f (Or.inr f2)).trans ?_
      rw [gI_sI, if_neg (by omega), gI_sI, if_neg (by omega), gI_sI, if_neg (by omega), gI_sR]
    · refine (i4 i hi).trans ?_
      rw [gR_sI, gR_sI, gR_sI, gR_sR, if_neg hi]
  · have h9' : ¬ (9 : Int32) ≤ gI (sI (sR S 134 (upd (gR S 134) (gI S 124 22).toNatClampNeg (gI S 124 12))) 124 22 (Int32.ofNat (z + 1))) 124 22 := fun w => h8 (h9.mp w)
    rw [if_neg h9', if_neg h8]
    refine ⟨⟨hne, fun _ => ⟨hvz, fun S9 q9 S12 q12 => ⟨fun w => ?_, fun _ => trivial⟩⟩, fun _ => trivial⟩, _, rfl, ⟨g22, by rw [gI_sI, if_neg (by decide), gI_sR]; exact k2, fun i hi => ?_⟩, fun f f1 f2 => ?_, fun i hi => ?_⟩
    · subst q9
      rw [gI_sR, e12] at q12
      subst q12
      exact absurd w h9'
    · rw [gR_sI, gR_sR, if_pos rfl, hcl, ht]
      exact hlist i hi
    · rw [gI_sI, if_neg (by omega), gI_sR]
    · rw [gR_sI, gR_sR, if_neg hi]
