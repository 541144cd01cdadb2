/-! checkpoints: the class keeps one more, or thins out -/
def pF (S S' : xS) : Prop := (∀ i f, (i < 104 ∨ 122 ≤ i) → gI S' i f = gI S i f) ∧ (∀ i, (i < 104 ∨ 122 ≤ i) → gR S' i = gR S i)
theorem pF_rf {S : xS} : pF S S := ⟨fun _ _ _ => rfl, fun _ _ => rfl⟩
theorem pF_tr {S S' S'' : xS} (h1 : pF S S') (h2 : pF S' S'') : pF S S'' := ⟨fun i f h => (h2.1 i f h).trans (h1.1 i f h), fun i h => (h2.2 i h).trans (h1.2 i h)⟩
theorem CI_pF {S S' : xS} {tr : Nat → aM} {t u q : Nat} (C : CI S tr t u q) (h : pF S S') : CI S' tr t u q := by
  obtain ⟨c1, c2, c3, c4, c5, c6, c7⟩ := C
  refine ⟨?_, by rw [h.1 6 1 (Or.inl (by decide))]; exact c2, c3, by rw [h.1 6 2 (Or.inl (by decide))]; exact c4, c5, c6, fun j hj => ?_⟩
  · rw [← c1]
    refine Prod.ext ?_ ?_
    · funext k
      simp only [vw]
      rw [h.1 4 k (Or.inl (by decide))]
    · funext k
      simp only [vw]
      rw [h.2 (4 + 1) (Or.inl (by decide))]
  · have hi : iN ((q + 32 - j) % 32) + 2 < 104 := by unfold iN; omega
    exact nt_same (c7 j hj) (fun f => h.1 _ f (Or.inl (by omega))) (h.2 _ (Or.inl (by omega))) (h.2 _ (Or.inl (by omega)))
theorem mult {S : xS} {e t : Nat} (h : gI S 104 2 = Int32.ofNat e) (he : 1 ≤ e ∧ e < 100000) (ht : t < 100000) : f_Cp_isMultiple S (Int32.ofNat t) = (if t % e = 0 then 1 else 0) ∧ p_Cp_isMultiple S (Int32.ofNat t) := by
  have h1 : ¬ gI S 104 2 ≤ 0 := by rw [h, show (0 : Int32) = Int32.ofNat 0 from rfl, n32_le (by omega) (by decide)]; omega
  have h2 : ¬ gI S 104 2 = 0 := fun z => h1 (by rw [z]; exact Int32.le_refl 0)
  have hm : t % e < e := Nat.mod_lt _ he.1
  have hq : (Int32.ofNat t - Int32.ofNat t / gI S 104 2 * gI S 104 2 = 0) ↔ t % e = 0 := by
    rw [h, n32_rem (by omega) (by omega), show (0 : Int32) = Int32.ofNat 0 from rfl, n32_eq (by omega) (by decide)]
  unfold f_Cp_isMultiple p_Cp_isMultiple
  rw [if_neg h1]
  refine ⟨?_, fun _ => trivial, fun _ => ⟨h2, fun _ => trivial, fun _ => trivial⟩⟩
  by_cases hx : t % e = 0
  · rw [if_pos (hq.mpr hx), if_pos hx]
  · rw [if_neg (fun z => hx (hq.mp z)), if_neg hx]
def thI (K : Nat → Nat) (e : Nat) (S : xS) (v : Nat) : Prop := gI S 104 1 = Int32.ofNat 8 ∧ gI S 104 2 = Int32.ofNat (2 * e) ∧ (∀ i, i < 8 → gI S (iS (K i)) 0 = Int32.ofNat (i * e)) ∧ (∀ i, i < (v + 1) / 2 → gK S i = K (2 * i)) ∧ (∀ i, v ≤ i → i < 8 → gK S i = K i) ∧ (∀ i j, i < 8 → j < 8 → gK S i = gK S j → i = j)
theorem gK_lt (S : xS) (j : Nat) : gK S j < 8 := Nat.mod_lt _ (by decide)
theorem thin {K : Nat → Nat} {e : Nat} (he : 1 ≤ e ∧ e ≤ 1000) : ∀ (r fuel : Nat) (S : xS) (v : Nat), r < fuel → v + r = 8 → thI K e S v → q_Cp_thinOut fuel S (Int32.ofNat ((v + 1) / 2)) (Int32.ofNat v) ∧
    gI (g_Cp_thinOut fuel S (Int32.ofNat ((v + 1) / 2)) (Int32.ofNat v)).2 104 1 = Int32.ofNat 4 ∧ (∀ i f, (i ≠ 104 ∨ f ≠ 1) → gI (g_Cp_thinOut fuel S (Int32.ofNat ((v + 1) / 2)) (Int32.ofNat v)).2 i f = gI S i f) ∧ (∀ i, gR (g_Cp_thinOut fuel S (Int32.ofNat ((v + 1) / 2)) (Int32.ofNat v)).2 i = gR S i) ∧
    (∀ i, i < 4 → gK (g_Cp_thinOut fuel S (Int32.ofNat ((v + 1) / 2)) (Int32.ofNat v)).2 i = K (2 * i)) ∧ (∀ i j, i < 8 → j < 8 → gK (g_Cp_thinOut fuel S (Int32.ofNat ((v + 1) / 2)) (Int32.ofNat v)).2 i = gK (g_Cp_thinOut fuel S (Int32.ofNat ((v + 1) / 2)) (Int32.ofNat v)).2 j → i = j) := by
  intro r
  induction r with
  | zero =>
    intro fuel S v h1 h2 ⟨t1, t2, t3, t4, t5, t6⟩
    obtain ⟨k, rfl⟩ : ∃ k, fuel = k + 1 := ⟨fuel - 1, by omega⟩
    have hv : v = 8 := by omega
    subst hv
    have hc : gI S 104 1 ≤ Int32.ofNat 8 := by rw [t1]; exact Int32.le_refl _
    unfold q_Cp_thinOut g_Cp_thinOut
    simp only [px_let_id]
    rw [if_pos hc]
    refine ⟨⟨fun _ _ _ => trivial, fun h => absurd hc h⟩, ?_, fun i f h => ?_, fun i => rfl, fun i hi => t4 i (by omega), t6⟩
    · rw [gI_sI, if_pos ⟨rfl, rfl⟩]
    · rw [gI_sI, if_neg (by omega)]
  | succ r ih =>
    intro fuel S v h1 h2 ⟨t1, t2, t3, t4, t5, t6⟩
    obtain ⟨k, rfl⟩ : ∃ k, fuel = k + 1 := ⟨fuel - 1, by omega⟩
    have hc : ¬ gI S 104 1 ≤ Int32.ofNat v := by rw [t1, n32_le (by decide) (by omega)]; omega
    have hcl : (Int32.ofNat v).toNatClampNeg = v := n32_clamp (by omega)
    have hkv := t5 v (Nat.le_refl _) (by omega)
    have htm : gI S (iS (gK S v)) 0 = Int32.ofNat (v * e) := by rw [hkv]; exact t3 v (by omega)
    have hve : v * e ≤ 8 * 1000 := Nat.mul_le_mul (by omega) he.2
    obtain ⟨m1, m2⟩ := mult t2 ⟨by omega, by omega⟩ (t := v * e) (by omega)
    have hmm : v * e % (2 * e) = v % 2 * e := Nat.mul_mod_mul_right e v 2
    have hv1 : Int32.ofNat v + 1 = Int32.ofNat (v + 1) := n32_add v 1
    have hvv : vp_in (Int32.ofNat v) 8 := vin_of (by omega) (by decide)
    by_cases hp : v % 2 = 0
    · have hmu : v * e % (2 * e) = 0 := by rw [hmm, hp]; omega
      rw [hmu, if_pos rfl] at m1
      have hu : (v + 1) / 2 = v / 2 := by omega
      have hul : v / 2 < 8 := by omega
      have hucl : (Int32.ofNat (v / 2)).toNatClampNeg = v / 2 := n32_clamp (by omega)
      have huu : vp_in (Int32.ofNat (v / 2)) 8 := vin_of hul (by decide)
      have hu1 : Int32.ofNat (v / 2) + 1 = Int32.ofNat ((v + 1 + 1) / 2) := by
        rw [show (1 : Int32) = Int32.ofNat 1 from rfl, n32_add]
        congr 1
        omega
      rw [hu]
      unfold q_Cp_thinOut g_Cp_thinOut
      simp only [px_let_id]
      rw [if_neg hc, hcl, htm, m1, if_neg (by decide), hucl, hu1, hv1]
      have k13 : ∀ j, gK (sK (sK S v (gK S (v / 2))) (v / 2) (gK S v)) j = if j = v / 2 then gK S v else if j = v then gK S (v / 2) else gK S j := fun j => by
        rw [gK_sK, gK_sK, Nat.mod_eq_of_lt (gK_lt S v), Nat.mod_eq_of_lt (gK_lt S (v / 2))]
      have T13 : thI K e (sK (sK S v (gK S (v / 2))) (v / 2) (gK S v)) (v + 1) := by
        refine ⟨t1, t2, t3, fun i hi => ?_, fun i hi hi8 => ?_, fun i j hi hj hij => ?_⟩
        · rw [k13]
          by_cases hiv : i = v / 2
          · rw [if_pos hiv, hkv, hiv]
            congr 1
            omega
          · rw [if_neg hiv, if_neg (by omega)]; exact t4 i (by omega)
        · rw [k13, if_neg (by omega), if_neg (by omega)]; exact t5 i (by omega) hi8
        · rw [k13, k13] at hij
          by_cases a1 : i = v / 2
          · by_cases b1 : j = v / 2
            · omega
            · rw [if_pos a1, if_neg b1] at hij
              by_cases b2 : j = v
              · rw [if_pos b2] at hij
                have := t6 v (v / 2) (by omega) hul hij
                omega
              · rw [if_neg b2] at hij
                have := t6 v j (by omega) hj hij
                omega
          · rw [if_neg a1] at hij
            by_cases a2 : i = v
            · rw [if_pos a2] at hij
              by_cases b1 : j = v / 2
              · rw [if_pos b1] at hij
                have := t6 (v / 2) v hul (by omega) hij
                omega
              · rw [if_neg b1] at hij
                by_cases b2 : j = v
                · omega
                · rw [if_neg b2] at hij
                  have := t6 (v / 2) j hul hj hij
                  omega
            · rw [if_neg a2] at hij
              by_cases b1 : j = v / 2
              · rw [if_pos b1] at hij
                have := t6 i v hi (by omega) hij
                omega
              · rw [if_neg b1] at hij
                by_cases b2 : j = v
                · rw [if_pos b2] at hij
                  have := t6 i (v / 2) hi hul hij
                  omega
                · rw [if_neg b2] at hij
                  exact t6 i j hi hj hij
      obtain ⟨i1, i2, i3, i4, i5, i6⟩ := ih k _ (v + 1) (by omega) (by omega) T13
      refine ⟨⟨fun h => absurd h hc, fun _ => ⟨hvv, m2, fun r6 q6 => ⟨fun h => absurd (q6.symm.trans h) (by decide), fun _ => ⟨huu, hvv, fun S10 q10 => ⟨huu, fun S13 q13 => ?_⟩⟩⟩⟩⟩, i2, i3, i4, i5, i6⟩
      subst q10; subst q13
      exact i1
    · have hmu : ¬ v * e % (2 * e) = 0 := by
        rw [hmm, show v % 2 = 1 by omega]; omega
      rw [if_neg hmu] at m1
      have hu : (v + 1) / 2 = (v + 1 + 1) / 2 := by omega
      rw [hu]
      unfold q_Cp_thinOut g_Cp_thinOut
      simp only [px_let_id]
      rw [if_neg hc, hcl, htm, m1, if_pos rfl, hv1]
      obtain ⟨i1, i2, i3, i4, i5, i6⟩ := ih k S (v + 1) (by omega) (by omega) ⟨t1, t2, t3, fun i hi => t4 i (by omega), fun i hi => t5 i (by omega), t6⟩
      exact ⟨⟨fun h => absurd h hc, fun _ => ⟨hvv, m2, fun r6 q6 => ⟨fun _ => i1, fun h => absurd q6 h⟩⟩⟩, i2, i3, i4, i5, i6⟩
/-- one more is kept -/
theorem keep1 {S : xS} {tr : Nat → aM} {z e : Nat} (h1 : gI S 104 1 = Int32.ofNat z) (h2 : gI S 104 2 = Int32.ofNat e) (hz : z < 8) (he : 1 ≤ e ∧ e ≤ 1000) (h7 : ∀ i, i < z → vw S (iS (gK S i)) = tr (i * e)) (h8 : ∀ i j, i < 8 → j < 8 → gK S i = gK S j → i = j) (hv : vw S 4 = tr (z * e)) :
    CP (sI (f_St_copyState S (iS (gK S z)) 4).2 104 1 (gI (f_St_copyState S (iS (gK S z)) 4).2 104 1 + 1)) tr (z + 1) e ∧ pF S (sI (f_St_copyState S (iS (gK S z)) 4).2 104 1 (gI (f_St_copyState S (iS (gK S z)) 4).2 104 1 + 1)) := by
  have hk : ∀ j, iS (gK S j) = 106 + 2 * gK S j := fun j => by
    have := gK_lt S j
    unfold iS
    omega
  have hz8 := gK_lt S z
  have hi := hk z
  obtain ⟨a1, a2, a3, a4⟩ := cpSt S (i := iS (gK S z)) (j := 4) (by omega) (by omega)
  have e1 : gI (f_St_copyState S (iS (gK S z)) 4).2 104 1 + 1 = Int32.ofNat (z + 1) := by
    rw [a2 104 1 (by omega), h1]
    exact n32_add z 1
  rw [e1]
  have hvw : ∀ i : Nat, i ≠ 104 → vw (sI (f_St_copyState S (iS (gK S z)) 4).2 104 1 (Int32.ofNat (z + 1))) i = vw (f_St_copyState S (iS (gK S z)) 4).2 i := fun i hi => by
    refine Prod.ext ?_ rfl
    funext k
    simp only [vw, gI_sI]
    rw [if_neg (show ¬ (i = 104 ∧ k = 1) by omega)]
  refine ⟨⟨by rw [gI_sI, if_pos ⟨rfl, rfl⟩], by rw [gI_sI, if_neg (by decide), a2 104 2 (by omega)]; exact h2, by omega, by omega, he.1, he.2, fun i hi9 => ?_, fun i j hi hj hij => ?_⟩, fun i f h => ?_, fun i h => ?_⟩
  · rw [gK_sI, a4, hvw _ (by have := hk i; omega)]
    by_cases hiz : i = z
    · rw [hiz, a1]; exact hv
    · have hne : gK S i ≠ gK S z := fun q => hiz (h8 i z (by omega) hz q)
      have hi2 := hk i
      rw [← h7 i (by omega)]
      refine Prod.ext ?_ ?_
      · funext k
        simp only [vw]
        rw [a2 _ k (by omega)]
      · funext k
        simp only [vw]
        rw [a3 _ (by omega)]
  · rw [gK_sI, a4] at hij; exact h8 i j hi hj hij
  · rw [gI_sI, if_neg (by omega)]; exact a2 i f (by omega)
  · rw [gR_sI]; exact a3 i (by omega)
def nze (z e g : Nat) : Nat × Nat := if ¬ (g + 1) % e = 0 then (z, e) else if z = 8 then (5, 2 * e) else (z + 1, e)
theorem at_end {z e g : Nat} (he : 1 ≤ e) (hz1 : 1 ≤ z) (hz : (z - 1) * e ≤ g) (hz2 : g < z * e) (hm : (g + 1) % e = 0) : g + 1 = z * e := by
  have h1 := Nat.div_add_mod (g + 1) e
  rw [hm, Nat.add_zero] at h1
  have h2 : (g + 1) / e ≤ z := by
    rw [Nat.div_le_iff_le_mul_add_pred he]
    rw [Nat.mul_comm] at hz2
    omega
  have h3 : z ≤ (g + 1) / e := by
    obtain ⟨y, rfl⟩ : ∃ y, z = y + 1 := ⟨z - 1, by omega⟩
    have : y < (g + 1) / e := by
      refine Nat.lt_of_mul_lt_mul_left (a := e) ?_
      rw [h1, Nat.mul_comm]
      simp only [Nat.add_sub_cancel] at hz
      omega
    omega
  have h4 : (g + 1) / e = z := by omega
  rw [h4, Nat.mul_comm] at h1
  exact h1.symm
theorem nze_ok {z e g : Nat} (he : 1 ≤ e) (hz1 : 1 ≤ z) (hz8 : z ≤ 8) (hz : (z - 1) * e ≤ g) (hz2 : g < z * e) : ((nze z e g).1 - 1) * (nze z e g).2 ≤ g + 1 ∧ g + 1 < (nze z e g).1 * (nze z e g).2 := by
  unfold nze
  by_cases hm : (g + 1) % e = 0
  · rw [if_neg (not_not_intro hm)]
    have h1 := at_end he hz1 hz hz2 hm
    by_cases h8 : z = 8
    · rw [if_pos h8]
      subst h8
      dsimp only
      omega
    · rw [if_neg h8]
      dsimp only
      rw [Nat.add_sub_cancel, h1, Nat.add_mul]
      omega
  · rw [if_pos hm]
    dsimp only
    refine ⟨by omega, ?_⟩
    have : g + 1 ≠ z * e := fun q => hm (by rw [q]; exact Nat.mul_mod_left z e)
    omega
theorem coffer {S : xS} {tr : Nat → aM} {z e g N : Nat} (P : CP S tr z e) (G : trg N (g + 1) tr) (hv : vw S 4 = tr (g + 1)) (hz : (z - 1) * e ≤ g) (hz2 : g < z * e) (hg : g + 1 ≤ 3000) : p_Cp_offer S 4 ∧ CP (f_Cp_offer S 4).2 tr (nze z e g).1 (nze z e g).2 ∧ pF S (f_Cp_offer S 4).2 := by
  have P0 := P
  obtain ⟨c1, c2, c3, c4, c5, c6, c7, c8⟩ := P
  have htm : gI S 4 0 = Int32.ofNat (g + 1) := by rw [vw_reg hv (by decide)]; exact (G (g + 1) (Nat.le_refl _)).1
  obtain ⟨m1, m2⟩ := mult c2 ⟨c5, by omega⟩ (t := g + 1) (by omega)
  unfold p_Cp_offer f_Cp_offer nze
  simp only [px_let_id]
  rw [htm, m1]
  by_cases hm : ¬ (g + 1) % e = 0
  · rw [if_neg hm, if_pos hm]
    simp only [if_true]
    exact ⟨⟨m2, fun r2 q2 => ⟨fun _ => trivial, fun h => absurd q2 h⟩⟩, P0, pF_rf⟩
  have hm0 : (g + 1) % e = 0 := Decidable.not_not.mp hm
  have hge := at_end c5 c3 hz hz2 hm0
  rw [if_pos hm0, if_neg hm, if_neg (show ¬ (1 : Int32) = 0 by decide)]
  have h88 : (gI S 104 1 = 8) ↔ z = 8 := by rw [c1, show (8 : Int32) = Int32.ofNat 8 from rfl, n32_eq (by omega) (by decide)]
  by_cases h8 : z = 8
  · rw [if_pos (h88.mpr h8), if_pos h8]
    subst h8
    have e6 : gI S 104 2 * 2 = Int32.ofNat (2 * e) := by
      rw [c2, show (2 : Int32) = Int32.ofNat 2 from rfl, n32_mul]
      congr 1
      omega
    rw [e6]
    have hk : ∀ i : Nat, vw (sI S 104 2 (Int32.ofNat (2 * e))) (iS i) = vw S (iS i) := fun i => by
      refine Prod.ext ?_ rfl
      funext k
      simp only [vw, gI_sI]
      rw [if_neg (show ¬ (iS i = 104 ∧ k = 2) by unfold iS; omega)]
    have hve : ∀ i, i < 8 → i * e ≤ g := fun i hi => Nat.le_trans (Nat.mul_le_mul_right e (show i ≤ 8 - 1 by omega)) hz
    have T6 : thI (gK S) e (sI S 104 2 (Int32.ofNat (2 * e))) 0 := by
      refine ⟨by rw [gI_sI, if_neg (by decide)]; exact c1, by rw [gI_sI, if_pos ⟨rfl, rfl⟩], fun i hi => ?_, fun i hi => absurd hi (by omega), fun i _ _ => rfl, c8⟩
      have h7 := c7 i hi
      rw [← hk] at h7
      rw [vw_reg h7 (by decide)]
      exact (G _ (by have := hve i hi; omega)).1
    obtain ⟨t1, t2, t3, t4, t5, t6⟩ := thin ⟨c5, c6⟩ 8 9 _ 0 (by decide) rfl T6
    have ht : f_Cp_thinOut (sI S 104 2 (Int32.ofNat (2 * e))) = g_Cp_thinOut 9 (sI S 104 2 (Int32.ofNat (2 * e))) (Int32.ofNat ((0 + 1) / 2)) (Int32.ofNat 0) := rfl
    have hp : p_Cp_thinOut (sI S 104 2 (Int32.ofNat (2 * e))) := t1
    rw [← ht] at t2 t3 t4 t5 t6
    generalize hS9 : (f_Cp_thinOut (sI S 104 2 (Int32.ofNat (2 * e)))).2 = S9 at *
    have c9 : gI S9 104 2 = Int32.ofNat (2 * e) := by rw [t3 104 2 (by omega), gI_sI, if_pos ⟨rfl, rfl⟩]
    have he2 : e ≤ 375 := by omega
    have tm9 : gI S9 4 0 = Int32.ofNat (g + 1) := by rw [t3 4 0 (by omega), gI_sI, if_neg (by decide)]; exact htm
    obtain ⟨n1, n2⟩ := mult c9 ⟨by omega, by omega⟩ (t := g + 1) (by omega)
    have hmu : (g + 1) % (2 * e) = 0 := by
      rw [hge, show 8 * e = 4 * (2 * e) by omega]
      exact Nat.mul_mod_left 4 (2 * e)
    rw [hmu, if_pos rfl] at n1
    rw [tm9, n1, if_neg (show ¬ (1 : Int32) = 0 by decide)]
    have h9 : ¬ (8 : Int32) ≤ gI S9 104 1 := by rw [t2]; decide
    rw [if_neg h9]
    have hcl : (gI S9 104 1).toNatClampNeg = 4 := by rw [t2]; rfl
    rw [hcl]
    have vw9 : ∀ i : Nat, i ≠ 104 → vw S9 i = vw S i := fun i hi => by
      refine Prod.ext ?_ ?_
      · funext k
        simp only [vw]
        rw [t3 i k (Or.inl hi), gI_sI, if_neg (show ¬ (i = 104 ∧ k = 2) by omega)]
      · funext k
        simp only [vw]
        rw [t4]
        rfl
    obtain ⟨k1, k2⟩ := keep1 (S := S9) (tr := tr) (z := 4) (e := 2 * e) t2 c9 (by decide) ⟨by omega, by omega⟩ (fun i hi => by
      rw [t5 i hi, vw9 _ (by unfold iS; omega), c7 (2 * i) (by omega)]
      congr 1
      rw [Nat.mul_comm 2 i, Nat.mul_assoc]) t6 (by
      rw [vw9 4 (by decide), hv, hge]
      congr 1
      omega)
    refine ⟨⟨m2, fun r2 q2 => ⟨fun h => absurd (q2.symm.trans h) (by decide), fun _ => ⟨fun _ S6 q6 => ?_, fun h => absurd (h88.mpr rfl) h⟩⟩⟩, k1, pF_tr ⟨fun i f h => ?_, fun i h => ?_⟩ k2⟩
    · subst q6
      refine ⟨hp, fun S9' q9 => ?_⟩
      rw [hS9] at q9
      subst q9
      rw [tm9]
      refine ⟨n2, fun r12 q12 => ⟨fun h => absurd (q12.symm.trans (h.trans rfl)) (by rw [n1]; decide), fun _ => ⟨fun h => absurd h h9, fun _ => ⟨by rw [t2]; exact vin_of (by decide) (by decide), fun _ _ _ _ => trivial⟩⟩⟩⟩
    · rw [t3 i f (by omega), gI_sI, if_neg (by omega)]
    · rw [t4]; rfl
  · have h8' : ¬ gI S 104 1 = 8 := fun q => h8 (h88.mp q)
    rw [if_neg h8', if_neg h8]
    have h9 : ¬ (8 : Int32) ≤ gI S 104 1 := by rw [c1, show (8 : Int32) = Int32.ofNat 8 from rfl, n32_le (by decide) (by omega)]; omega
    rw [if_neg h9]
    have hcl : (gI S 104 1).toNatClampNeg = z := by rw [c1]; exact n32_clamp (by omega)
    rw [hcl]
    obtain ⟨k1, k2⟩ := keep1 (S := S) (tr := tr) (z := z) (e := e) c1 c2 (by omega) ⟨c5, c6⟩ c7 c8 (by rw [hv, hge])
    refine ⟨⟨m2, fun r2 q2 => ⟨fun h => absurd (q2.symm.trans h) (by decide), fun _ => ⟨fun h => absurd h h8', fun _ => ⟨m2, fun r22 q22 => ⟨fun h => trivial, fun _ => ⟨fun h => absurd h h9, fun _ => ⟨by rw [c1]; exact vin_of (by omega) (by decide), fun _ _ _ _ => trivial⟩⟩⟩⟩⟩⟩⟩, k1, k2⟩
