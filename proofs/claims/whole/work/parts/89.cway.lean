/-! the class's ways through time: notes back, checkpoints, steps done again -/
def nrm (f : Nat → Int32) : Nat → Int32 := fun j => if j < 56 then f j else 0
theorem nrm_upd {f : Nat → Int32} {c : Nat} {v : Int32} (hc : c < 56) : nrm (upd f c v) = upd (nrm f) c v := by
  funext j
  simp only [nrm, upd]
  by_cases h : j = c
  · subst h; simp [hc]
  · simp [h]
theorem cpSN (S : xS) {i : Nat} (hi : i ≠ 4) : (∀ f, f < 7 → gI (f_Rg_copySN S 4 i).2 4 f = gI S i f) ∧ (∀ i' f, i' ≠ 4 → gI (f_Rg_copySN S 4 i).2 i' f = gI S i' f) ∧ (∀ i', gR (f_Rg_copySN S 4 i).2 i' = gR S i') ∧ gK (f_Rg_copySN S 4 i).2 = gK S := by
  unfold f_Rg_copySN
  simp only [px_let_id]
  refine ⟨fun f hf => ?_, fun i' f h => ?_, fun i' => rfl, rfl⟩
  · obtain rfl | rfl | rfl | rfl | rfl | rfl | rfl : f = 0 ∨ f = 1 ∨ f = 2 ∨ f = 3 ∨ f = 4 ∨ f = 5 ∨ f = 6 := by omega
    all_goals simp [gI_sI, hi]
  · simp only [gI_sI, h, hi, false_and, if_false]
theorem cpSS (S : xS) {i j : Nat} (hi : j ≠ i) : (∀ f, f < 7 → gI (f_Rg_copySS S i j).2 i f = gI S j f) ∧ (∀ i' f, i' ≠ i → gI (f_Rg_copySS S i j).2 i' f = gI S i' f) ∧ (∀ i', gR (f_Rg_copySS S i j).2 i' = gR S i') ∧ gK (f_Rg_copySS S i j).2 = gK S := by
  unfold f_Rg_copySS
  simp only [px_let_id]
  refine ⟨fun f hf => ?_, fun i' f h => ?_, fun i' => rfl, rfl⟩
  · obtain rfl | rfl | rfl | rfl | rfl | rfl | rfl : f = 0 ∨ f = 1 ∨ f = 2 ∨ f = 3 ∨ f = 4 ∨ f = 5 ∨ f = 6 := by omega
    all_goals simp [gI_sI, hi]
  · simp only [gI_sI, h, hi, false_and, if_false]
theorem cpSt (S : xS) {i j : Nat} (hi : j ≠ i) (h2 : j + 1 ≠ i + 1) : vw (f_St_copyState S i j).2 i = vw S j ∧ (∀ i' f, i' ≠ i → gI (f_St_copyState S i j).2 i' f = gI S i' f) ∧ (∀ i', i' ≠ i + 1 → gR (f_St_copyState S i j).2 i' = gR S i') ∧ gK (f_St_copyState S i j).2 = gK S := by
  obtain ⟨c1, c2, c3, c4⟩ := cpSS S hi
  unfold f_St_copyState
  simp only [px_let_id]
  refine ⟨Prod.ext ?_ ?_, fun i' f h => ?_, fun i' h => ?_, ?_⟩
  · funext k
    simp only [vw, gI_sR]
    by_cases hk : k < 7
    · rw [if_pos hk, if_pos hk]; exact c1 k hk
    · rw [if_neg hk, if_neg hk]
  · funext k
    simp only [vw, gR_sR, if_true]
    by_cases hk : k < 56
    · rw [if_pos hk, if_pos hk]
      unfold va_cpy
      rw [if_pos (by omega), c3]
      congr 1
      omega
    · rw [if_neg hk, if_neg hk]
  · rw [gI_sR]; exact c2 i' f h
  · rw [gR_sR, if_neg h]; exact c3 i'
  · rw [gK_sR]; exact c4
theorem rest_n {i : Nat} (hi : 8 ≤ i) : ∀ (n fuel : Nat) (S : xS), n < fuel → n ≤ 2 → (∀ q, q < n → vp_in (gR S (i + 1) q) 56) → q_Nt_restore i 4 fuel S (Int32.ofNat n - 1) ∧ (∀ f, f < 7 → gI (g_Nt_restore i 4 fuel S (Int32.ofNat n - 1)).2 4 f = gI S i f) ∧ nrm (gR (g_Nt_restore i 4 fuel S (Int32.ofNat n - 1)).2 5) = undoW n (gR S (i + 1)) (gR S (i + 2)) (nrm (gR S 5)) ∧
    (∀ i' f, i' ≠ 4 → gI (g_Nt_restore i 4 fuel S (Int32.ofNat n - 1)).2 i' f = gI S i' f) ∧ (∀ i', i' ≠ 5 → gR (g_Nt_restore i 4 fuel S (Int32.ofNat n - 1)).2 i' = gR S i') ∧ gK (g_Nt_restore i 4 fuel S (Int32.ofNat n - 1)).2 = gK S := by
  intro n
  induction n with
  | zero =>
    intro fuel S h1 h2 h3
    obtain ⟨k, rfl⟩ : ∃ k, fuel = k + 1 := ⟨fuel - 1, by omega⟩
    have hneg : Int32.ofNat 0 - 1 < 0 := by decide
    obtain ⟨c1, c2, c3, c4⟩ := cpSN S (i := i) (by omega)
    unfold q_Nt_restore g_Nt_restore
    simp only [px_let_id]
    rw [if_pos hneg]
    exact ⟨⟨fun _ _ _ => trivial, fun h => absurd hneg h⟩, c1, by rw [c3]; rfl, c2, fun i' _ => c3 i', c4⟩
  | succ n ih =>
    intro fuel S h1 h2 h3
    obtain ⟨k, rfl⟩ : ∃ k, fuel = k + 1 := ⟨fuel - 1, by omega⟩
    have ev : Int32.ofNat (n + 1) - 1 = Int32.ofNat n := n32_sub (b := 1) (by omega)
    have hneg : ¬ Int32.ofNat n < 0 := n32_nneg (by omega)
    have ed : Int32.ofNat n + (-1) = Int32.ofNat n - 1 := by
      rw [Int32.sub_eq_add_neg]
    have hv : vp_in (Int32.ofNat n) 2 := vin_of (by omega) (by decide)
    obtain ⟨c, hc, hc2, ec⟩ := vin_get (h3 n (by omega))
    have hcl : (gR S (i + 1) n).toNatClampNeg = c := by rw [ec]; exact n32_clamp hc2
    have hncl : (Int32.ofNat n).toNatClampNeg = n := n32_clamp (by omega)
    rw [ev]
    unfold q_Nt_restore g_Nt_restore
    simp only [px_let_id]
    rw [if_neg hneg, hncl, ed]
    obtain ⟨d1, d2, d3, d4, d5, d6⟩ := ih k (sR S (4 + 1) (upd (gR S (4 + 1)) (gR S (i + 1) n).toNatClampNeg (gR S (i + 2) n))) (by omega) (by omega) (fun q hq => by
      rw [gR_sR, if_neg (by omega)]; exact h3 q (by omega))
    have r1 : gR (sR S (4 + 1) (upd (gR S (4 + 1)) (gR S (i + 1) n).toNatClampNeg (gR S (i + 2) n))) (i + 1) = gR S (i + 1) := by rw [gR_sR, if_neg (by omega)]
    have r2 : gR (sR S (4 + 1) (upd (gR S (4 + 1)) (gR S (i + 1) n).toNatClampNeg (gR S (i + 2) n))) (i + 2) = gR S (i + 2) := by rw [gR_sR, if_neg (by omega)]
    have r5 : gR (sR S (4 + 1) (upd (gR S (4 + 1)) (gR S (i + 1) n).toNatClampNeg (gR S (i + 2) n))) 5 = upd (gR S 5) (gR S (i + 1) n).toNatClampNeg (gR S (i + 2) n) := by rw [gR_sR, if_pos rfl]
    refine ⟨⟨fun h => absurd h hneg, fun _ => ⟨hv, hv, h3 n (by omega), fun S6 e6 => by subst e6; exact d1⟩⟩, fun f hf => (d2 f hf).trans rfl, ?_, fun i' f h => (d4 i' f h).trans rfl, fun i' h => ?_, d6⟩
    · rw [d3, r1, r2, r5, hcl, nrm_upd hc]
      show _ = undoW n _ _ (upd (nrm (gR S 5)) (gR S (i + 1) n).toNatClampNeg (gR S (i + 2) n))
      rw [hcl]
    · rw [d5 i' h, gR_sR, if_neg h]
theorem restore {S : xS} {k : Nat} {a c : aM} (ha : ∃ (X : xS) (i0 : Nat), a = vw X i0) (hN : nt S k a c) (hv : vw S 4 = c) : p_Nt_restore S (iN k) 4 ∧ vw (f_Nt_restore S (iN k) 4).2 4 = a ∧ (∀ i' f, i' ≠ 4 → gI (f_Nt_restore S (iN k) 4).2 i' f = gI S i' f) ∧ (∀ i', i' ≠ 5 → gR (f_Nt_restore S (iN k) 4).2 i' = gR S i') ∧ gK (f_Nt_restore S (iN k) 4).2 = gK S := by
  obtain ⟨h1, n, h2, h3, h4, h5⟩ := hN
  have hi : 8 ≤ iN k := by unfold iN; omega
  unfold p_Nt_restore f_Nt_restore
  rw [h3]
  obtain ⟨d1, d2, d3, d4, d5, d6⟩ := rest_n hi n 3 S (by omega) h2 h4
  have hm : nrm (gR S 5) = c.2 := by rw [← hv]; rfl
  refine ⟨d1, ?_, d4, d5, d6⟩
  obtain ⟨X, i0, hX⟩ := ha
  refine Prod.ext ?_ ?_
  · funext f
    simp only [vw]
    by_cases hf : f < 7
    · rw [if_pos hf, d2 f hf]; exact h1 f hf
    · rw [if_neg hf, hX]
      simp only [vw]
      rw [if_neg hf]
  · show nrm (gR _ 5) = a.2
    rw [d3, hm, h5]
theorem tb {tr : Nat → aM} {N G : Nat} (hG : trg N G tr) : ∀ (r fuel : Nat) (S : xS) (t u q d v : Nat), r < fuel → r ≤ u → t ≤ G → d = v + r → d < 4000 → CI S tr t u q → q_Un_takeBack 4 fuel S (Int32.ofNat d) (Int32.ofNat v) ∧ CI (g_Un_takeBack 4 fuel S (Int32.ofNat d) (Int32.ofNat v)).2 tr (t - r) (u - r) ((q + 32 - r) % 32) ∧ oF S (g_Un_takeBack 4 fuel S (Int32.ofNat d) (Int32.ofNat v)).2 := by
  intro r
  induction r with
  | zero =>
    intro fuel S t u q d v h1 h2 ht h3 h4 C
    obtain ⟨k, rfl⟩ : ∃ k, fuel = k + 1 := ⟨fuel - 1, by omega⟩
    have hle : Int32.ofNat d ≤ Int32.ofNat v := (n32_le (by omega) (by omega)).mpr (by omega)
    unfold q_Un_takeBack g_Un_takeBack
    rw [if_pos hle]
    refine ⟨⟨fun _ => trivial, fun h => absurd hle h⟩, ?_, oF_rf⟩
    rw [show t - 0 = t by omega, show u - 0 = u by omega, show (q + 32 - 0) % 32 = q by have := C.2.2.1; omega]
    exact C
  | succ r ih =>
    intro fuel S t u q d v h1 h2 ht h3 h4 C
    obtain ⟨k, rfl⟩ : ∃ k, fuel = k + 1 := ⟨fuel - 1, by omega⟩
    have hle : ¬ Int32.ofNat d ≤ Int32.ofNat v := fun z => by rw [n32_le (by omega) (by omega)] at z; omega
    obtain ⟨c1, c2, c3, c4, c5, c6, c7⟩ := C
    have hu : ¬ gI S 6 2 ≤ 0 := by rw [c4, show (0 : Int32) = Int32.ofNat 0 from rfl, n32_le (by omega) (by decide)]; omega
    have hN := c7 0 (by omega)
    rw [show (q + 32 - 0) % 32 = q by omega, show t - 0 = t by omega] at hN
    have hcl : (gI S 6 1).toNatClampNeg = q := by rw [c2]; exact n32_clamp (by omega)
    obtain ⟨r1, r2, r3, r4, r5⟩ := restore (hG (t - 1) (by omega)).2.2.2 hN c1
    have hv : vp_in (gI S 6 1) 32 := by rw [c2]; exact vin_of c3 (by decide)
    unfold q_Un_takeBack g_Un_takeBack
    simp only [px_let_id]
    rw [if_neg hle, if_neg hu, hcl]
    generalize (f_Nt_restore S (iN q) 4).2 = S5 at *
    have e1 : ((gI S5 6 1) + 32) - 1 - (((gI S5 6 1) + 32) - 1) / 32 * 32 = Int32.ofNat ((q + 31) % 32) := by
      rw [r3 6 1 (by decide), c2, show (32 : Int32) = Int32.ofNat 32 from rfl, n32_add, show (1 : Int32) = Int32.ofNat 1 from rfl, n32_sub (by omega), n32_rem (by omega) (by decide)]
      congr 2
    have e2 : gI (sI S5 6 1 (Int32.ofNat ((q + 31) % 32))) 6 2 - 1 = Int32.ofNat (u - 1) := by
      rw [gI_sI, if_neg (by decide), r3 6 2 (by decide), c4]
      exact n32_sub (b := 1) (by omega)
    have e3 : Int32.ofNat v + 1 = Int32.ofNat (v + 1) := n32_add v 1
    rw [e1, e2, e3]
    have C9 : CI (sI (sI S5 6 1 (Int32.ofNat ((q + 31) % 32))) 6 2 (Int32.ofNat (u - 1))) tr (t - 1) (u - 1) ((q + 31) % 32) := by
      refine ⟨?_, ?_, Nat.mod_lt _ (by decide), ?_, by omega, by omega, fun j hj => ?_⟩
      · rw [← r2]
        refine Prod.ext ?_ rfl
        funext f
        simp only [vw, gI_sI]
        simp
      · rw [gI_sI, if_neg (by decide), gI_sI, if_pos ⟨rfl, rfl⟩]
      · rw [gI_sI, if_pos ⟨rfl, rfl⟩]
      · have hh := c7 (j + 1) (by omega)
        rw [show ((q + 31) % 32 + 32 - j) % 32 = (q + 32 - (j + 1)) % 32 by omega, show t - 1 - j - 1 = t - (j + 1) - 1 by omega, show t - 1 - j = t - (j + 1) by omega]
        have hi2 : 8 ≤ iN ((q + 32 - (j + 1)) % 32) ∧ iN ((q + 32 - (j + 1)) % 32) < 104 := by unfold iN; omega
        refine nt_same hh (fun f => ?_) ?_ ?_
        · rw [gI_sI, if_neg (by omega), gI_sI, if_neg (by omega)]; exact r3 _ f (by omega)
        · rw [gR_sI, gR_sI]; exact r4 _ (by omega)
        · rw [gR_sI, gR_sI]; exact r4 _ (by omega)
    have O9 : oF S (sI (sI S5 6 1 (Int32.ofNat ((q + 31) % 32))) 6 2 (Int32.ofNat (u - 1))) := by
      refine ⟨r5, fun i f h => ?_, fun i h => ?_⟩
      · rw [gI_sI, if_neg (by omega), gI_sI, if_neg (by omega)]; exact r3 i f (by omega)
      · rw [gR_sI, gR_sI]; exact r4 i (by omega)
    obtain ⟨d1, d2, d3⟩ := ih k _ (t - 1) (u - 1) ((q + 31) % 32) d (v + 1) (by omega) (by omega) (by omega) (by omega) h4 C9
    refine ⟨⟨fun h => absurd h hle, fun _ => ⟨fun h => absurd h hu, fun _ => ⟨hv, ?_⟩⟩⟩, ?_, oF_tr O9 d3⟩
    · refine ⟨r1, fun S5' q5 S7 q7 S9 q9 => ?_⟩
      subst q5
      rw [e1] at q7
      subst q7
      rw [e2] at q9
      subst q9
      exact d1
    · rw [show t - (r + 1) = t - 1 - r by omega, show u - (r + 1) = u - 1 - r by omega, show (q + 32 - (r + 1)) % 32 = ((q + 31) % 32 + 32 - r) % 32 by omega]
      exact d2
