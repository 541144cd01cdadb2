/-! every call of both: what is set, what is read -/
theorem gR_ne {S : xS} {i i' : Nat} {f : Nat → Int32} (h : i' ≠ i) : gR (sR S i f) i' = gR S i' := by rw [gR_sR, if_neg h]
theorem gR_at {S : xS} {i : Nat} {f : Nat → Int32} : gR (sR S i f) i = f := by rw [gR_sR, if_pos rfl]
theorem sR_same (S : xS) (i : Nat) : sR S i (gR S i) = S := by
  refine Prod.ext rfl (Prod.ext ?_ rfl)
  funext j
  show (if j = i then gR S i else S.2.1 j) = S.2.1 j
  by_cases h : j = i
  · rw [if_pos h, h]; rfl
  · rw [if_neg h]
theorem upd_same {f : Nat → Int32} {c : Nat} {x : Int32} (h : f c = x) : upd f c x = f := by
  funext j
  by_cases hj : j = c
  · rw [hj, upd_self, h]
  · rw [upd_ne _ _ hj]
theorem upd_01 {f : Nat → Int32} {c : Nat} {x : Int32} (h : ∀ j, f j = 0 ∨ f j = 1) (hx : x = 0 ∨ x = 1) (j : Nat) : upd f c x j = 0 ∨ upd f c x j = 1 := by
  by_cases hj : j = c
  · rw [hj, upd_self]; exact hx
  · rw [upd_ne _ _ hj]; exact h j
theorem code_at (T : xS) (x : Int32) : gI (sI T 124 10 x) 124 10 = x := by rw [gI_sI, if_pos ⟨rfl, rfl⟩]
theorem code_ne (T : xS) (x : Int32) {f : Nat} (hf : f ≠ 10) : gI (sI T 124 10 x) 124 f = gI T 124 f := by rw [gI_sI, if_neg (fun w => hf w.2)]
theorem out_wi (i k : Int32) : (f_RM_within i k = 0 ∧ f_Mo_outside i k = 1) ∨ (f_RM_within i k = 1 ∧ f_Mo_outside i k = 0) := by
  unfold f_RM_within f_Mo_outside
  by_cases h1 : i < 0
  · left; rw [if_pos h1, if_pos h1]; exact ⟨rfl, rfl⟩
  · rw [if_neg h1, if_neg h1]
    by_cases h2 : k ≤ i
    · have h3 : ¬ i < k := Int32.not_lt.mpr h2
      left; rw [if_pos h2, if_neg h3]; exact ⟨rfl, rfl⟩
    · have h3 : i < k := Int32.not_le.mp h2
      right; rw [if_neg h2, if_pos h3]; exact ⟨rfl, rfl⟩
section LKA
variable {S T : xS} {tr : Nat → aM} {t g n u q z e h k : Nat}
theorem CI_fr {S' : xS} (C : CI S tr t u q) (h1 : ∀ i f, 4 ≤ i → i < 104 → gI S' i f = gI S i f) (h2 : ∀ i, 4 ≤ i → i < 104 → gR S' i = gR S i) : CI S' tr t u q := by
  obtain ⟨c1, c2, c3, c4, c5, c6, c7⟩ := C
  refine ⟨?_, by rw [h1 6 1 (by decide) (by decide)]; exact c2, c3, by rw [h1 6 2 (by decide) (by decide)]; exact c4, c5, c6, fun j hj => ?_⟩
  · rw [← c1]
    refine Prod.ext ?_ ?_
    · funext i
      simp only [vw]
      rw [h1 4 i (by decide) (by decide)]
    · funext i
      simp only [vw]
      rw [h2 (4 + 1) (by decide) (by decide)]
  · have hi : 8 ≤ iN ((q + 32 - j) % 32) ∧ iN ((q + 32 - j) % 32) + 2 < 104 := by unfold iN; omega
    exact nt_same (c7 j hj) (fun f => h1 _ f (by omega) (by omega)) (h2 _ (by omega) (by omega)) (h2 _ (by omega) (by omega))
theorem CP_fr {S' : xS} (C : CP S tr z e) (h0 : gK S' = gK S) (h1 : ∀ i f, 104 ≤ i → i < 122 → gI S' i f = gI S i f) (h2 : ∀ i, 104 ≤ i → i < 122 → gR S' i = gR S i) : CP S' tr z e := by
  obtain ⟨p1, p2, p3, p4, p5, p6, p7, p8⟩ := C
  refine ⟨by rw [h1 104 1 (by decide) (by decide)]; exact p1, by rw [h1 104 2 (by decide) (by decide)]; exact p2, p3, p4, p5, p6, fun i hi => ?_, fun i j hi hj hij => ?_⟩
  · rw [← p7 i hi, h0]
    have hk : 106 ≤ iS (gK S i) ∧ iS (gK S i) + 1 < 122 := by unfold iS; omega
    refine Prod.ext ?_ ?_
    · funext j
      simp only [vw]
      rw [h1 _ j (by omega) (by omega)]
    · funext j
      simp only [vw]
      rw [h2 _ (by omega) (by omega)]
  · rw [h0] at hij; exact p8 i j hi hj hij
theorem RL_code (L : RL S T tr t g n u q z e h k) (x : Int32) : RL S (sI T 124 10 x) tr t g n u q z e h k := RL_tF L ⟨fun f hf => code_ne T x hf, fun _ _ => rfl⟩
theorem RL_B (L : RL S T tr t g n u q z e h k) (f : Nat → Int32) (hf : ∀ j, f j = 0 ∨ f j = 1) : RL (sR S 122 f) (sR T 127 f) tr t g n u q z e h k := by
  obtain ⟨⟨l1, l2, l3, l4, l5, l6, l7, l8, l9, l10, l11, l12, l13, l14⟩, C, P, rk, rm, R, a1, a2, a3, a4, a5⟩ := L
  refine ⟨⟨?_, ?_, ?_, ?_, l5, l6, l7, l8, l9, l10, l11, l12, ?_, ?_⟩, CI_fr C (fun _ _ _ _ => rfl) (fun i h1 h2 => gR_ne (by omega)), CP_fr P rfl (fun _ _ _ _ => rfl) (fun i h1 h2 => gR_ne (by omega)), ⟨rk.1, rk.2.1, ?_⟩, RM_rF rm (gR_ne (by decide)) (gR_ne (by decide)), rv_same R (fun _ _ _ => rfl) (gR_ne (by decide)) (gR_ne (by decide)), a1, a2, a3, ?_, a5⟩
  · rw [gR_ne (by decide), gR_ne (by decide)]; exact l1
  · rw [gR_ne (by decide), gR_ne (by decide)]; exact l2
  · rw [gR_at, gR_at]
  · rw [gR_ne (by decide), gR_ne (by decide)]; exact l4
  · rw [gR_at]; exact hf
  · rw [gR_ne (by decide)]; exact l14
  · rw [gR_ne (by decide)]; exact rk.2.2
  · rw [gR_ne (by decide), gR_ne (by decide)]; exact a4
theorem RL_W (L : RL S T tr t g n u q z e h k) (f : Nat → Int32) (hf : ∀ j, f j = 0 ∨ f j = 1) : RL (sR S 123 f) (sR T 128 f) tr t g n u q z e h k := by
  obtain ⟨⟨l1, l2, l3, l4, l5, l6, l7, l8, l9, l10, l11, l12, l13, l14⟩, C, P, rk, rm, R, a1, a2, a3, a4, a5⟩ := L
  refine ⟨⟨?_, ?_, ?_, ?_, l5, l6, l7, l8, l9, l10, l11, l12, ?_, ?_⟩, CI_fr C (fun _ _ _ _ => rfl) (fun i h1 h2 => gR_ne (by omega)), CP_fr P rfl (fun _ _ _ _ => rfl) (fun i h1 h2 => gR_ne (by omega)), ⟨rk.1, rk.2.1, ?_⟩, RM_rF rm (gR_ne (by decide)) (gR_ne (by decide)), rv_same R (fun _ _ _ => rfl) (gR_ne (by decide)) (gR_ne (by decide)), a1, a2, a3, ?_, a5⟩
  · rw [gR_ne (by decide), gR_ne (by decide)]; exact l1
  · rw [gR_ne (by decide), gR_ne (by decide)]; exact l2
  · rw [gR_ne (by decide), gR_ne (by decide)]; exact l3
  · rw [gR_at, gR_at]
  · rw [gR_ne (by decide)]; exact l13
  · rw [gR_at]; exact hf
  · rw [gR_ne (by decide)]; exact rk.2.2
  · rw [gR_ne (by decide), gR_ne (by decide)]; exact a4
/-- a new code, while the time is 0 and none has been seen -/
theorem RL_P (L : RL S T tr t g n u q z e h k) (hg : g = 0) (f : Nat → Int32) : RL (sR S 2 f) (sR T 125 f) tr t g n u q z e h k := by
  obtain ⟨⟨l1, l2, l3, l4, l5, l6, l7, l8, l9, l10, l11, l12, l13, l14⟩, C, P, rk, rm, R, a1, a2, a3, a4, a5⟩ := L
  refine ⟨⟨?_, ?_, ?_, ?_, l5, l6, l7, l8, l9, l10, l11, l12, ?_, ?_⟩, CI_fr C (fun _ _ _ _ => rfl) (fun i h1 h2 => gR_ne (by omega)), CP_fr P rfl (fun _ _ _ _ => rfl) (fun i h1 h2 => gR_ne (by omega)), ⟨rk.1, rk.2.1, ?_⟩, RM_rF rm (gR_ne (by decide)) (gR_ne (by decide)), rv_same R (fun _ _ _ => rfl) (gR_ne (by decide)) (gR_ne (by decide)), a1, a2, a3, fun i hi => absurd hi (by omega), a5⟩
  · rw [gR_at, gR_at]
  · rw [gR_ne (by decide), gR_ne (by decide)]; exact l2
  · rw [gR_ne (by decide), gR_ne (by decide)]; exact l3
  · rw [gR_ne (by decide), gR_ne (by decide)]; exact l4
  · rw [gR_ne (by decide)]; exact l13
  · rw [gR_ne (by decide)]; exact l14
  · rw [gR_ne (by decide)]; exact rk.2.2
end LKA
theorem obs2_more {c c' : Int32} {m : aM} {o w : Int32} (hlt : m.1 4 < c → m.1 4 < c') (h : aObs2 c m o w = 0) : aObs2 c' m o w = 0 := by
  obtain ⟨a1, a2, a3, a4, a5, a6, a7, a8⟩ := obs_facts h
  unfold aObs2
  rw [if_neg (show ¬ ¬ o ≤ 20 from fun z => z a1), if_neg a2, if_neg (show ¬ ¬ aFew m o w = 0 from fun z => z a3), if_neg (show ¬ ((o = 10 ∨ o = 11) ∧ f_RM_within (aTop m 0) 32 = 0) from fun z => a4 z.1 z.2), if_neg (show ¬ ((o = 8 ∧ aTop m 0 = 0) ∨ (o = 19 ∧ ¬ 1 ≤ w)) from fun z => z.elim (fun z => a5 z.1 z.2) (fun z => z.2 (a6 z.1))), if_neg (show ¬ (o = 18 ∧ ¬ m.1 4 < c') from fun z => z.2 (hlt (a7 z.1))), if_pos a8]
theorem op_more {inp inp' : Nat → Int32} {c c' o w : Int32} {m : aM} (h : o = 18 → aTake inp' c' m = aTake inp c m) : aOp inp' c' o w m = aOp inp c o w m := by
  unfold aOp
  by_cases h18 : o = 18
  · rw [h h18]
  · simp only [if_neg h18]
/-- one more input changes nothing of what has been -/
theorem step_more {cd inp inp' : Nat → Int32} {n k : Nat} {m : aM} (hk : m.1 4 = Int32.ofNat k) (hkn : k ≤ n) (hn : n < 40) (hi : ∀ j, j < n → inp' j = inp j) (h : aObs cd (Int32.ofNat n) m = 0) : aObs cd (Int32.ofNat (n + 1)) m = 0 ∧ aStep cd inp' (Int32.ofNat (n + 1)) m = aStep cd inp (Int32.ofNat n) m := by
  unfold aObs at *
  unfold aStep
  by_cases hpc : f_RM_within (m.1 1) 64 = 0
  · rw [if_pos hpc] at h; exact absurd h (by decide)
  rw [if_neg hpc] at h
  rw [if_neg hpc, if_neg hpc, if_neg hpc]
  refine ⟨obs2_more (fun w => ?_) h, op_more (fun h18 => ?_)⟩
  · rw [hk, n32_lt (by omega) (by omega)] at w ⊢; omega
  · have a7 := (obs_facts h).2.2.2.2.2.2.1 h18
    rw [hk, n32_lt (by omega) (by omega)] at a7
    have hb : (aBegin m).1 4 = Int32.ofNat k := hk
    unfold aTake
    rw [hb, wi_in a7 (by omega), wi_in (show k < n + 1 by omega) (by omega), n32_clamp (n := k) (by omega), hi k a7]
section LKB
variable {S T : xS} {tr : Nat → aM} {t g n u q z e h k : Nat}
theorem RL_I (L : RL S T tr t g n u q z e h k) (hn : n < 40) (v : Int32) : RL (sI (sR S 3 (upd (gR S 3) n v)) 1 4 (Int32.ofNat n + 1)) (sI (sR T 126 (upd (gR T 126) n v)) 124 11 (Int32.ofNat n + 1)) tr t g (n + 1) u q z e h k := by
  obtain ⟨⟨l1, l2, l3, l4, l5, l6, l7, l8, l9, l10, l11, l12, l13, l14⟩, C, P, rk, rm, R, a1, a2, a3, a4, a5⟩ := L
  have en : Int32.ofNat n + 1 = Int32.ofNat (n + 1) := n32_add n 1
  rw [en]
  have R' : rv (sI (sR T 126 (upd (gR T 126) n v)) 124 11 (Int32.ofNat (n + 1))) (tr t) h k n := rv_same R (fun f h1 h2 => by rw [gI_sI, if_neg (by omega), gI_sR]) (by rw [gR_sI, gR_ne (by decide)]) (by rw [gR_sI, gR_ne (by decide)])
  refine ⟨⟨?_, ?_, ?_, ?_, ?_, ?_, by omega, ?_, ?_, l10, ?_, ?_, ?_, ?_⟩, CI_fr C (fun i f h1 h2 => by rw [gI_sI, if_neg (by omega), gI_sR]) (fun i h1 h2 => by rw [gR_sI, gR_ne (by omega)]), CP_fr P rfl (fun i f h1 h2 => by rw [gI_sI, if_neg (by omega), gI_sR]) (fun i h1 h2 => by rw [gR_sI, gR_ne (by omega)]), ⟨?_, ?_, ?_⟩, RM_rF rm (by rw [gR_sI, gR_ne (by decide)]) (by rw [gR_sI, gR_ne (by decide)]), ?_, a1, a2, a3, fun i hi => ?_, fun i hi => ?_⟩
  · rw [gR_sI, gR_sI, gR_ne (by decide), gR_ne (by decide)]; exact l1
  · rw [gR_sI, gR_sI, gR_at, gR_at, l2]
  · rw [gR_sI, gR_sI, gR_ne (by decide), gR_ne (by decide)]; exact l3
  · rw [gR_sI, gR_sI, gR_ne (by decide), gR_ne (by decide)]; exact l4
  · rw [gI_sI, if_pos ⟨rfl, rfl⟩]
  · rw [gI_sI, if_pos ⟨rfl, rfl⟩]
  · rw [gI_sI, if_neg (by decide), gI_sR]; exact l8
  · rw [gI_sI, if_neg (by decide), gI_sR]; exact l9
  · rw [gI_sI, if_neg (by decide), gI_sR, gI_sI, if_neg (by decide), gI_sR]; exact l11
  · rw [gI_sI, if_neg (by decide), gI_sR]; exact l12
  · rw [gR_sI, gR_ne (by decide)]; exact l13
  · rw [gR_sI, gR_ne (by decide)]; exact l14
  · rw [gI_sI, if_neg (by decide), gI_sR]; exact rk.1
  · rw [gI_sI, if_neg (by decide), gI_sR]; exact rk.2.1
  · rw [gR_sI, gR_ne (by decide)]; exact rk.2.2
  · obtain ⟨r0, r1, r2, r3, r4, r5, r6, r7, r8, r9, r10, r11⟩ := R'
    exact ⟨r0, r1, r2, r3, r4, r5, r6, r7, r8, by omega, by omega, r11⟩
  · obtain ⟨k1, k2⟩ := a4 i hi
    obtain ⟨kk, hkk, ekk⟩ := (a5 i (by omega)).2.2.1
    obtain ⟨s1, s2⟩ := step_more (inp := gR S 3) (inp' := upd (gR S 3) n v) ekk hkk hn (fun j hj => upd_ne _ _ (by omega)) k1
    rw [gR_sI, gR_sI, gR_ne (by decide), gR_at, s2]
    exact ⟨s1, k2⟩
  · obtain ⟨g1, g2, ⟨kk, hkk, ekk⟩, g4⟩ := a5 i hi
    exact ⟨g1, g2, ⟨kk, by omega, ekk⟩, g4⟩
/-- a way to where it stands -/
theorem stay (L : RL S T tr t g n u q z e h k) : p_RM_travel S (Int32.ofNat t) ∧ ∃ q', RL (f_RM_travel S (Int32.ofNat t)).2 T tr t g n u q' z e h k := by
  obtain ⟨⟨l1, l2, l3, l4, l5, l6, l7, l8, l9, l10, l11, l12, l13, l14⟩, C, P, rk, rm, R, a1, a2, a3, a4, a5⟩ := L
  obtain ⟨c1, ⟨q', c2⟩, c3, c4⟩ := ctravel C P l7 l5 a4 a5 a2 a3 l10 a1 a1
  have hacc : acc t u e t = (u, 0) := by unfold acc; rw [if_pos rfl]
  rw [hacc] at c2 c3
  generalize (f_RM_travel S (Int32.ofNat t)).2 = S' at *
  have c05 : gI S' 0 5 = gI S 0 5 := c3.trans (Int32.add_zero _)
  refine ⟨c1, q', ⟨?_, ?_, ?_, ?_, ?_, l6, l7, ?_, l9, l10, ?_, l12, ?_, ?_⟩, c2, CP_fr P c4.1 (fun i f h1 h2 => c4.2.1 i f (Or.inr h1) (Or.inl (by omega))) (fun i h1 h2 => c4.2.2 i (Or.inr h1)), rk, rm, R, a1, a2, a3, ?_, a5⟩
  · rw [c4.2.2 2 (Or.inl (by decide))]; exact l1
  · rw [c4.2.2 3 (Or.inl (by decide))]; exact l2
  · rw [c4.2.2 122 (Or.inr (by decide))]; exact l3
  · rw [c4.2.2 123 (Or.inr (by decide))]; exact l4
  · rw [c4.2.1 1 4 (Or.inl (by decide)) (Or.inl (by decide))]; exact l5
  · rw [c4.2.1 0 4 (Or.inl (by decide)) (Or.inr (by decide))]; exact l8
  · rw [c05]; exact l11
  · rw [c4.2.2 122 (Or.inr (by decide))]; exact l13
  · rw [c4.2.2 123 (Or.inr (by decide))]; exact l14
  · rw [c4.2.2 2 (Or.inl (by decide)), c4.2.2 3 (Or.inl (by decide))]; exact a4
end LKB
