/-! a whole way of the class -/
theorem lat {S : xS} {tr : Nat → aM} {z e N G to : Nat} (C : CP S tr z e) (hG : trg N G tr) (hz : (z - 1) * e ≤ G) (hG3 : G ≤ 3000) (hto : to < z * e) (ht2 : to ≤ 3000) :
    ∀ (r fuel v : Nat), r < fuel → v + r = z → 1 ≤ v → q_Cp_latestUpTo fuel S (Int32.ofNat to) (Int32.ofNat (min (to / e) (v - 1))) (Int32.ofNat v) ∧ g_Cp_latestUpTo fuel S (Int32.ofNat to) (Int32.ofNat (min (to / e) (v - 1))) (Int32.ofNat v) = gK S (to / e) := by
  obtain ⟨c1, c2, c3, c4, c5, c6, c7, c8⟩ := C
  have hq : to / e < z := (Nat.div_lt_iff_lt_mul c5).mpr hto
  have hle : ∀ v, v ≤ to / e ↔ v * e ≤ to := fun v => Nat.le_div_iff_mul_le c5
  generalize to / e = c at *
  intro r
  induction r with
  | zero =>
    intro fuel v h1 h2 h3
    obtain ⟨k, rfl⟩ : ∃ k, fuel = k + 1 := ⟨fuel - 1, by omega⟩
    have hc : gI S 104 1 ≤ Int32.ofNat v := by rw [c1]; exact (n32_le (by omega) (by omega)).mpr (by omega)
    have hm : min c (v - 1) = c := by omega
    rw [hm]
    unfold q_Cp_latestUpTo g_Cp_latestUpTo
    rw [if_pos hc, n32_clamp (n := c) (by omega)]
    exact ⟨⟨fun _ => ⟨vin_of (by omega) (by decide), trivial⟩, fun h => absurd hc h⟩, rfl⟩
  | succ r ih =>
    intro fuel v h1 h2 h3
    obtain ⟨k, rfl⟩ : ∃ k, fuel = k + 1 := ⟨fuel - 1, by omega⟩
    have hc : ¬ gI S 104 1 ≤ Int32.ofNat v := by rw [c1, n32_le (by omega) (by omega)]; omega
    have hve : v * e ≤ G := Nat.le_trans (Nat.mul_le_mul_right e (by omega)) hz
    have htm : gI S (iS (gK S v)) 0 = Int32.ofNat (v * e) := by
      rw [vw_reg (c7 v (by omega)) (by decide)]
      exact (hG (v * e) hve).1
    have hcl : (Int32.ofNat v).toNatClampNeg = v := n32_clamp (by omega)
    have hv1 : Int32.ofNat v + 1 = Int32.ofNat (v + 1) := n32_add v 1
    have hle2 := hle v
    unfold q_Cp_latestUpTo g_Cp_latestUpTo
    rw [if_neg hc, hcl, htm, hv1]
    obtain ⟨i1, i2⟩ := ih k (v + 1) (by omega) (by omega) (by omega)
    rw [show v + 1 - 1 = v by omega] at i1 i2
    have hlt : (Int32.ofNat to < Int32.ofNat (v * e)) ↔ to < v * e := n32_lt (by omega) (by omega)
    by_cases hx : to < v * e
    · have hm : min c (v - 1) = min c v := by omega
      rw [hm, if_pos (hlt.mpr hx)]
      exact ⟨⟨fun h => absurd h hc, fun _ => ⟨vin_of (by omega) (by decide), fun _ => i1, fun h => absurd (hlt.mpr hx) h⟩⟩, i2⟩
    · have hm : min c v = v := by omega
      rw [hm] at i1 i2
      rw [if_neg (fun h => hx (hlt.mp h))]
      exact ⟨⟨fun h => absurd h hc, fun _ => ⟨vin_of (by omega) (by decide), fun h => absurd (hlt.mp h) hx, fun _ => i1⟩⟩, i2⟩
theorem latest {S : xS} {tr : Nat → aM} {z e N G to : Nat} (C : CP S tr z e) (hG : trg N G tr) (hz : (z - 1) * e ≤ G) (hG3 : G ≤ 3000) (hto : to < z * e) (ht2 : to ≤ 3000) : p_Cp_latestUpTo S (Int32.ofNat to) ∧ f_Cp_latestUpTo S (Int32.ofNat to) = gK S (to / e) ∧ to / e < z ∧ gI S (iS (gK S (to / e))) 0 = Int32.ofNat (to / e * e) := by
  obtain ⟨h1, h2⟩ := lat C hG hz hG3 hto ht2 (z - 1) 9 1 (by have := C.2.2.2.1; omega) (by have := C.2.2.1; omega) (by decide)
  rw [show min (to / e) (1 - 1) = 0 from Nat.min_zero _] at h1 h2
  have hq : to / e < z := (Nat.div_lt_iff_lt_mul C.2.2.2.2.1).mpr hto
  refine ⟨h1, h2, hq, ?_⟩
  rw [vw_reg (C.2.2.2.2.2.2.1 _ hq) (by decide)]
  exact (hG _ (Nat.le_trans (Nat.mul_le_mul_right e (by omega)) hz)).1
/-- what a way costs and leaves of the notes -/
def acc (t u e to : Nat) : Nat × Nat := if to = t then (u, 0) else if to < t ∧ t - to ≤ u then (u - (t - to), 0) else
  if to < t ∨ t < to / e * e then (min (to - to / e * e) 32, to - to / e * e) else (min (u + (to - t)) 32, to - t)
def oF5 (S S' : xS) : Prop := gK S' = gK S ∧ (∀ i f, (i < 4 ∨ 104 ≤ i) → (i ≠ 0 ∨ f ≠ 5) → gI S' i f = gI S i f) ∧ (∀ i, (i < 4 ∨ 104 ≤ i) → gR S' i = gR S i)
theorem oF5_of {S S' : xS} (h : oF S S') (x : Int32) : oF5 S (sI S' 0 5 x) := ⟨h.1, fun i f h1 h2 => by rw [gI_sI, if_neg (by omega)]; exact h.2.1 i f h1, fun i h1 => h.2.2 i h1⟩
theorem oF5_o {S S' : xS} (h : oF S S') : oF5 S S' := ⟨h.1, fun i f h1 _ => h.2.1 i f h1, h.2.2⟩
theorem CI_05 {S : xS} {tr : Nat → aM} {t u q : Nat} (C : CI S tr t u q) {i f : Nat} (hi : i < 4 ∨ 104 ≤ i) (x : Int32) : CI (sI S i f x) tr t u q := by
  obtain ⟨c1, c2, c3, c4, c5, c6, c7⟩ := C
  refine ⟨?_, by rw [gI_sI, if_neg (by omega)]; exact c2, c3, by rw [gI_sI, if_neg (by omega)]; exact c4, c5, c6, fun j hj => ?_⟩
  · rw [← c1]
    refine Prod.ext ?_ rfl
    funext k
    simp only [vw, gI_sI]
    rw [if_neg (show ¬ (4 = i ∧ k = f) by omega)]
  · refine nt_same (c7 j hj) (fun f' => ?_) rfl rfl
    have : iN ((q + 32 - j) % 32) ≠ i := by unfold iN; omega
    rw [gI_sI, if_neg (fun z => this z.1)]
theorem ploop {tr : Nat → aM} {cd inp : Nat → Int32} {n g : Nat} (hn : n ≤ 40) (K : trk cd inp n g tr) (a : Int32) : ∀ (r fuel : Nat) (S : xS) (t u q st v : Nat), r < fuel → st = v + r → st ≤ 3000 → t + r ≤ g → gR S 2 = cd → gR S 3 = inp → gI S 1 4 = Int32.ofNat n → CI S tr t u q →
    q_RM_travel fuel S a (Int32.ofNat st) (Int32.ofNat v) ∧ ∃ S1 q1, (g_RM_travel fuel S a (Int32.ofNat st) (Int32.ofNat v)).2 = sI S1 0 5 (gI S1 0 5 + Int32.ofNat st) ∧ CI S1 tr (t + r) (min (u + r) 32) q1 ∧ oF S S1 := by
  intro r
  induction r with
  | zero =>
    intro fuel S t u q st v h1 h2 h3 h4 e1 e2 e3 C
    obtain ⟨k, rfl⟩ : ∃ k, fuel = k + 1 := ⟨fuel - 1, by omega⟩
    have hle : Int32.ofNat st ≤ Int32.ofNat v := (n32_le (by omega) (by omega)).mpr (by omega)
    unfold q_RM_travel g_RM_travel
    simp only [px_let_id]
    rw [if_pos hle]
    refine ⟨⟨fun _ _ _ => trivial, fun h => absurd hle h⟩, S, q, rfl, ?_, oF_rf⟩
    have := C.2.2.2.2.1
    rw [show min (u + 0) 32 = u by omega]
    exact C
  | succ r ih =>
    intro fuel S t u q st v h1 h2 h3 h4 e1 e2 e3 C
    obtain ⟨k, rfl⟩ : ∃ k, fuel = k + 1 := ⟨fuel - 1, by omega⟩
    have hle : ¬ Int32.ofNat st ≤ Int32.ofNat v := fun z => by rw [n32_le (by omega) (by omega)] at z; omega
    obtain ⟨k1, k2⟩ := K t (by omega)
    obtain ⟨p1, p2, p3⟩ := ci_step C hn e3 (by rw [e1]; exact k1) (by rw [e1, e2]; exact k2)
    have hv1 : Int32.ofNat v + 1 = Int32.ofNat (v + 1) := n32_add v 1
    unfold q_RM_travel g_RM_travel
    simp only [px_let_id]
    rw [if_neg hle, hv1]
    obtain ⟨i1, S1, q1, i2, i3, i4⟩ := ih k (f_Ma_perform S).2 (t + 1) (min (u + 1) 32) ((q + 1) % 32) st (v + 1) (by omega) (by omega) h3 (by omega) (by rw [p3.2.2 2 (Or.inl (by decide))]; exact e1) (by rw [p3.2.2 3 (Or.inl (by decide))]; exact e2) (by rw [p3.2.1 1 4 (Or.inl (by decide))]; exact e3) p2
    refine ⟨⟨fun h => absurd h hle, fun _ => ⟨p1, fun S5 q5 => by subst q5; exact i1⟩⟩, S1, q1, i2, ?_, oF_tr p3 i4⟩
    rw [show t + (r + 1) = t + 1 + r by omega, show min (u + (r + 1)) 32 = min (min (u + 1) 32 + r) 32 by omega]
    exact i3
/-- to a checkpoint, the notes gone -/
theorem tocp {S : xS} {tr : Nat → aM} {z e : Nat} (P : CP S tr z e) {c q : Nat} (hc : c < z) (hq : q < 32) (h1 : gI S 6 1 = Int32.ofNat q) : CI (sI (f_St_copyState S 4 (iS (gK S c))).2 6 2 0) tr (c * e) 0 q ∧ oF S (sI (f_St_copyState S 4 (iS (gK S c))).2 6 2 0) := by
  have hi : 104 ≤ iS (gK S c) := by unfold iS; omega
  obtain ⟨a1, a2, a3, a4⟩ := cpSt S (i := 4) (j := iS (gK S c)) (by omega) (by omega)
  refine ⟨⟨?_, ?_, hq, ?_, by decide, Nat.zero_le _, fun j hj => absurd hj (Nat.not_lt_zero _)⟩, a4, fun i f h => ?_, fun i h => ?_⟩
  · rw [← P.2.2.2.2.2.2.1 c hc, ← a1]
    refine Prod.ext ?_ rfl
    funext k
    simp only [vw, gI_sI]
    simp
  · rw [gI_sI, if_neg (by decide), a2 6 1 (by decide)]; exact h1
  · rw [gI_sI, if_pos ⟨rfl, rfl⟩]; rfl
  · rw [gI_sI, if_neg (by omega)]; exact a2 i f (by omega)
  · rw [gR_sI]; exact a3 i (by omega)
theorem ctravel {S : xS} {tr : Nat → aM} {t u q z e n g to : Nat} (C : CI S tr t u q) (P : CP S tr z e) (hn : n ≤ 40) (hc : gI S 1 4 = Int32.ofNat n) (K : trk (gR S 2) (gR S 3) n g tr) (G : trg n g tr) (hz : (z - 1) * e ≤ g) (hz2 : g < z * e) (hg : g ≤ 3000) (ht : t ≤ g) (hto : to ≤ g) :
    p_RM_travel S (Int32.ofNat to) ∧ (∃ q', CI (f_RM_travel S (Int32.ofNat to)).2 tr to (acc t u e to).1 q') ∧ gI (f_RM_travel S (Int32.ofNat to)).2 0 5 = gI S 0 5 + Int32.ofNat (acc t u e to).2 ∧ oF5 S (f_RM_travel S (Int32.ofNat to)).2 := by
  have htm : gI S 4 0 = Int32.ofNat t := by rw [vw_reg C.1 (by decide)]; exact (G t ht).1
  obtain ⟨l1, l2, l3, l4⟩ := latest P G hz hg (Nat.lt_of_le_of_lt hto hz2) (by omega)
  have hce : to / e * e ≤ to := Nat.div_mul_le_self to e
  have hz0 : ∀ x : Int32, x + Int32.ofNat 0 = x := fun x => by
    show x + 0 = x
    exact Int32.add_zero x
  by_cases h1 : to = t
  · subst h1
    have h2 : Int32.ofNat to = gI S 4 0 := htm.symm
    unfold p_RM_travel f_RM_travel acc
    rw [if_pos h2, if_pos rfl]
    exact ⟨⟨fun _ => trivial, fun h => absurd h2 h⟩, ⟨q, C⟩, (hz0 _).symm, oF5_o oF_rf⟩
  have h2 : ¬ Int32.ofNat to = gI S 4 0 := fun z => h1 (by rw [htm, n32_eq (by omega) (by omega)] at z; exact z)
  have hlt : (Int32.ofNat to < gI S 4 0) ↔ to < t := by rw [htm]; exact n32_lt (by omega) (by omega)
  have hle : (gI S 4 0 ≤ Int32.ofNat to) ↔ t ≤ to := by rw [htm]; exact n32_le (by omega) (by omega)
  have hst : (gI S (iS (f_Cp_latestUpTo S (Int32.ofNat to))) 0 ≤ gI S 4 0) ↔ to / e * e ≤ t := by rw [l2, l4, htm]; exact n32_le (by omega) (by omega)
  obtain ⟨C2, O2⟩ := tocp P l3 C.2.2.1 C.2.1
  -- from the checkpoint on
  have fromcp : q_RM_travel 3001 (sI (f_St_copyState S 4 (iS (f_Cp_latestUpTo S (Int32.ofNat to)))).2 6 2 0) (Int32.ofNat to) (Int32.ofNat to - gI (sI (f_St_copyState S 4 (iS (f_Cp_latestUpTo S (Int32.ofNat to)))).2 6 2 0) 4 0) 0 ∧
      ∃ S1 q1, (g_RM_travel 3001 (sI (f_St_copyState S 4 (iS (f_Cp_latestUpTo S (Int32.ofNat to)))).2 6 2 0) (Int32.ofNat to) (Int32.ofNat to - gI (sI (f_St_copyState S 4 (iS (f_Cp_latestUpTo S (Int32.ofNat to)))).2 6 2 0) 4 0) 0).2 = sI S1 0 5 (gI S1 0 5 + Int32.ofNat (to - to / e * e)) ∧ CI S1 tr to (min (to - to / e * e) 32) q1 ∧ oF S S1 := by
    rw [l2]
    have e0 : gI (sI (f_St_copyState S 4 (iS (gK S (to / e)))).2 6 2 0) 4 0 = Int32.ofNat (to / e * e) := by
      rw [vw_reg C2.1 (by decide)]
      exact (G _ (by omega)).1
    rw [e0, n32_sub hce]
    obtain ⟨i1, S1, q1, i2, i3, i4⟩ := ploop hn K (Int32.ofNat to) (to - to / e * e) 3001 _ (to / e * e) 0 q (to - to / e * e) 0 (by omega) (by omega) (by omega) (by omega) (O2.2.2 2 (Or.inl (by decide))) (O2.2.2 3 (Or.inl (by decide))) (by rw [O2.2.1 1 4 (Or.inl (by decide))]; exact hc) C2
    rw [show to / e * e + (to - to / e * e) = to by omega, show min (0 + (to - to / e * e)) 32 = min (to - to / e * e) 32 by omega] at i3
    exact ⟨i1, S1, q1, i2, i3, oF_tr O2 i4⟩
  obtain ⟨f1, S1, q1, f2, f3, f4⟩ := fromcp
  have fcp : ∀ X : xS, X = sI S1 0 5 (gI S1 0 5 + Int32.ofNat (to - to / e * e)) → (∃ q', CI X tr to (min (to - to / e * e) 32) q') ∧ gI X 0 5 = gI S 0 5 + Int32.ofNat (to - to / e * e) ∧ oF5 S X := fun X hX => by
    subst hX
    refine ⟨⟨q1, CI_05 f3 (Or.inl (by decide)) _⟩, ?_, oF5_of f4 _⟩
    rw [gI_sI, if_pos ⟨rfl, rfl⟩, f4.2.1 0 5 (Or.inl (by decide))]
  unfold p_RM_travel f_RM_travel acc
  simp only [px_let_id]
  rw [if_neg h2, if_neg h1]
  by_cases h3 : t ≤ to
  · -- forward
    have h4 : ¬ to < t := by omega
    have h5 : ¬ Int32.ofNat to < gI S 4 0 := fun z => h4 (hlt.mp z)
    rw [if_pos (hle.mpr h3), if_neg h5, if_neg (show ¬ (to < t ∧ t - to ≤ u) by omega)]
    by_cases h6 : to / e * e ≤ t
    · rw [if_pos (hst.mpr h6), if_neg (show ¬ (to < t ∨ t < to / e * e) by omega)]
      have ed : Int32.ofNat to - gI S 4 0 = Int32.ofNat (to - t) := by rw [htm]; exact n32_sub h3
      obtain ⟨i1, S3, q3, i2, i3, i4⟩ := ploop hn K (Int32.ofNat to) (to - t) 3001 S t u q (to - t) 0 (by omega) (by omega) (by omega) (by omega) rfl rfl hc C
      rw [show t + (to - t) = to by omega] at i3
      rw [ed]
      refine ⟨⟨fun h => absurd h h2, fun _ => ⟨fun _ => ⟨l1, fun h => absurd h h5, fun _ => ⟨fun _ => i1, fun h => absurd (hst.mpr h6) h⟩⟩, fun h => absurd (hle.mpr h3) h⟩⟩, ?_⟩
      have i2' : (g_RM_travel 3001 S (Int32.ofNat to) (Int32.ofNat (to - t)) 0).2 = sI S3 0 5 (gI S3 0 5 + Int32.ofNat (to - t)) := i2
      rw [i2']
      refine ⟨⟨q3, CI_05 i3 (Or.inl (by decide)) _⟩, ?_, oF5_of i4 _⟩
      rw [gI_sI, if_pos ⟨rfl, rfl⟩, i4.2.1 0 5 (Or.inl (by decide))]
    · have h7 : ¬ gI S (iS (f_Cp_latestUpTo S (Int32.ofNat to))) 0 ≤ gI S 4 0 := fun z => h6 (hst.mp z)
      rw [if_neg h7, if_pos (show to < t ∨ t < to / e * e by omega)]
      exact ⟨⟨fun h => absurd h h2, fun _ => ⟨fun _ => ⟨l1, fun h => absurd h h5, fun _ => ⟨fun h => absurd h h7, fun _ S10 q10 S12 q12 => by subst q10; subst q12; exact f1⟩⟩, fun h => absurd (hle.mpr h3) h⟩⟩, fcp _ f2⟩
  · have h4 : to < t := by omega
    have h5 : ¬ gI S 4 0 ≤ Int32.ofNat to := fun z => h3 (hle.mp z)
    have ed : gI S 4 0 - Int32.ofNat to = Int32.ofNat (t - to) := by rw [htm]; exact n32_sub (by omega)
    have hu32 := C.2.2.2.2.1
    have hus : (gI S 6 2 < gI S 4 0 - Int32.ofNat to) ↔ u < t - to := by rw [ed, C.2.2.2.1]; exact n32_lt (by omega) (by omega)
    rw [if_neg h5]
    by_cases h6 : u < t - to
    · rw [if_pos (hus.mpr h6), if_pos (hlt.mpr h4), if_neg (show ¬ (to < t ∧ t - to ≤ u) by omega), if_pos (show to < t ∨ t < to / e * e by omega)]
      exact ⟨⟨fun h => absurd h h2, fun _ => ⟨fun h => absurd h h5, fun _ => ⟨fun _ => ⟨l1, fun _ S17 q17 S19 q19 => by subst q17; subst q19; exact f1, fun h => absurd (hlt.mpr h4) h⟩, fun h => absurd (hus.mpr h6) h⟩⟩⟩, fcp _ f2⟩
    · have h7 : ¬ gI S 6 2 < gI S 4 0 - Int32.ofNat to := fun z => h6 (hus.mp z)
      rw [if_neg h7, if_pos (show to < t ∧ t - to ≤ u by omega)]
      obtain ⟨b1, b2, b3⟩ := tb G (t - to) 33 S t u q (t - to) 0 (by omega) (by omega) ht (by omega) (by omega) C
      rw [show t - (t - to) = to by omega] at b2
      refine ⟨⟨fun h => absurd h h2, fun _ => ⟨fun h => absurd h h5, fun _ => ⟨fun h => absurd h h7, fun _ => ⟨?_, fun _ _ => trivial⟩⟩⟩⟩, ?_⟩
      · rw [ed]; exact b1
      · rw [ed]
        exact ⟨⟨_, b2⟩, by rw [hz0]; exact b3.2.1 0 5 (Or.inl (by decide)), oF5_o b3⟩
