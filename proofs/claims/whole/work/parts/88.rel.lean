/-! the trace, and what both sides know of it -/
/-- which cell a step gave another value -/
def chg (m m' : aM) : Prop := (m'.1 6 = -1 ∧ ∀ c, c < 32 → m'.2 c = m.2 c) ∨ (∃ c, c < 32 ∧ m'.1 6 = Int32.ofNat c ∧ ¬ m'.2 c = m.2 c ∧ ∀ d, d < 32 → d ≠ c → m'.2 d = m.2 d)
/-- nothing changed: of the time, the changed cell, the cells -/
def qt (m m' : aM) : Prop := m'.1 0 = m.1 0 ∧ m'.1 6 = m.1 6 ∧ ∀ c, c < 32 → m'.2 c = m.2 c
section CHG
variable {m : aM} {h : Nat}
theorem qt_rf : qt m m := ⟨rfl, rfl, fun _ _ => rfl⟩
theorem qt_tr {a b c : aM} (h1 : qt a b) (h2 : qt b c) : qt a c := ⟨h2.1.trans h1.1, h2.2.1.trans h1.2.1, fun d hd => (h2.2.2 d hd).trans (h1.2.2 d hd)⟩
theorem qt_set {k : Nat} {x : Int32} (h0 : k ≠ 0) (h6 : k ≠ 6) : qt m (aSet m k x) := ⟨aSet_ne (Ne.symm h0), aSet_ne (Ne.symm h6), fun _ _ => rfl⟩
theorem aPut_1 {a v : Int32} : (aPut m a v).1 = m.1 := by
  unfold aPut
  split <;> rfl
theorem qt_put {c : Nat} {v : Int32} (hc : 32 ≤ c) (hc2 : c < 2147483648) : qt m (aPut m (Int32.ofNat c) v) := by
  refine ⟨by rw [aPut_1], by rw [aPut_1], fun d hd => ?_⟩
  unfold aPut
  split
  · rfl
  · show upd m.2 _ v d = m.2 d
    rw [n32_clamp hc2, upd_ne _ _ (by omega)]
theorem qt_push (e : m.1 5 = Int32.ofNat h) (hh : h ≤ 100) (v : Int32) : qt m (aPush m v) ∧ (aPush m v).1 5 = Int32.ofNat (h + 1) := by
  unfold aPush
  rw [aPut_1, e, show (32 : Int32) = Int32.ofNat 32 from rfl, n32_add, show (1 : Int32) = Int32.ofNat 1 from rfl, n32_add]
  exact ⟨qt_tr (qt_put (by omega) (by omega)) (qt_set (by decide) (by decide)), aSet_eq⟩
theorem qt_exch (e : m.1 5 = Int32.ofNat h) (hh : 2 ≤ h ∧ h ≤ 100) : qt m (aExch m) := by
  unfold aExch
  have i1 : (32 : Int32) + Int32.ofNat h - 2 = Int32.ofNat (32 + h - 2) := by
    rw [show (32 : Int32) = Int32.ofNat 32 from rfl, n32_add, show (2 : Int32) = Int32.ofNat 2 from rfl, n32_sub (by omega)]
  have i2 : (32 : Int32) + Int32.ofNat h - 1 = Int32.ofNat (32 + h - 1) := by
    rw [show (32 : Int32) = Int32.ofNat 32 from rfl, n32_add, show (1 : Int32) = Int32.ofNat 1 from rfl, n32_sub (by omega)]
  rw [aPut_1, e, i1, i2]
  exact qt_tr (qt_put (by omega) (by omega)) (qt_put (by omega) (by omega))
theorem qt_rep (e : m.1 5 = Int32.ofNat h) (hh : 2 ≤ h ∧ h ≤ 100) (v : Int32) : qt m (aRep m v) := by
  unfold aRep
  rw [e, show (2 : Int32) = Int32.ofNat 2 from rfl, n32_sub hh.1]
  exact qt_tr (qt_set (by decide) (by decide)) (qt_push (h := h - 2) aSet_eq (by omega) v).1
theorem qt_load (e : m.1 5 = Int32.ofNat h) (hh : 1 ≤ h ∧ h ≤ 100) : qt m (aLoad m) := by
  unfold aLoad
  split
  · exact qt_rf
  · rw [e, show (1 : Int32) = Int32.ofNat 1 from rfl, n32_sub hh.1]
    exact qt_tr (qt_set (by decide) (by decide)) (qt_push (h := h - 1) aSet_eq (by omega) _).1
theorem qt_jump {b k : Int32} : qt m (aJump m b k) := by
  unfold aJump
  split
  · exact qt_set (by decide) (by decide)
  · exact qt_tr (qt_set (by decide) (by decide)) (qt_set (by decide) (by decide))
theorem qt_enter (e : m.1 5 = Int32.ofNat h) (hh : h ≤ 99) (k : Int32) : qt m (aEnter m k) := by
  unfold aEnter aEnt2
  obtain ⟨a1, a2⟩ := qt_push e (by omega) (m.1 1)
  obtain ⟨b1, b2⟩ := qt_push a2 (by omega) ((aPush m (m.1 1)).1 2)
  exact qt_tr (qt_tr a1 b1) (qt_tr (qt_set (by decide) (by decide)) (qt_set (by decide) (by decide)))
theorem qt_leave {f : Nat} (e : m.1 2 = Int32.ofNat f) (hf : 2 ≤ f ∧ f ≤ 100) : qt m (aLeave m) := by
  unfold aLeave
  have e5 : (aLv3 (aLv2 (aLv1 m))).1 5 = Int32.ofNat (f - 2) := by
    show m.1 2 - 2 = _
    rw [e]
    exact n32_sub (b := 2) hf.1
  refine qt_tr ?_ (qt_push e5 (by omega) _).1
  exact qt_tr (qt_tr (b := aLv1 m) (qt_set (by decide) (by decide)) (c := aLv2 (aLv1 m)) (qt_set (by decide) (by decide))) (qt_set (by decide) (by decide))
theorem qt_take (e : m.1 5 = Int32.ofNat h) (hh : h ≤ 100) {inp : Nat → Int32} {cnt : Int32} : qt m (aTake inp cnt m) := by
  unfold aTake
  split
  · exact qt_rf
  · exact qt_tr (qt_push e hh _).1 (qt_set (by decide) (by decide))
theorem qt_rand (e : m.1 5 = Int32.ofNat h) (hh : h ≤ 100) {k : Int32} : qt m (aRand m k) := by
  unfold aRand
  have e2 : (aSet m 3 ((1103515245 * (m.1 3)) + 12345)).1 5 = Int32.ofNat h := by rw [aSet_ne (by decide)]; exact e
  split
  · exact qt_tr (qt_set (by decide) (by decide)) (qt_push e2 hh _).1
  · exact qt_tr (qt_set (by decide) (by decide)) (qt_push e2 hh _).1
end CHG
theorem op_chg {inp : Nat → Int32} {n j : Nat} {m : aM} {h : Nat} {o w : Int32} (e : m.1 5 = Int32.ofNat h) (h24 : h ≤ 24) (h6 : m.1 6 = -1) (hobs : aObs2 (Int32.ofNat n) m o w = 0) : (aOp inp (Int32.ofNat n) o w m).1 0 = m.1 0 ∧ chg m (aOp inp (Int32.ofNat n) o w m) := by
  obtain ⟨a1, a2, a3, a4, a5, a6, a7, a8⟩ := obs_facts hobs
  have fin : ∀ m', qt m m' → m'.1 0 = m.1 0 ∧ chg m m' := fun m' q => ⟨q.1, Or.inl ⟨q.2.1.trans h6, q.2.2⟩⟩
  unfold aOp
  by_cases o11 : o = 11
  · subst o11
    have h2 := few_nat e h24 (by decide) (by decide) (a := 2) rfl (by decide) a3
    simp (decide := true) only [if_true, if_false]
    have ha := a4 (Or.inr rfl)
    obtain ⟨c, hc, ec⟩ := wi32 ha
    have key : ∀ x : Int32, (aSt2 m x).1 0 = m.1 0 ∧ (aSt2 m x).1 6 = x ∧ (aSt2 m x).2 = upd m.2 c (aTop m 1) := fun x => by
      unfold aSt2
      rw [aPut_1, ec, aPut_in (by omega)]
      exact ⟨rfl, rfl, rfl⟩
    unfold aStore
    rw [if_neg ha, ec, n32_clamp (by omega)]
    by_cases q : m.2 c = aTop m 1
    · rw [if_pos q]
      obtain ⟨k1, k2, k3⟩ := key (-1)
      refine ⟨k1, Or.inl ⟨k2, fun d hd => ?_⟩⟩
      rw [k3, ← q]
      by_cases hdc : d = c
      · subst hdc; rw [upd_self]
      · rw [upd_ne _ _ hdc]
    · rw [if_neg q]
      obtain ⟨k1, k2, k3⟩ := key (Int32.ofNat c)
      refine ⟨k1, Or.inr ⟨c, hc, k2, ?_, fun d hd hdc => ?_⟩⟩
      · rw [k3, upd_self]; exact fun z => q z.symm
      · rw [k3, upd_ne _ _ hdc]
  refine fin _ ?_
  by_cases o1 : o = 1
  · rw [if_pos o1]; exact (qt_push e (by omega) _).1
  rw [if_neg o1]
  by_cases o2 : o = 2
  · rw [if_pos o2]; exact qt_set (by decide) (by decide)
  rw [if_neg o2]
  by_cases o3 : o = 3
  · rw [if_pos o3]; exact (qt_push e (by omega) _).1
  rw [if_neg o3]
  by_cases o4 : o = 4
  · rw [if_pos o4]; exact qt_exch e ⟨by subst o4; exact few_nat e h24 (by decide) (by decide) (a := 2) rfl (by decide) a3, by omega⟩
  rw [if_neg o4]
  by_cases o5 : o = 5
  · rw [if_pos o5]; exact qt_rep e ⟨by subst o5; exact few_nat e h24 (by decide) (by decide) (a := 2) rfl (by decide) a3, by omega⟩ _
  rw [if_neg o5]
  by_cases o6 : o = 6
  · rw [if_pos o6]; exact qt_rep e ⟨by subst o6; exact few_nat e h24 (by decide) (by decide) (a := 2) rfl (by decide) a3, by omega⟩ _
  rw [if_neg o6]
  by_cases o7 : o = 7
  · rw [if_pos o7]; exact qt_rep e ⟨by subst o7; exact few_nat e h24 (by decide) (by decide) (a := 2) rfl (by decide) a3, by omega⟩ _
  rw [if_neg o7]
  by_cases o8 : o = 8
  · rw [if_pos o8]; exact qt_rep e ⟨by subst o8; exact few_nat e h24 (by decide) (by decide) (a := 2) rfl (by decide) a3, by omega⟩ _
  rw [if_neg o8]
  by_cases o9 : o = 9
  · rw [if_pos o9]; exact qt_rep e ⟨by subst o9; exact few_nat e h24 (by decide) (by decide) (a := 2) rfl (by decide) a3, by omega⟩ _
  rw [if_neg o9]
  by_cases o10 : o = 10
  · rw [if_pos o10]; exact qt_load e ⟨by subst o10; exact few_nat e h24 (by decide) (by decide) (a := 1) rfl (by decide) a3, by omega⟩
  rw [if_neg o10, if_neg o11]
  by_cases o12 : o = 12
  · rw [if_pos o12]; exact qt_set (by decide) (by decide)
  rw [if_neg o12]
  by_cases o13 : o = 13
  · rw [if_pos o13]
    split
    · exact qt_jump
    · exact qt_jump
  rw [if_neg o13]
  by_cases o14 : o = 14
  · rw [if_pos o14]
    split
    · exact qt_jump
    · exact qt_jump
  rw [if_neg o14]
  by_cases o15 : o = 15
  · rw [if_pos o15]; exact qt_enter e (by omega) _
  rw [if_neg o15]
  by_cases o16 : o = 16
  · rw [if_pos o16]
    subst o16
    unfold aFew at a3
    rw [if_pos rfl, e] at a3
    by_cases q1 : m.1 2 < 2
    · rw [if_pos q1] at a3; exact absurd a3 (by decide)
    rw [if_neg q1] at a3
    by_cases q2 : m.1 2 < Int32.ofNat h
    · have q3 : ¬ m.1 2 < 0 := fun z => q1 (Int32.lt_trans z (by decide))
      obtain ⟨f, hf, ef⟩ := n32_of q3
      rw [ef, n32_lt hf (by omega)] at q2
      rw [ef, show (2 : Int32) = Int32.ofNat 2 from rfl, n32_lt hf (by decide)] at q1
      exact qt_leave ef ⟨by omega, by omega⟩
    · rw [if_neg q2] at a3; exact absurd a3 (by decide)
  rw [if_neg o16]
  by_cases o17 : o = 17
  · rw [if_pos o17]; exact (qt_push e (by omega) _).1
  rw [if_neg o17]
  by_cases o18 : o = 18
  · rw [if_pos o18]; exact qt_take e (by omega)
  rw [if_neg o18]
  by_cases o19 : o = 19
  · rw [if_pos o19]; exact qt_rand e (by omega)
  rw [if_neg o19]
  by_cases o20 : o = 20
  · rw [if_pos o20]; exact (qt_push e (by omega) _).1
  rw [if_neg o20]
  exact qt_rf
theorem step_chg {cd inp : Nat → Int32} {n : Nat} {m : aM} {h : Nat} (e : m.1 5 = Int32.ofNat h) (h24 : h ≤ 24) (hobs : aObs cd (Int32.ofNat n) m = 0) : (aStep cd inp (Int32.ofNat n) m).1 0 = m.1 0 + 1 ∧ chg m (aStep cd inp (Int32.ofNat n) m) := by
  unfold aObs at hobs
  unfold aStep
  by_cases hpc : f_RM_within (m.1 1) 64 = 0
  · rw [if_pos hpc] at hobs; exact absurd hobs (by decide)
  rw [if_neg hpc] at hobs ⊢
  have hb : aObs2 (Int32.ofNat n) (aBegin m) (cd (m.1 1).toNatClampNeg &&& 31) (cd (m.1 1).toNatClampNeg >>> ((5 : Int32) &&& 31)) = 0 := hobs
  exact op_chg (j := 0) (m := aBegin m) (h := h) e h24 rfl hb
def good (n i : Nat) (m : aM) : Prop := m.1 0 = Int32.ofNat i ∧ (∃ h, h ≤ 24 ∧ m.1 5 = Int32.ofNat h) ∧ (∃ k, k ≤ n ∧ m.1 4 = Int32.ofNat k) ∧ (∃ (X : xS) (i0 : Nat), m = vw X i0)
def trk (cd inp : Nat → Int32) (n g : Nat) (tr : Nat → aM) : Prop := ∀ i, i < g → aObs cd (Int32.ofNat n) (tr i) = 0 ∧ tr (i + 1) = aStep cd inp (Int32.ofNat n) (tr i)
def trg (n g : Nat) (tr : Nat → aM) : Prop := ∀ i, i ≤ g → good n i (tr i)
/-- the class's present state and its notes -/
def CI (S : xS) (tr : Nat → aM) (t u q : Nat) : Prop := vw S 4 = tr t ∧ gI S 6 1 = Int32.ofNat q ∧ q < 32 ∧ gI S 6 2 = Int32.ofNat u ∧ u ≤ 32 ∧ u ≤ t ∧ ∀ j, j < u → nt S ((q + 32 - j) % 32) (tr (t - j - 1)) (tr (t - j))
/-- its checkpoints -/
def CP (S : xS) (tr : Nat → aM) (z e : Nat) : Prop := gI S 104 1 = Int32.ofNat z ∧ gI S 104 2 = Int32.ofNat e ∧ 1 ≤ z ∧ z ≤ 8 ∧ 1 ≤ e ∧ e ≤ 1000 ∧ (∀ i, i < z → vw S (iS (gK S i)) = tr (i * e)) ∧ (∀ i j, i < 8 → j < 8 → gK S i = gK S j → i = j)
/-- what a step, a way back, a way to a checkpoint leave -/
def oF (S S' : xS) : Prop := gK S' = gK S ∧ (∀ i f, (i < 4 ∨ 104 ≤ i) → gI S' i f = gI S i f) ∧ (∀ i, (i < 4 ∨ 104 ≤ i) → gR S' i = gR S i)
theorem oF_rf {S : xS} : oF S S := ⟨rfl, fun _ _ _ => rfl, fun _ _ => rfl⟩
theorem oF_tr {S S' S'' : xS} (h1 : oF S S') (h2 : oF S' S'') : oF S S'' := ⟨h2.1.trans h1.1, fun i f h => (h2.2.1 i f h).trans (h1.2.1 i f h), fun i h => (h2.2.2 i h).trans (h1.2.2 i h)⟩
theorem oF_vw {S S' : xS} (h : oF S S') {i : Nat} (hi : 104 ≤ i) : vw S' i = vw S i := by
  refine Prod.ext ?_ ?_
  · funext k
    simp only [vw]
    rw [h.2.1 i k (Or.inr hi)]
  · funext j
    simp only [vw]
    rw [h.2.2 (i + 1) (Or.inr (by omega))]
theorem CP_oF {S S' : xS} {tr : Nat → aM} {z e : Nat} (h : CP S tr z e) (ho : oF S S') : CP S' tr z e := by
  obtain ⟨h1, h2, h3, h4, h5, h6, h7, h8⟩ := h
  refine ⟨by rw [ho.2.1 104 1 (Or.inr (by decide))]; exact h1, by rw [ho.2.1 104 2 (Or.inr (by decide))]; exact h2, h3, h4, h5, h6, fun i hi => ?_, fun i j hi hj hij => ?_⟩
  · rw [ho.1, oF_vw ho (by unfold iS; omega)]; exact h7 i hi
  · rw [ho.1] at hij; exact h8 i j hi hj hij
theorem nt_same {S S' : xS} {k : Nat} {a c : aM} (h : nt S k a c) (h1 : ∀ f, gI S' (iN k) f = gI S (iN k) f) (h2 : gR S' (iN k + 1) = gR S (iN k + 1)) (h3 : gR S' (iN k + 2) = gR S (iN k + 2)) : nt S' k a c :=
  ⟨fun f hf => (h1 f).trans (h.1 f hf), nb_same h.2 (h1 9) h2 h3⟩
theorem ci_step {S : xS} {tr : Nat → aM} {t u q n : Nat} (C : CI S tr t u q) (hn : n ≤ 40) (hc : gI S 1 4 = Int32.ofNat n) (hobs : aObs (gR S 2) (Int32.ofNat n) (tr t) = 0) (hst : tr (t + 1) = aStep (gR S 2) (gR S 3) (Int32.ofNat n) (tr t)) :
    p_Ma_perform S ∧ CI (f_Ma_perform S).2 tr (t + 1) (min (u + 1) 32) ((q + 1) % 32) ∧ oF S (f_Ma_perform S).2 := by
  obtain ⟨c1, c2, c3, c4, c5, c6, c7⟩ := C
  have hpc : ¬ f_RM_within (gI S 4 1) 64 = 0 := fun z => by
    rw [vw_reg c1 (k := 1) (by decide)] at z
    unfold aObs at hobs
    rw [if_pos z] at hobs
    exact absurd hobs (by decide)
  obtain ⟨hp, p1, p2, p3, p4, p5, p6, p7⟩ := cstep c3 c5 c2 c4 hn hc hpc
  rw [hc, c1, ← hst] at p1 p2
  generalize (f_Ma_perform S).2 = S' at *
  have hlt : (q + 1) % 32 < 32 := Nat.mod_lt _ (by decide)
  generalize hq' : (q + 1) % 32 = q' at *
  have hi : 8 ≤ iN q' ∧ iN q' + 2 < 104 := by unfold iN; omega
  refine ⟨hp, ⟨p1, p3, hlt, p4, by omega, by omega, fun j hj => ?_⟩, p5, fun i f h => ?_, fun i h => ?_⟩
  · by_cases j0 : j = 0
    · subst j0
      rw [show (q' + 32 - 0) % 32 = q' by omega]
      exact p2
    · have e1 : (q' + 32 - j) % 32 = (q + 32 - (j - 1)) % 32 := by omega
      have e2 : t + 1 - j - 1 = t - (j - 1) - 1 := by omega
      have e3 : t + 1 - j = t - (j - 1) := by omega
      rw [e1, e2, e3]
      have hne : (q + 32 - (j - 1)) % 32 ≠ q' := by omega
      have hi2 : 8 ≤ iN ((q + 32 - (j - 1)) % 32) ∧ iN ((q + 32 - (j - 1)) % 32) < 104 := by unfold iN; omega
      have hi3 : iN ((q + 32 - (j - 1)) % 32) ≠ iN q' ∧ iN ((q + 32 - (j - 1)) % 32) + 1 ≠ iN q' + 2 ∧ iN ((q + 32 - (j - 1)) % 32) + 2 ≠ iN q' + 1 := by unfold iN; omega
      exact nt_same (c7 (j - 1) (by omega)) (fun f => p6 _ f (by omega) (by omega) hi3.1) (p7 _ (by omega) (by omega) (by omega)) (p7 _ (by omega) (by omega) (by omega))
  · exact p6 i f (by omega) (by omega) (by omega)
  · exact p7 i (by omega) (by omega) (by omega)
