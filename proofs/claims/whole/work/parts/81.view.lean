/-! the machine as a pure thing: registers and memory; what the class's own steps do to it -/
abbrev aM : Type := (Nat → Int32) × (Nat → Int32)
def vw (S : xS) (i : Nat) : aM := (fun k => if k < 7 then gI S i k else 0, fun j => if j < 56 then gR S (i + 1) j else 0)
def aNum (m : aM) (k : Int32) : Int32 := if f_RM_within k 24 = 0 then 0 else m.2 (32 + k).toNatClampNeg
def aTop (m : aM) (d : Int32) : Int32 := aNum m (m.1 5 - 1 - d)
def aSet (m : aM) (k : Nat) (x : Int32) : aM := (upd m.1 k x, m.2)
def aPut (m : aM) (a v : Int32) : aM := if f_RM_within a 56 = 0 then m else (m.1, upd m.2 a.toNatClampNeg v)
def aPush (m : aM) (v : Int32) : aM := aSet (aPut m (32 + m.1 5) v) 5 ((aPut m (32 + m.1 5) v).1 5 + 1)
def aRep (m : aM) (v : Int32) : aM := aPush (aSet m 5 (m.1 5 - 2)) v
def aExch (m : aM) : aM := aPut (aPut m (32 + m.1 5 - 2) (aTop m 0)) (32 + (aPut m (32 + m.1 5 - 2) (aTop m 0)).1 5 - 1) (aTop m 1)
def aLoad (m : aM) : aM := if f_RM_within (aTop m 0) 32 = 0 then m else aPush (aSet m 5 (m.1 5 - 1)) ((aSet m 5 (m.1 5 - 1)).2 (aTop m 0).toNatClampNeg)
def aSt2 (m : aM) (c : Int32) : aM := aSet (aPut (aSet m 6 c) (aTop m 0) (aTop m 1)) 5 ((aPut (aSet m 6 c) (aTop m 0) (aTop m 1)).1 5 - 2)
def aStore (m : aM) : aM := if f_RM_within (aTop m 0) 32 = 0 then m else if m.2 (aTop m 0).toNatClampNeg = aTop m 1 then aSt2 m (-1) else aSt2 m (aTop m 0)
def aJump (m : aM) (b k : Int32) : aM := if b = 0 then aSet m 5 (m.1 5 - 1) else aSet (aSet m 5 (m.1 5 - 1)) 1 k
def aEnt2 (m : aM) (k : Int32) : aM := aSet (aSet m 2 (m.1 5)) 1 k
def aEnter (m : aM) (k : Int32) : aM := aEnt2 (aPush (aPush m (m.1 1)) ((aPush m (m.1 1)).1 2)) k
def aLv1 (m : aM) : aM := aSet m 5 (m.1 2 - 2)
def aLv2 (m : aM) : aM := aSet m 1 (aNum m (m.1 5))
def aLv3 (m : aM) : aM := aSet m 2 (aNum m (m.1 5 + 1))
def aLeave (m : aM) : aM := aPush (aLv3 (aLv2 (aLv1 m))) (aTop m 0)
def aTake (inp : Nat → Int32) (cnt : Int32) (m : aM) : aM := if f_RM_within (m.1 4) cnt = 0 then m else aSet (aPush m (inp (m.1 4).toNatClampNeg)) 4 ((aPush m (inp (m.1 4).toNatClampNeg)).1 4 + 1)
def aRn (x k : Int32) : Int32 := ((x.toUInt32 >>> ((16 : Int32).toUInt32 &&& Int32.toUInt32 31)).toInt32) - ((x.toUInt32 >>> ((16 : Int32).toUInt32 &&& Int32.toUInt32 31)).toInt32) / k * k
def aRand (m : aM) (k : Int32) : aM := if 1 ≤ k then aPush (aSet m 3 ((1103515245 * (m.1 3)) + 12345)) (aRn ((aSet m 3 ((1103515245 * (m.1 3)) + 12345)).1 3) k) else aPush (aSet m 3 ((1103515245 * (m.1 3)) + 12345)) 0
def aOp (inp : Nat → Int32) (cnt o k : Int32) (m : aM) : aM :=
  if o = 1 then aPush m k else if o = 2 then aSet m 5 (m.1 5 - 1) else if o = 3 then aPush m (aTop m 0) else if o = 4 then aExch m else
  if o = 5 then aRep m (f_Ma_result o (aTop m 1) (aTop m 0)) else if o = 6 then aRep m (f_Ma_result o (aTop m 1) (aTop m 0)) else if o = 7 then aRep m (f_Ma_result o (aTop m 1) (aTop m 0)) else
  if o = 8 then aRep m (f_Ma_result o (aTop m 1) (aTop m 0)) else if o = 9 then aRep m (f_Ma_result o (aTop m 1) (aTop m 0)) else
  if o = 10 then aLoad m else if o = 11 then aStore m else if o = 12 then aSet m 1 k else if o = 13 then (if aTop m 0 = 0 then aJump m 1 k else aJump m 0 k) else
  if o = 14 then (if 0 ≤ aTop m 0 then aJump m 0 k else aJump m 1 k) else if o = 15 then aEnter m k else if o = 16 then aLeave m else
  if o = 17 then aPush m (aNum m (m.1 2 - 3 - k)) else if o = 18 then aTake inp cnt m else if o = 19 then aRand m k else if o = 20 then aPush m (m.1 2) else m
def aBegin (m : aM) : aM := aSet (aSet (aSet m 0 (m.1 0 + 1)) 1 ((aSet m 0 (m.1 0 + 1)).1 1 + 1)) 6 (-1)
def aStep (cd inp : Nat → Int32) (cnt : Int32) (m : aM) : aM := if f_RM_within (m.1 1) 64 = 0 then m else aOp inp cnt (cd (m.1 1).toNatClampNeg &&& 31) (cd (m.1 1).toNatClampNeg >>> ((5 : Int32) &&& 31)) (aBegin m)
/-- what stays beside the present state and the note in hand -/
def cF (S0 S : xS) : Prop := gN S = gN S0 ∧ gK S = gK S0 ∧ (∀ i f, i ≠ 4 → (i ≠ iN (gN S0) ∨ f ≠ 9) → gI S i f = gI S0 i f) ∧ (∀ i, i ≠ 5 → i ≠ iN (gN S0) + 1 → i ≠ iN (gN S0) + 2 → gR S i = gR S0 i)
theorem cF_rf {S : xS} : cF S S := ⟨rfl, rfl, fun _ _ _ _ => rfl, fun _ _ _ _ => rfl⟩
def undoW : Nat → (Nat → Int32) → (Nat → Int32) → (Nat → Int32) → Nat → Int32
  | 0, _, _, w => w
  | n + 1, P, V, w => undoW n P V (upd w (P n).toNatClampNeg (V n))
theorem undoW_congr {n : Nat} {P P' V V' w : Nat → Int32} (h1 : ∀ q, q < n → P q = P' q) (h2 : ∀ q, q < n → V q = V' q) : undoW n P V w = undoW n P' V' w := by
  induction n generalizing w with
  | zero => rfl
  | succ n ih =>
    show undoW n P V _ = undoW n P' V' _
    rw [h1 n (by omega), h2 n (by omega)]
    exact ih (fun q hq => h1 q (by omega)) (fun q hq => h2 q (by omega))
/-- the note at i leads from w back to w0, by at most b words -/
def nb (S : xS) (i : Nat) (w w0 : Nat → Int32) (b : Nat) : Prop := ∃ n, n ≤ b ∧ gI S i 9 = Int32.ofNat n ∧ (∀ q, q < n → vp_in (gR S (i + 1) q) 56) ∧ undoW n (gR S (i + 1)) (gR S (i + 2)) w = w0
theorem nb_same {S S' : xS} {i : Nat} {w w0 : Nat → Int32} {b : Nat} (h : nb S i w w0 b) (h1 : gI S' i 9 = gI S i 9) (h2 : gR S' (i + 1) = gR S (i + 1)) (h3 : gR S' (i + 2) = gR S (i + 2)) : nb S' i w w0 b := by
  obtain ⟨n, a1, a2, a3, a4⟩ := h
  exact ⟨n, a1, by rw [h1]; exact a2, by rw [h2]; exact a3, by rw [h2, h3]; exact a4⟩
theorem nb_le {S : xS} {i : Nat} {w w0 : Nat → Int32} {b b' : Nat} (h : nb S i w w0 b) (hb : b ≤ b') : nb S i w w0 b' := by
  obtain ⟨n, a1, a2⟩ := h
  exact ⟨n, by omega, a2⟩
def cs (S0 S : xS) (m : aM) (w0 : Nat → Int32) (b : Nat) : Prop := vw S 4 = m ∧ nb S (iN (gN S0)) m.2 w0 b ∧ cF S0 S
section CSS
variable {S0 S : xS} {m : aM} {w0 : Nat → Int32} {b : Nat}
theorem cs_le {b' : Nat} (h : cs S0 S m w0 b) (hb : b ≤ b') : cs S0 S m w0 b' := ⟨h.1, nb_le h.2.1 hb, h.2.2⟩
theorem vw_reg {i k : Nat} (h : vw S i = m) (hk : k < 7) : gI S i k = m.1 k := by rw [← h]; simp [vw, hk]
theorem vw_mem {i j : Nat} (h : vw S i = m) (hj : j < 56) : gR S (i + 1) j = m.2 j := by rw [← h]; simp [vw, hj]
theorem wi_in' {k n : Nat} {x : Int32} (hx : x = Int32.ofNat n) (h : k < n) (hn : n < 2147483648) : f_RM_within (Int32.ofNat k) x = 1 := by rw [hx]; exact wi_in h hn
theorem vw_num {i : Nat} (h : vw S i = m) (k : Int32) : f_St_number S i k = aNum m k ∧ p_St_number S i k := by
  unfold f_St_number p_St_number aNum
  simp only [px_let_id]
  by_cases hk : f_RM_within k 24 = 0
  · simp [hk]
  · obtain ⟨a, ha, rfl⟩ := wi_get (n := 24) (by decide) hk
    have e : (32 : Int32) + Int32.ofNat a = Int32.ofNat (32 + a) := n32_add 32 a
    simp only [hk, if_false, e]
    refine ⟨?_, fun r1 hr => ⟨fun h0 => absurd (hr.symm.trans h0) hk, fun _ => ⟨vin_of (by omega) (by decide), trivial⟩⟩⟩
    rw [n32_clamp (by omega)]
    exact vw_mem h (by omega)
theorem vw_top (h : vw S 4 = m) (d : Int32) : f_Ma_fromTop S d = aTop m d ∧ p_Ma_fromTop S d := by
  unfold f_Ma_fromTop p_Ma_fromTop aTop
  have h5 := vw_reg h (k := 5) (by decide)
  rw [← h5]
  exact ⟨(vw_num h _).1, (vw_num h _).2, fun _ _ => trivial⟩
theorem vw_sI {i k : Nat} {x : Int32} (h : vw S i = m) (hk : k < 7) : vw (sI S i k x) i = aSet m k x := by
  subst h
  refine Prod.ext ?_ rfl
  funext j
  simp only [vw, aSet, gI_sI, upd, true_and]
  by_cases hj : j = k
  · subst hj; simp [hk]
  · simp [hj]
theorem cs_set (h : cs S0 S m w0 b) (k : Nat) (hk : k < 7) (x : Int32) : cs S0 (sI S 4 k x) (aSet m k x) w0 b := by
  obtain ⟨h1, h2, h3, h4, h5, h6⟩ := h
  refine ⟨vw_sI h1 hk, nb_same h2 ?_ rfl rfl, h3, h4, fun i f hi hf => ?_, h6⟩
  · rw [gI_sI, if_neg (by omega)]
  · rw [gI_sI, if_neg (by omega)]
    exact h5 i f hi hf
theorem cs_reg (h : cs S0 S m w0 b) (k : Nat) (hk : k < 7) : gI S 4 k = m.1 k := vw_reg h.1 hk
theorem cs_put (h : cs S0 S m w0 b) (hb : b ≤ 1) (a v : Int32) : p_Ma_put S a v ∧ cs S0 (f_Ma_put S a v).2 (aPut m a v) w0 (b + 1) := by
  obtain ⟨h1, ⟨n, a1, a2, a3, a4⟩, h3, h4, h5, h6⟩ := h
  unfold p_Ma_put f_Ma_put aPut
  simp only [px_let_id]
  by_cases hk : f_RM_within a 56 = 0
  · simp only [hk, if_true]
    exact ⟨fun r1 hr => ⟨fun _ => trivial, fun h0 => absurd hr h0⟩, h1, ⟨n, by omega, a2, a3, a4⟩, h3, h4, h5, h6⟩
  · obtain ⟨c, hc, rfl⟩ := wi_get (n := 56) (by decide) hk
    have hv : vp_in (Int32.ofNat c) 56 := vin_of hc (by decide)
    simp only [hk, if_false]
    rw [h3]
    generalize hi : iN (gN S0) = i at a2 a3 a4 h5 h6 ⊢
    have hir : 8 ≤ i ∧ i < 104 ∧ i % 3 = 2 := by rw [← hi]; unfold iN; omega
    have hn2 : ¬ (2 : Int32) ≤ gI S i 9 := by
      rw [a2, show (2 : Int32) = Int32.ofNat 2 from rfl, n32_le (by decide) (by omega)]; omega
    have hvn : vp_in (gI S i 9) 2 := by rw [a2]; exact vin_of (by omega) (by decide)
    have hcl : (gI S i 9).toNatClampNeg = n := by rw [a2]; exact n32_clamp (by omega)
    have hcc : (Int32.ofNat c).toNatClampNeg = c := n32_clamp (by omega)
    unfold p_Nt_keepWord f_Nt_keepWord
    simp only [px_let_id, hn2, if_false, gI_sR, hcl, hcc]
    refine ⟨fun r1 hr => ⟨fun h0 => absurd (hr.symm.trans h0) hk, fun _ => ⟨hv, ⟨fun h0 => h0.elim, fun _ => ⟨hvn, fun S2 e2 => ⟨by rw [e2]; exact hvn, fun S5 e5 S8 e8 => trivial⟩⟩⟩, fun S6 e6 => ⟨hv, fun S8 e8 => trivial⟩⟩⟩, ?_, ?_, h3, h4, fun i' f hi' hf => ?_, fun i' g1 g2 g3 => ?_⟩
    · rw [← h1]
      refine Prod.ext ?_ ?_
      · funext k
        simp only [vw, gI_sR, gI_sI]
        rw [if_neg (show ¬ (4 = i ∧ k = 9) by omega)]
      · funext j
        simp only [vw, gR_sR, gR_sI, upd, Nat.reduceAdd, if_true]
        rw [if_neg (show ¬ 5 = i + 2 by omega), if_neg (show ¬ 5 = i + 1 by omega)]
        by_cases hj : j = c
        · subst hj; simp [hc]
        · simp [hj]
    · rw [hi]
      refine ⟨n + 1, by omega, ?_, ?_, ?_⟩
      · rw [gI_sR, gI_sI, if_pos ⟨rfl, rfl⟩, a2, show (1 : Int32) = Int32.ofNat 1 from rfl, n32_add]
      · intro q hq
        simp only [gR_sR, gR_sI]
        rw [if_neg (show ¬ i + 1 = 4 + 1 by omega), if_neg (show ¬ i + 1 = i + 2 by omega), if_pos trivial]
        by_cases hqn : q = n
        · subst hqn; rw [upd_self]; exact hv
        · rw [upd_ne _ _ hqn]; exact a3 q (by omega)
      · simp only [gR_sR, gR_sI]
        rw [if_neg (show ¬ i + 1 = 4 + 1 by omega), if_neg (show ¬ i + 1 = i + 2 by omega), if_pos trivial, if_neg (show ¬ i + 2 = 4 + 1 by omega), if_pos trivial, if_neg (show ¬ i + 2 = i + 1 by omega)]
        show undoW n _ _ _ = w0
        rw [upd_self, upd_self, hcc, vw_mem h1 hc, upd_back, ← a4]
        exact undoW_congr (fun q hq => upd_ne _ _ (by omega)) (fun q hq => upd_ne _ _ (by omega))
    · rw [gI_sR, gI_sI, if_neg (by omega), gI_sR, gI_sR]
      rw [hi] at hf
      exact h5 i' f hi' hf
    · rw [hi] at g2 g3
      rw [gR_sR, if_neg (by omega), gR_sI, gR_sR, if_neg (by omega), gR_sR, if_neg (by omega)]
      exact h6 i' g1 g2 g3
theorem cs_push (h : cs S0 S m w0 b) (hb : b ≤ 1) (v : Int32) : p_Ma_push S v ∧ cs S0 (f_Ma_push S v).2 (aPush m v) w0 (b + 1) := by
  unfold p_Ma_push f_Ma_push aPush
  simp only [px_let_id]
  rw [cs_reg h 5 (by decide)]
  obtain ⟨h1, h2⟩ := cs_put h hb (32 + m.1 5) v
  refine ⟨⟨h1, fun _ _ _ _ => trivial⟩, ?_⟩
  rw [cs_reg h2 5 (by decide)]
  exact cs_set h2 5 (by decide) _
end CSS
