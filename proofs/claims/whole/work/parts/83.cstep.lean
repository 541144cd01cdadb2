/-! a whole step of the class -/
def nt (S : xS) (k : Nat) (a c : aM) : Prop := (∀ f, f < 7 → gI S (iN k) f = a.1 f) ∧ nb S (iN k) c.2 a.2 2
/-- S' is S behind a step that took the note q', with u' notes now -/
def pfm (S S' : xS) (q' u' : Nat) (m' : aM) : Prop := vw S' 4 = m' ∧ nt S' q' (vw S 4) m' ∧ gI S' 6 1 = Int32.ofNat q' ∧ gI S' 6 2 = Int32.ofNat u' ∧ gK S' = gK S ∧ (∀ i f, i ≠ 4 → i ≠ 6 → i ≠ iN q' → gI S' i f = gI S i f) ∧ (∀ i, i ≠ 5 → i ≠ iN q' + 1 → i ≠ iN q' + 2 → gR S' i = gR S i)
theorem ub {S : xS} {q u : Nat} (hq : q < 32) (hu : u ≤ 32) (h1 : gI S 6 1 = Int32.ofNat q) (h2 : gI S 6 2 = Int32.ofNat u) :
    p_Un_begin S 4 ∧ (f_Un_begin S 4).1 = (q + 1) % 32 ∧ gK (f_Un_begin S 4).2 = gK S ∧ gI (f_Un_begin S 4).2 6 1 = Int32.ofNat ((q + 1) % 32) ∧ gI (f_Un_begin S 4).2 6 2 = Int32.ofNat (min (u + 1) 32) ∧ (∀ f, f < 7 → gI (f_Un_begin S 4).2 (iN ((q + 1) % 32)) f = gI S 4 f) ∧ gI (f_Un_begin S 4).2 (iN ((q + 1) % 32)) 9 = 0 ∧ (∀ i f, i ≠ 6 → i ≠ iN ((q + 1) % 32) → gI (f_Un_begin S 4).2 i f = gI S i f) ∧ (∀ i, gR (f_Un_begin S 4).2 i = gR S i) := by
  have e1 : ((gI S 6 1) + 1) - ((gI S 6 1) + 1) / 32 * 32 = Int32.ofNat ((q + 1) % 32) := by
    rw [h1, show (1 : Int32) = Int32.ofNat 1 from rfl, n32_add, show (32 : Int32) = Int32.ofNat 32 from rfl, n32_rem (by omega) (by decide)]
  have e2 : (if 32 < (gI S 6 2) + 1 then (32 : Int32) else (gI S 6 2) + 1) = Int32.ofNat (min (u + 1) 32) := by
    rw [h2, show (1 : Int32) = Int32.ofNat 1 from rfl, n32_add, show (32 : Int32) = Int32.ofNat 32 from rfl]
    by_cases hc : 32 < u + 1
    · rw [if_pos ((n32_lt (by decide) (by omega)).mpr hc)]
      congr 1
      omega
    · rw [if_neg (fun z => hc ((n32_lt (by decide) (by omega)).mp z))]
      congr 1
      omega
  generalize hq' : (q + 1) % 32 = q' at *
  generalize hu' : min (u + 1) 32 = u' at *
  have hq2 : q' < 32 := by omega
  have ec : (Int32.ofNat q').toNatClampNeg = q' := n32_clamp (by omega)
  have hv : vp_in (Int32.ofNat q') 32 := vin_of hq2 (by decide)
  have hi : 8 ≤ iN q' ∧ iN q' < 104 := by unfold iN; omega
  have n6 : ¬ 6 = iN q' := by omega
  have n4 : ¬ 4 = iN q' := by omega
  have n6' : ¬ iN q' = 6 := by omega
  unfold p_Un_begin f_Un_begin f_Nt_begin f_Rg_copyNS
  simp only [px_let_id, e1, gI_sI, if_true, and_self, Nat.reduceEqDiff, and_false, false_and, if_false, e2, ec, n6, n4, n6', true_and]
  refine ⟨?_, rfl, ?_⟩
  · intro S1 q1 r3 q3 S5 q5
    subst q1; subst q3; subst q5
    simp only [gI_sI, if_true, and_self, Nat.reduceEqDiff, and_false, if_false, ec, n6, n4, n6', false_and]
    refine ⟨hv, fun S8 q8 => ⟨?_, trivial⟩⟩
    subst q8
    simp only [gI_sI, if_true, and_self, Nat.reduceEqDiff, and_false, if_false, ec, n6, n4, n6', false_and]
    exact hv
  · refine ⟨fun f hf => ?_, fun i' f a1 a2 => ?_, fun i' => rfl⟩
    · obtain rfl | rfl | rfl | rfl | rfl | rfl | rfl : f = 0 ∨ f = 1 ∨ f = 2 ∨ f = 3 ∨ f = 4 ∨ f = 5 ∨ f = 6 := by omega
      all_goals simp
    · simp only [a1, a2, false_and, if_false]
theorem ite_two {α β : Type} {c : Prop} [Decidable c] (R : α → β → Prop) {a b : α} {a' b' : β} (h1 : c → R a a') (h2 : ¬ c → R b b') : R (if c then a else b) (if c then a' else b') := by
  by_cases h : c
  · rw [if_pos h, if_pos h]; exact h1 h
  · rw [if_neg h, if_neg h]; exact h2 h
def f_chain (S15 : xS) (o k : Int32) : Int32 × xS := if o = 1 then px_let ((f_Ma_push S15 k).2) (fun S19 : xS => ((0 : Int32), S19)) else if o = 2 then px_let (sI S15 4 5 ((gI S15 4 5) - 1)) (fun S22 : xS => ((0 : Int32), S22)) else if o = 3 then px_let (f_Ma_fromTop S15 0) (fun r26 : Int32 => px_let ((f_Ma_push S15 r26).2) (fun S29 : xS => ((0 : Int32), S29))) else if o = 4 then px_let ((f_Ma_exchange S15 ).2) (fun S33 : xS => ((0 : Int32), S33)) else if o = 5 then px_let (f_Ma_fromTop S15 1) (fun r37 : Int32 => px_let (f_Ma_fromTop S15 0) (fun r40 : Int32 => px_let (f_Ma_result o r37 r40) (fun r43 : Int32 => px_let ((f_Ma_replaceTwo S15 r43).2) (fun S46 : xS => ((0 : Int32), S46))))) else if o = 6 then px_let (f_Ma_fromTop S15 1) (fun r50 : Int32 => px_let (f_Ma_fromTop S15 0) (fun r53 : Int32 => px_let (f_Ma_result o r50 r53) (fun r56 : Int32 => px_let ((f_Ma_replaceTwo S15 r56).2) (fun S59 : xS => ((0 : Int32), S59))))) else if o = 7 then px_let (f_Ma_fromTop S15 1) (fun r63 : Int32 => px_let (f_Ma_fromTop S15 0) (fun r66 : Int32 => px_let (f_Ma_result o r63 r66) (fun r69 : Int32 => px_let ((f_Ma_replaceTwo S15 r69).2) (fun S72 : xS => ((0 : Int32), S72))))) else if o = 8 then px_let (f_Ma_fromTop S15 1) (fun r76 : Int32 => px_let (f_Ma_fromTop S15 0) (fun r79 : Int32 => px_let (f_Ma_result o r76 r79) (fun r82 : Int32 => px_let ((f_Ma_replaceTwo S15 r82).2) (fun S85 : xS => ((0 : Int32), S85))))) else if o = 9 then px_let (f_Ma_fromTop S15 1) (fun r89 : Int32 => px_let (f_Ma_fromTop S15 0) (fun r92 : Int32 => px_let (f_Ma_result o r89 r92) (fun r95 : Int32 => px_let ((f_Ma_replaceTwo S15 r95).2) (fun S98 : xS => ((0 : Int32), S98))))) else if o = 10 then px_let ((f_Ma_load S15 ).2) (fun S102 : xS => ((0 : Int32), S102)) else if o = 11 then px_let ((f_Ma_store S15 ).2) (fun S106 : xS => ((0 : Int32), S106)) else if o = 12 then px_let (sI S15 4 1 k) (fun S109 : xS => ((0 : Int32), S109)) else if o = 13 then px_let (f_Ma_fromTop S15 0) (fun r113 : Int32 => if r113 = 0 then px_let ((f_Ma_jumpIf S15 1 k).2) (fun S116 : xS => ((0 : Int32), S116)) else px_let ((f_Ma_jumpIf S15 0 k).2) (fun S118 : xS => ((0 : Int32), S118))) else if o = 14 then px_let (f_Ma_fromTop S15 0) (fun r122 : Int32 => if 0 ≤ r122 then px_let ((f_Ma_jumpIf S15 0 k).2) (fun S125 : xS => ((0 : Int32), S125)) else px_let ((f_Ma_jumpIf S15 1 k).2) (fun S127 : xS => ((0 : Int32), S127))) else if o = 15 then px_let ((f_Ma_enter S15 k).2) (fun S131 : xS => ((0 : Int32), S131)) else if o = 16 then px_let ((f_Ma_leave S15 ).2) (fun S135 : xS => ((0 : Int32), S135)) else if o = 17 then px_let (f_Ma_argumentPlace S15 k) (fun r138 : Int32 => px_let (f_St_number S15 4 r138) (fun r141 : Int32 => px_let ((f_Ma_push S15 r141).2) (fun S144 : xS => ((0 : Int32), S144)))) else if o = 18 then px_let ((f_Ma_takeInput S15 ).2) (fun S148 : xS => ((0 : Int32), S148)) else if o = 19 then px_let ((f_Ma_pushRandom S15 k).2) (fun S152 : xS => ((0 : Int32), S152)) else if o = 20 then px_let ((f_Ma_push S15 (gI S15 4 2)).2) (fun S156 : xS => ((0 : Int32), S156)) else ((0 : Int32), S15)
def p_chain (S15 : xS) (o k : Int32) : Prop := (o = 1 → (p_Ma_push S15 k) ∧ ((∀ S19 : xS, S19 = (f_Ma_push S15 k).2 → True))) ∧ (¬ o = 1 → (o = 2 → (∀ S22 : xS, S22 = sI S15 4 5 ((gI S15 4 5) - 1) → True)) ∧ (¬ o = 2 → (o = 3 → (p_Ma_fromTop S15 0) ∧ ((∀ r26 : Int32, r26 = (f_Ma_fromTop S15 0) → (p_Ma_push S15 r26) ∧ ((∀ S29 : xS, S29 = (f_Ma_push S15 r26).2 → True))))) ∧ (¬ o = 3 → (o = 4 → (p_Ma_exchange S15) ∧ ((∀ S33 : xS, S33 = (f_Ma_exchange S15 ).2 → True))) ∧ (¬ o = 4 → (o = 5 → (p_Ma_fromTop S15 1) ∧ ((∀ r37 : Int32, r37 = (f_Ma_fromTop S15 1) → (p_Ma_fromTop S15 0) ∧ ((∀ r40 : Int32, r40 = (f_Ma_fromTop S15 0) → (p_Ma_result o r37 r40) ∧ ((∀ r43 : Int32, r43 = (f_Ma_result o r37 r40) → (p_Ma_replaceTwo S15 r43) ∧ ((∀ S46 : xS, S46 = (f_Ma_replaceTwo S15 r43).2 → True))))))))) ∧ (¬ o = 5 → (o = 6 → (p_Ma_fromTop S15 1) ∧ ((∀ r50 : Int32, r50 = (f_Ma_fromTop S15 1) → (p_Ma_fromTop S15 0) ∧ ((∀ r53 : Int32, r53 = (f_Ma_fromTop S15 0) → (p_Ma_result o r50 r53) ∧ ((∀ r56 : Int32, r56 = (f_Ma_result o r50 r53) → (p_Ma_replaceTwo S15 r56) ∧ ((∀ S59 : xS, S59 = (f_Ma_replaceTwo S15 r56).2 → True))))))))) ∧ (¬ o = 6 → (o = 7 → (p_Ma_fromTop S15 1) ∧ ((∀ r63 : Int32, r63 = (f_Ma_fromTop S15 1) → (p_Ma_fromTop S15 0) ∧ ((∀ r66 : Int32, r66 = (f_Ma_fromTop S15 0) → (p_Ma_result o r63 r66) ∧ ((∀ r69 : Int32, r69 = (f_Ma_result o r63 r66) → (p_Ma_replaceTwo S15 r69) ∧ ((∀ S72 : xS, S72 = (f_Ma_replaceTwo S15 r69).2 → True))))))))) ∧ (¬ o = 7 → (o = 8 → (p_Ma_fromTop S15 1) ∧ ((∀ r76 : Int32, r76 = (f_Ma_fromTop S15 1) → (p_Ma_fromTop S15 0) ∧ ((∀ r79 : Int32, r79 = (f_Ma_fromTop S15 0) → (p_Ma_result o r76 r79) ∧ ((∀ r82 : Int32, r82 = (f_Ma_result o r76 r79) → (p_Ma_replaceTwo S15 r82) ∧ ((∀ S85 : xS, S85 = (f_Ma_replaceTwo S15 r82).2 → True))))))))) ∧ (¬ o = 8 → (o = 9 → (p_Ma_fromTop S15 1) ∧ ((∀ r89 : Int32, r89 = (f_Ma_fromTop S15 1) → (p_Ma_fromTop S15 0) ∧ ((∀ r92 : Int32, r92 = (f_Ma_fromTop S15 0) → (p_Ma_result o r89 r92) ∧ ((∀ r95 : Int32, r95 = (f_Ma_result o r89 r92) → (p_Ma_replaceTwo S15 r95) ∧ ((∀ S98 : xS, S98 = (f_Ma_replaceTwo S15 r95).2 → True))))))))) ∧ (¬ o = 9 → (o = 10 → (p_Ma_load S15) ∧ ((∀ S102 : xS, S102 = (f_Ma_load S15 ).2 → True))) ∧ (¬ o = 10 → (o = 11 → (p_Ma_store S15) ∧ ((∀ S106 : xS, S106 = (f_Ma_store S15 ).2 → True))) ∧ (¬ o = 11 → (o = 12 → (∀ S109 : xS, S109 = sI S15 4 1 k → True)) ∧ (¬ o = 12 → (o = 13 → (p_Ma_fromTop S15 0) ∧ ((∀ r113 : Int32, r113 = (f_Ma_fromTop S15 0) → (r113 = 0 → (∀ S116 : xS, S116 = (f_Ma_jumpIf S15 1 k).2 → True)) ∧ (¬ r113 = 0 → (∀ S118 : xS, S118 = (f_Ma_jumpIf S15 0 k).2 → True))))) ∧ (¬ o = 13 → (o = 14 → (p_Ma_fromTop S15 0) ∧ ((∀ r122 : Int32, r122 = (f_Ma_fromTop S15 0) → (0 ≤ r122 → (∀ S125 : xS, S125 = (f_Ma_jumpIf S15 0 k).2 → True)) ∧ (¬ 0 ≤ r122 → (∀ S127 : xS, S127 = (f_Ma_jumpIf S15 1 k).2 → True))))) ∧ (¬ o = 14 → (o = 15 → (p_Ma_enter S15 k) ∧ ((∀ S131 : xS, S131 = (f_Ma_enter S15 k).2 → True))) ∧ (¬ o = 15 → (o = 16 → (p_Ma_leave S15) ∧ ((∀ S135 : xS, S135 = (f_Ma_leave S15 ).2 → True))) ∧ (¬ o = 16 → (o = 17 → (∀ r138 : Int32, r138 = (f_Ma_argumentPlace S15 k) → (p_St_number S15 4 r138) ∧ ((∀ r141 : Int32, r141 = (f_St_number S15 4 r138) → (p_Ma_push S15 r141) ∧ ((∀ S144 : xS, S144 = (f_Ma_push S15 r141).2 → True)))))) ∧ (¬ o = 17 → (o = 18 → (p_Ma_takeInput S15) ∧ ((∀ S148 : xS, S148 = (f_Ma_takeInput S15 ).2 → True))) ∧ (¬ o = 18 → (o = 19 → (p_Ma_pushRandom S15 k) ∧ ((∀ S152 : xS, S152 = (f_Ma_pushRandom S15 k).2 → True))) ∧ (¬ o = 19 → (o = 20 → (p_Ma_push S15 (gI S15 4 2)) ∧ ((∀ S156 : xS, S156 = (f_Ma_push S15 (gI S15 4 2)).2 → True))) ∧ (¬ o = 20 → True))))))))))))))))))))
theorem c_chainP {S0 S15 : xS} {m : aM} {w0 : Nat → Int32} {n : Nat} (c15 : cs S0 S15 m w0 0) (hn : n ≤ 40) (hcnt : gI S0 1 4 = Int32.ofNat n) (o k : Int32) : p_chain S15 o k := by
  have hP0 := cs_topP c15 0
  have hP1 := cs_topP c15 1
  have k3 := (cs_exch c15).1
  have k4 : ∀ v, p_Ma_replaceTwo S15 v := fun v => (cs_rep c15 (by decide) v).1
  have k5 := (cs_load c15).1
  have k6 := (cs_store c15).1
  have k7 := (cs_enter c15 k).1
  have k8 := (cs_leave c15).1
  have k9 : ∀ v, p_Ma_push S15 v := fun v => (cs_push c15 (by decide) v).1
  have k10 := (cs_take c15 hn hcnt).1
  have k11 := (cs_rand c15 k).1
  have kN : ∀ v, p_St_number S15 4 v := fun v => cs_numP c15 v
  unfold p_chain
  refine ⟨fun _ => ⟨k9 _, fun _ _ => trivial⟩, fun _ => ⟨fun _ _ _ => trivial, fun _ => ⟨fun _ => ⟨hP0, fun r _ => ⟨k9 r, fun _ _ => trivial⟩⟩, fun _ => ⟨fun _ => ⟨k3, fun _ _ => trivial⟩, fun _ => ?_⟩⟩⟩⟩
  have kr : (p_Ma_fromTop S15 1) ∧ (∀ r37 : Int32, r37 = (f_Ma_fromTop S15 1) → (p_Ma_fromTop S15 0) ∧ ((∀ r40 : Int32, r40 = (f_Ma_fromTop S15 0) → (p_Ma_result o r37 r40) ∧ ((∀ r43 : Int32, r43 = (f_Ma_result o r37 r40) → (p_Ma_replaceTwo S15 r43) ∧ ((∀ S46 : xS, S46 = (f_Ma_replaceTwo S15 r43).2 → True))))))) := ⟨hP1, fun _ _ => ⟨hP0, fun _ _ => ⟨cs_res _ _ _, fun _ _ => ⟨k4 _, fun _ _ => trivial⟩⟩⟩⟩
  refine ⟨fun _ => kr, fun _ => ⟨fun _ => kr, fun _ => ⟨fun _ => kr, fun _ => ⟨fun _ => kr, fun _ => ⟨fun _ => kr, fun _ => ?_⟩⟩⟩⟩⟩
  refine ⟨fun _ => ⟨k5, fun _ _ => trivial⟩, fun _ => ⟨fun _ => ⟨k6, fun _ _ => trivial⟩, fun _ => ⟨fun _ _ _ => trivial, fun _ => ?_⟩⟩⟩
  refine ⟨fun _ => ⟨hP0, fun _ _ => ⟨fun _ _ _ => trivial, fun _ _ _ => trivial⟩⟩, fun _ => ⟨fun _ => ⟨hP0, fun _ _ => ⟨fun _ _ _ => trivial, fun _ _ _ => trivial⟩⟩, fun _ => ?_⟩⟩
  refine ⟨fun _ => ⟨k7, fun _ _ => trivial⟩, fun _ => ⟨fun _ => ⟨k8, fun _ _ => trivial⟩, fun _ => ?_⟩⟩
  refine ⟨fun _ => fun _ _ => ⟨kN _, fun _ _ => ⟨k9 _, fun _ _ => trivial⟩⟩, fun _ => ⟨fun _ => ⟨k10, fun _ _ => trivial⟩, fun _ => ⟨fun _ => ⟨k11, fun _ _ => trivial⟩, fun _ => ⟨fun _ => ⟨k9 _, fun _ _ => trivial⟩, fun _ => trivial⟩⟩⟩⟩
theorem c_chain {S0 S15 : xS} {m : aM} {w0 : Nat → Int32} {n : Nat} (c15 : cs S0 S15 m w0 0) (hn : n ≤ 40) (hcnt : gI S0 1 4 = Int32.ofNat n) (o k : Int32) : cs S0 (f_chain S15 o k).2 (aOp (gR S0 3) (gI S0 1 4) o k m) w0 2 := by
  unfold f_chain aOp
  simp only [px_let_id]
  unfold f_Ma_argumentPlace
  rw [cs_top c15 0, cs_top c15 1, cs_reg c15 5 (by decide), cs_reg c15 2 (by decide), cs_num c15]
  have kr := fun v => cs_le (cs_rep c15 (by decide) v).2 (show 1 ≤ 2 by decide)
  have kp := fun v => cs_le (cs_push c15 (by decide) v).2 (show 1 ≤ 2 by decide)
  have c2 := cs_le c15 (show 0 ≤ 2 by decide)
  by_cases h1 : o = 1
  · rw [if_pos h1, if_pos h1]; dsimp only; exact kp k
  rw [if_neg h1, if_neg h1]
  by_cases h2 : o = 2
  · rw [if_pos h2, if_pos h2]; dsimp only; exact cs_set c2 5 (by decide) _
  rw [if_neg h2, if_neg h2]
  by_cases h3 : o = 3
  · rw [if_pos h3, if_pos h3]; dsimp only; exact kp _
  rw [if_neg h3, if_neg h3]
  by_cases h4 : o = 4
  · rw [if_pos h4, if_pos h4]; dsimp only; exact (cs_exch c15).2
  rw [if_neg h4, if_neg h4]
  by_cases h5 : o = 5
  · rw [if_pos h5, if_pos h5]; dsimp only; exact kr _
  rw [if_neg h5, if_neg h5]
  by_cases h6 : o = 6
  · rw [if_pos h6, if_pos h6]; dsimp only; exact kr _
  rw [if_neg h6, if_neg h6]
  by_cases h7 : o = 7
  · rw [if_pos h7, if_pos h7]; dsimp only; exact kr _
  rw [if_neg h7, if_neg h7]
  by_cases h8 : o = 8
  · rw [if_pos h8, if_pos h8]; dsimp only; exact kr _
  rw [if_neg h8, if_neg h8]
  by_cases h9 : o = 9
  · rw [if_pos h9, if_pos h9]; dsimp only; exact kr _
  rw [if_neg h9, if_neg h9]
  by_cases h10 : o = 10
  · rw [if_pos h10, if_pos h10]; dsimp only; exact cs_le (cs_load c15).2 (by decide)
  rw [if_neg h10, if_neg h10]
  by_cases h11 : o = 11
  · rw [if_pos h11, if_pos h11]; dsimp only; exact cs_le (cs_store c15).2 (by decide)
  rw [if_neg h11, if_neg h11]
  by_cases h12 : o = 12
  · rw [if_pos h12, if_pos h12]; dsimp only; exact cs_set c2 1 (by decide) k
  rw [if_neg h12, if_neg h12]
  by_cases h13 : o = 13
  · rw [if_pos h13, if_pos h13]
    by_cases hz : aTop m 0 = 0
    · rw [if_pos hz, if_pos hz]; dsimp only; exact cs_jump c2 1 k
    · rw [if_neg hz, if_neg hz]; dsimp only; exact cs_jump c2 0 k
  rw [if_neg h13, if_neg h13]
  by_cases h14 : o = 14
  · rw [if_pos h14, if_pos h14]
    by_cases hz : 0 ≤ aTop m 0
    · rw [if_pos hz, if_pos hz]; dsimp only; exact cs_jump c2 0 k
    · rw [if_neg hz, if_neg hz]; dsimp only; exact cs_jump c2 1 k
  rw [if_neg h14, if_neg h14]
  by_cases h15 : o = 15
  · rw [if_pos h15, if_pos h15]; dsimp only; exact (cs_enter c15 k).2
  rw [if_neg h15, if_neg h15]
  by_cases h16 : o = 16
  · rw [if_pos h16, if_pos h16]; dsimp only; exact cs_le (cs_leave c15).2 (by decide)
  rw [if_neg h16, if_neg h16]
  by_cases h17 : o = 17
  · rw [if_pos h17, if_pos h17]; dsimp only; exact kp _
  rw [if_neg h17, if_neg h17]
  by_cases h18 : o = 18
  · rw [if_pos h18, if_pos h18]; dsimp only; exact cs_le (cs_take c15 hn hcnt).2 (by decide)
  rw [if_neg h18, if_neg h18]
  by_cases h19 : o = 19
  · rw [if_pos h19, if_pos h19]; dsimp only; exact cs_le (cs_rand c15 k).2 (by decide)
  rw [if_neg h19, if_neg h19]
  by_cases h20 : o = 20
  · rw [if_pos h20, if_pos h20]; dsimp only; exact kp _
  rw [if_neg h20, if_neg h20]
  dsimp only; exact c2
set_option maxHeartbeats 4000000 in
theorem cstep {S : xS} {q u n : Nat} (hq : q < 32) (hu : u ≤ 32) (h1 : gI S 6 1 = Int32.ofNat q) (h2 : gI S 6 2 = Int32.ofNat u) (hn : n ≤ 40) (hc : gI S 1 4 = Int32.ofNat n) (hpc : ¬ f_RM_within (gI S 4 1) 64 = 0) :
    p_Ma_perform S ∧ pfm S (f_Ma_perform S).2 ((q + 1) % 32) (min (u + 1) 32) (aStep (gR S 2) (gR S 3) (gI S 1 4) (vw S 4)) := by
  obtain ⟨b0, b1, b2, b3, b4, b5, b6, b7, b8⟩ := ub hq hu h1 h2
  generalize hq' : (q + 1) % 32 = q' at *
  generalize hu' : min (u + 1) 32 = u' at *
  have hq2 : q' < 32 := by omega
  have hi : 8 ≤ iN q' ∧ iN q' < 104 := by unfold iN; omega
  have e1 : (vw S 4).1 1 = gI S 4 1 := (vw_reg rfl (by decide)).symm
  obtain ⟨pcv, hpcv, epc⟩ := wi_get (n := 64) (by decide) hpc
  have hv : vp_in (gI S 4 1) 64 := by rw [epc]; exact vin_of hpcv (by decide)
  generalize hS7 : (f_Un_begin S 4).2 = S7 at *
  have g9 : gN (sN S7 q') = q' := by rw [gN_sN, Nat.mod_eq_of_lt hq2]
  have c9 : cs (sN S7 q') (sN S7 q') (vw S 4) (vw S 4).2 0 := by
    refine ⟨?_, ⟨0, Nat.le_refl _, ?_, fun q0 h0 => absurd h0 (Nat.not_lt_zero _), rfl⟩, cF_rf⟩
    · refine Prod.ext ?_ ?_
      · funext k
        simp only [vw, gI_sN]
        rw [b7 4 k (by decide) (by omega)]
      · funext j
        simp only [vw, gR_sN]
        rw [b8]
    · rw [g9, gI_sN]
      exact b6
  have hcnt : gI (sN S7 q') 1 4 = Int32.ofNat n := by rw [gI_sN, b7 1 4 (by decide) (by omega)]; exact hc
  have hcn2 : gI S 1 4 = gI (sN S7 q') 1 4 := hc.trans hcnt.symm
  have hinp : gR S 3 = gR (sN S7 q') 3 := by rw [gR_sN, b8]
  have fin : ∀ (S' : xS) (m' : aM), cs (sN S7 q') S' m' (vw S 4).2 2 → pfm S S' q' u' m' := by
    intro S' m' hcs
    obtain ⟨d1, d2, d3, d4, d5, d6⟩ := hcs
    rw [g9] at d2 d3 d5 d6
    refine ⟨d1, ⟨fun f hf => ?_, d2⟩, ?_, ?_, by rw [d4, gK_sN]; exact b2, fun i f g1 g2 g3 => ?_, fun i g1 g2 g3 => ?_⟩
    · rw [d5 _ f (by omega) (Or.inr (by omega)), gI_sN, b5 f hf]
      exact vw_reg rfl hf
    · rw [d5 6 1 (by decide) (Or.inr (by decide)), gI_sN]; exact b3
    · rw [d5 6 2 (by decide) (Or.inr (by decide)), gI_sN]; exact b4
    · rw [d5 i f g1 (Or.inl g3), gI_sN]; exact b7 i f g2 g3
    · rw [d6 i g1 g2 g3, gR_sN]; exact b8 i
  have c15 : cs (sN S7 q') (sI (sI (sI (sN S7 q') 4 0 ((gI (sN S7 q') 4 0) + 1)) 4 1 ((gI (sI (sN S7 q') 4 0 ((gI (sN S7 q') 4 0) + 1)) 4 1) + 1)) 4 6 (-1)) (aBegin (vw S 4)) (vw S 4).2 0 := by
    unfold aBegin
    have c11 := cs_set c9 0 (by decide) ((vw S 4).1 0 + 1)
    rw [cs_reg c9 0 (by decide), cs_reg c11 1 (by decide)]
    exact cs_set (cs_set c11 1 (by decide) _) 6 (by decide) (-1)
  have hf : f_Ma_perform S = f_chain (sI (sI (sI (sN S7 q') 4 0 ((gI (sN S7 q') 4 0) + 1)) 4 1 ((gI (sI (sN S7 q') 4 0 ((gI (sN S7 q') 4 0) + 1)) 4 1) + 1)) 4 6 (-1)) ((gR S 2 (gI S 4 1).toNatClampNeg) &&& 31) ((gR S 2 (gI S 4 1).toNatClampNeg) >>> ((5 : Int32) &&& 31)) := by
    rw [← b1, ← hS7]
    exact if_neg hpc
  refine ⟨?_, ?_⟩
  · intro r1 e9
    refine ⟨fun h0 => absurd (e9.symm.trans h0) hpc, fun _ => ⟨hv, hv, b0, fun S7' q7 S9' q9 S11 q11 S13 q13 S15' q15 => ?_⟩⟩
    rw [hS7] at q7
    subst q7
    rw [b1] at q9
    subst q9; subst q11; subst q13; subst q15
    exact c_chainP c15 hn hcnt _ _
  · rw [hf]
    have e2 : aStep (gR S 2) (gR S 3) (gI S 1 4) (vw S 4) = aOp (gR S 3) (gI S 1 4) ((gR S 2 (gI S 4 1).toNatClampNeg) &&& 31) ((gR S 2 (gI S 4 1).toNatClampNeg) >>> ((5 : Int32) &&& 31)) (aBegin (vw S 4)) := by
      unfold aStep
      rw [e1, if_neg hpc]
    rw [e2, hcn2, hinp]
    exact fin _ _ (c_chain c15 hn hcnt _ _)
