/-! the class's own cells by index: 0 ReplayMachine, 1 Machine, 2 code, 3 inputs, 4 State now, 5 its memory, 6 Undo, 7 notes, 8+3k Note k with places and words, 104 Checkpoints, 105 kept, 106+2k State k with its memory, 122 breaks, 123 watches -/
abbrev xS : Type := (Nat → Nat → Int32) × (Nat → Nat → Int32) × (Nat → Nat) × Nat
def gI (S : xS) (i k : Nat) : Int32 := S.1 i k
def gR (S : xS) (i : Nat) : Nat → Int32 := S.2.1 i
def gK (S : xS) (j : Nat) : Nat := S.2.2.1 j % 8
def gN (S : xS) : Nat := S.2.2.2 % 32
def sI (S : xS) (i k : Nat) (x : Int32) : xS := (va_up S.1 i (upd (S.1 i) k x), S.2)
def sR (S : xS) (i : Nat) (f : Nat → Int32) : xS := (S.1, va_up S.2.1 i f, S.2.2)
def sA (S : xS) (i : Nat) (j x : Int32) : xS := sR S i (upd (gR S i) j.toNatClampNeg x)
def sK (S : xS) (j x : Nat) : xS := (S.1, S.2.1, va_up S.2.2.1 j x, S.2.2.2)
def sN (S : xS) (x : Nat) : xS := (S.1, S.2.1, S.2.2.1, x)
def kSt (i : Nat) : Prop := i = 4 ∨ (106 ≤ i ∧ i < 122 ∧ i % 2 = 0)
def kNt (i : Nat) : Prop := 8 ≤ i ∧ i < 104 ∧ i % 3 = 2
abbrev iN (k : Nat) : Nat := 8 + 3 * (k % 32)
abbrev iS (k : Nat) : Nat := 106 + 2 * (k % 8)
theorem iN_mod (k : Nat) : iN (k % 32) = iN k := by unfold iN; omega
theorem k_4 : kSt 4 := Or.inl rfl
theorem k_N (k : Nat) : kNt (iN k) := by unfold kNt iN; omega
theorem k_S (k : Nat) : kSt (iS k) := by unfold kSt iS; omega
def xc (aC : Nat → ClassId) (ad : Nat → Nat) (j : Nat) (r a : Nat → Int32) (kp : Nat → Nat) (nt : Nat) (e0 : va_E) : va_E :=
  if j = 0 then .inr (5, [.ref (ad 1), .ref (ad 104), .ref (ad 122), .ref (ad 123), .int (r 4), .int (r 5)]) else
  if j = 1 then .inr (1, [.ref (ad 2), .ref (ad 3), .ref (ad 4), .ref (ad 6), .int (r 4), .ref (ad (iN nt))]) else
  if j = 2 then .inl (aC 0, 64, .inl a) else
  if j = 3 then .inl (aC 0, 40, .inl a) else
  if j = 4 then .inr (3, [.int (r 0), .int (r 1), .int (r 2), .int (r 3), .int (r 4), .int (r 5), .int (r 6), .ref (ad (j + 1))]) else
  if j = 5 then .inl (aC 0, 56, .inl a) else
  if j = 6 then .inr (4, [.ref (ad 7), .int (r 1), .int (r 2)]) else
  if j = 7 then .inl (aC 2, 32, .inr (.inr (.inr (.inr (fun q => if q < 32 then some (ad (iN q)) else none))))) else
  if j < 104 then (if j % 3 = 2 then .inr (2, [.int (r 0), .int (r 1), .int (r 2), .int (r 3), .int (r 4), .int (r 5), .int (r 6), .ref (ad (j + 1)), .ref (ad (j + 2)), .int (r 9)]) else .inl (aC 0, 2, .inl a)) else
  if j = 104 then .inr (0, [.ref (ad 105), .int (r 1), .int (r 2)]) else
  if j = 105 then .inl (aC 3, 8, .inr (.inr (.inr (.inr (fun q => if q < 8 then some (ad (iS (kp q))) else none))))) else
  if j < 122 then (if j % 2 = 0 then .inr (3, [.int (r 0), .int (r 1), .int (r 2), .int (r 3), .int (r 4), .int (r 5), .int (r 6), .ref (ad (j + 1))]) else .inl (aC 0, 56, .inl a)) else
  if j = 122 then .inl (aC 1, 64, .inl a) else
  if j = 123 then .inl (aC 1, 32, .inl a) else
  e0
def xe (aC : Nat → ClassId) (ad : Nat → Nat) (S : xS) (c0 : Nat → va_E) : Nat → va_E := fun j => xc aC ad j (gI S j) (gR S j) (gK S) (gN S) (c0 j)
section XW
variable {aC : Nat → ClassId} {ad : Nat → Nat} {S : xS} {c0 : Nat → va_E} {i : Nat}
theorem x_RM : xe aC ad S c0 0 = .inr (5, [.ref (ad 1), .ref (ad 104), .ref (ad 122), .ref (ad 123), .int (gI S 0 4), .int (gI S 0 5)]) := by first | rfl | simp [xe, xc]
theorem x_Ma : xe aC ad S c0 1 = .inr (1, [.ref (ad 2), .ref (ad 3), .ref (ad 4), .ref (ad 6), .int (gI S 1 4), .ref (ad (iN (gN S)))]) := by first | rfl | simp [xe, xc]
theorem x_code : xe aC ad S c0 2 = .inl (aC 0, 64, .inl (gR S 2)) := by first | rfl | simp [xe, xc]
theorem x_inp : xe aC ad S c0 3 = .inl (aC 0, 40, .inl (gR S 3)) := by first | rfl | simp [xe, xc]
theorem x_Un : xe aC ad S c0 6 = .inr (4, [.ref (ad 7), .int (gI S 6 1), .int (gI S 6 2)]) := by first | rfl | simp [xe, xc]
theorem x_notes : xe aC ad S c0 7 = .inl (aC 2, 32, .inr (.inr (.inr (.inr (fun q => if q < 32 then some (ad (iN q)) else none))))) := by first | rfl | simp [xe, xc]
theorem x_Cp : xe aC ad S c0 104 = .inr (0, [.ref (ad 105), .int (gI S 104 1), .int (gI S 104 2)]) := by first | rfl | simp [xe, xc]
theorem x_kept : xe aC ad S c0 105 = .inl (aC 3, 8, .inr (.inr (.inr (.inr (fun q => if q < 8 then some (ad (iS (gK S q))) else none))))) := by first | rfl | simp [xe, xc]
theorem x_brk : xe aC ad S c0 122 = .inl (aC 1, 64, .inl (gR S 122)) := by first | rfl | simp [xe, xc]
theorem x_wat : xe aC ad S c0 123 = .inl (aC 1, 32, .inl (gR S 123)) := by first | rfl | simp [xe, xc]
theorem x_St (h : kSt i) : xe aC ad S c0 (i) = .inr (3, [.int (gI S i 0), .int (gI S i 1), .int (gI S i 2), .int (gI S i 3), .int (gI S i 4), .int (gI S i 5), .int (gI S i 6), .ref (ad (i + 1))]) := by
  unfold kSt at h
  rcases h with rfl | ⟨g1, g2, g3⟩
  · first | rfl | simp [xe, xc]
  · simp only [xe, xc]
    rw [if_neg (show ¬ i = 0 by omega), if_neg (show ¬ i = 1 by omega), if_neg (show ¬ i = 2 by omega), if_neg (show ¬ i = 3 by omega), if_neg (show ¬ i = 4 by omega), if_neg (show ¬ i = 5 by omega), if_neg (show ¬ i = 6 by omega), if_neg (show ¬ i = 7 by omega), if_neg (show ¬ i < 104 by omega), if_neg (show ¬ i = 104 by omega), if_neg (show ¬ i = 105 by omega), if_pos (show i < 122 by omega), if_pos (show (i) % 2 = 0 by omega)]
theorem x_mem (h : kSt i) : xe aC ad S c0 (i + 1) = .inl (aC 0, 56, .inl (gR S (i + 1))) := by
  unfold kSt at h
  rcases h with rfl | ⟨g1, g2, g3⟩
  · first | rfl | simp [xe, xc]
  · simp only [xe, xc]
    rw [if_neg (show ¬ i + 1 = 0 by omega), if_neg (show ¬ i + 1 = 1 by omega), if_neg (show ¬ i + 1 = 2 by omega), if_neg (show ¬ i + 1 = 3 by omega), if_neg (show ¬ i + 1 = 4 by omega), if_neg (show ¬ i + 1 = 5 by omega), if_neg (show ¬ i + 1 = 6 by omega), if_neg (show ¬ i + 1 = 7 by omega), if_neg (show ¬ i + 1 < 104 by omega), if_neg (show ¬ i + 1 = 104 by omega), if_neg (show ¬ i + 1 = 105 by omega), if_pos (show i + 1 < 122 by omega), if_neg (show ¬ (i + 1) % 2 = 0 by omega)]
theorem x_Nt (h : kNt i) : xe aC ad S c0 (i) = .inr (2, [.int (gI S i 0), .int (gI S i 1), .int (gI S i 2), .int (gI S i 3), .int (gI S i 4), .int (gI S i 5), .int (gI S i 6), .ref (ad (i + 1)), .ref (ad (i + 2)), .int (gI S i 9)]) := by
  unfold kNt at h
  obtain ⟨g1, g2, g3⟩ := h
  simp only [xe, xc]
  rw [if_neg (show ¬ i = 0 by omega), if_neg (show ¬ i = 1 by omega), if_neg (show ¬ i = 2 by omega), if_neg (show ¬ i = 3 by omega), if_neg (show ¬ i = 4 by omega), if_neg (show ¬ i = 5 by omega), if_neg (show ¬ i = 6 by omega), if_neg (show ¬ i = 7 by omega), if_pos (show i < 104 by omega), if_pos (show (i) % 3 = 2 by omega)]
theorem x_pl (h : kNt i) : xe aC ad S c0 (i + 1) = .inl (aC 0, 2, .inl (gR S (i + 1))) := by
  unfold kNt at h
  obtain ⟨g1, g2, g3⟩ := h
  simp only [xe, xc]
  rw [if_neg (show ¬ i + 1 = 0 by omega), if_neg (show ¬ i + 1 = 1 by omega), if_neg (show ¬ i + 1 = 2 by omega), if_neg (show ¬ i + 1 = 3 by omega), if_neg (show ¬ i + 1 = 4 by omega), if_neg (show ¬ i + 1 = 5 by omega), if_neg (show ¬ i + 1 = 6 by omega), if_neg (show ¬ i + 1 = 7 by omega), if_pos (show i + 1 < 104 by omega), if_neg (show ¬ (i + 1) % 3 = 2 by omega)]
theorem x_wd (h : kNt i) : xe aC ad S c0 (i + 2) = .inl (aC 0, 2, .inl (gR S (i + 2))) := by
  unfold kNt at h
  obtain ⟨g1, g2, g3⟩ := h
  simp only [xe, xc]
  rw [if_neg (show ¬ i + 2 = 0 by omega), if_neg (show ¬ i + 2 = 1 by omega), if_neg (show ¬ i + 2 = 2 by omega), if_neg (show ¬ i + 2 = 3 by omega), if_neg (show ¬ i + 2 = 4 by omega), if_neg (show ¬ i + 2 = 5 by omega), if_neg (show ¬ i + 2 = 6 by omega), if_neg (show ¬ i + 2 = 7 by omega), if_pos (show i + 2 < 104 by omega), if_neg (show ¬ (i + 2) % 3 = 2 by omega)]
theorem x_upI {k : Nat} {x : Int32} {e : va_E} (he : xe aC ad (sI S i k x) c0 i = e) : va_up (xe aC ad S c0) i e = xe aC ad (sI S i k x) c0 := by
  funext j
  by_cases hj : j = i
  · subst hj; simp [va_up, he]
  · have h1 : gI (sI S i k x) j = gI S j := by funext q; simp [gI, sI, va_up, hj]
    show (if j = i then e else xe aC ad S c0 j) = xe aC ad (sI S i k x) c0 j
    rw [if_neg hj]
    unfold xe
    rw [h1]
    rfl
theorem x_upR {f : Nat → Int32} {e : va_E} (he : xe aC ad (sR S i f) c0 i = e) : va_up (xe aC ad S c0) i e = xe aC ad (sR S i f) c0 := by
  funext j
  by_cases hj : j = i
  · subst hj; simp [va_up, he]
  · have h1 : gR (sR S i f) j = gR S j := by funext q; simp [gR, sR, va_up, hj]
    show (if j = i then e else xe aC ad S c0 j) = xe aC ad (sR S i f) c0 j
    rw [if_neg hj]
    unfold xe
    rw [h1]
    rfl
theorem g_sI {S : xS} {i k i' k' : Nat} {x : Int32} : gI (sI S i k x) i' k' = if i' = i ∧ k' = k then x else gI S i' k' := by
  unfold gI sI va_up upd
  by_cases h1 : i' = i <;> by_cases h2 : k' = k <;> simp [h1, h2]
theorem g_sIR {S : xS} {i k j : Nat} {x : Int32} : gR (sI S i k x) j = gR S j := rfl
theorem g_sRI {S : xS} {i j k : Nat} {f : Nat → Int32} : gI (sR S i f) j k = gI S j k := rfl
theorem g_sR {S : xS} {i j : Nat} {f : Nat → Int32} : gR (sR S i f) j = if j = i then f else gR S j := by
  unfold gR sR va_up
  by_cases h1 : j = i <;> simp [h1]
theorem x_putSt_0 {x : Int32} (h : kSt i) : va_up (xe aC ad S c0) i (.inr (3, [.int (gI S i 0), .int (gI S i 1), .int (gI S i 2), .int (gI S i 3), .int (gI S i 4), .int (gI S i 5), .int (gI S i 6), .ref (ad (i + 1))].set 0 (.int x))) = xe aC ad (sI S i 0 x) c0 := by
  refine x_upI (by rw [x_St h]; simp [gI, sI, va_up, upd])
theorem x_putSt_1 {x : Int32} (h : kSt i) : va_up (xe aC ad S c0) i (.inr (3, [.int (gI S i 0), .int (gI S i 1), .int (gI S i 2), .int (gI S i 3), .int (gI S i 4), .int (gI S i 5), .int (gI S i 6), .ref (ad (i + 1))].set 1 (.int x))) = xe aC ad (sI S i 1 x) c0 := by
  refine x_upI (by rw [x_St h]; simp [gI, sI, va_up, upd])
theorem x_putSt_2 {x : Int32} (h : kSt i) : va_up (xe aC ad S c0) i (.inr (3, [.int (gI S i 0), .int (gI S i 1), .int (gI S i 2), .int (gI S i 3), .int (gI S i 4), .int (gI S i 5), .int (gI S i 6), .ref (ad (i + 1))].set 2 (.int x))) = xe aC ad (sI S i 2 x) c0 := by
  refine x_upI (by rw [x_St h]; simp [gI, sI, va_up, upd])
theorem x_putSt_3 {x : Int32} (h : kSt i) : va_up (xe aC ad S c0) i (.inr (3, [.int (gI S i 0), .int (gI S i 1), .int (gI S i 2), .int (gI S i 3), .int (gI S i 4), .int (gI S i 5), .int (gI S i 6), .ref (ad (i + 1))].set 3 (.int x))) = xe aC ad (sI S i 3 x) c0 := by
  refine x_upI (by rw [x_St h]; simp [gI, sI, va_up, upd])
theorem x_putSt_4 {x : Int32} (h : kSt i) : va_up (xe aC ad S c0) i (.inr (3, [.int (gI S i 0), .int (gI S i 1), .int (gI S i 2), .int (gI S i 3), .int (gI S i 4), .int (gI S i 5), .int (gI S i 6), .ref (ad (i + 1))].set 4 (.int x))) = xe aC ad (sI S i 4 x) c0 := by
  refine x_upI (by rw [x_St h]; simp [gI, sI, va_up, upd])
theorem x_putSt_5 {x : Int32} (h : kSt i) : va_up (xe aC ad S c0) i (.inr (3, [.int (gI S i 0), .int (gI S i 1), .int (gI S i 2), .int (gI S i 3), .int (gI S i 4), .int (gI S i 5), .int (gI S i 6), .ref (ad (i + 1))].set 5 (.int x))) = xe aC ad (sI S i 5 x) c0 := by
  refine x_upI (by rw [x_St h]; simp [gI, sI, va_up, upd])
theorem x_putSt_6 {x : Int32} (h : kSt i) : va_up (xe aC ad S c0) i (.inr (3, [.int (gI S i 0), .int (gI S i 1), .int (gI S i 2), .int (gI S i 3), .int (gI S i 4), .int (gI S i 5), .int (gI S i 6), .ref (ad (i + 1))].set 6 (.int x))) = xe aC ad (sI S i 6 x) c0 := by
  refine x_upI (by rw [x_St h]; simp [gI, sI, va_up, upd])
theorem x_putNt_0 {x : Int32} (h : kNt i) : va_up (xe aC ad S c0) i (.inr (2, [.int (gI S i 0), .int (gI S i 1), .int (gI S i 2), .int (gI S i 3), .int (gI S i 4), .int (gI S i 5), .int (gI S i 6), .ref (ad (i + 1)), .ref (ad (i + 2)), .int (gI S i 9)].set 0 (.int x))) = xe aC ad (sI S i 0 x) c0 := by
  refine x_upI (by rw [x_Nt h]; simp [gI, sI, va_up, upd])
theorem x_putNt_1 {x : Int32} (h : kNt i) : va_up (xe aC ad S c0) i (.inr (2, [.int (gI S i 0), .int (gI S i 1), .int (gI S i 2), .int (gI S i 3), .int (gI S i 4), .int (gI S i 5), .int (gI S i 6), .ref (ad (i + 1)), .ref (ad (i + 2)), .int (gI S i 9)].set 1 (.int x))) = xe aC ad (sI S i 1 x) c0 := by
  refine x_upI (by rw [x_Nt h]; simp [gI, sI, va_up, upd])
theorem x_putNt_2 {x : Int32} (h : kNt i) : va_up (xe aC ad S c0) i (.inr (2, [.int (gI S i 0), .int (gI S i 1), .int (gI S i 2), .int (gI S i 3), .int (gI S i 4), .int (gI S i 5), .int (gI S i 6), .ref (ad (i + 1)), .ref (ad (i + 2)), .int (gI S i 9)].set 2 (.int x))) = xe aC ad (sI S i 2 x) c0 := by
  refine x_upI (by rw [x_Nt h]; simp [gI, sI, va_up, upd])
theorem x_putNt_3 {x : Int32} (h : kNt i) : va_up (xe aC ad S c0) i (.inr (2, [.int (gI S i 0), .int (gI S i 1), .int (gI S i 2), .int (gI S i 3), .int (gI S i 4), .int (gI S i 5), .int (gI S i 6), .ref (ad (i + 1)), .ref (ad (i + 2)), .int (gI S i 9)].set 3 (.int x))) = xe aC ad (sI S i 3 x) c0 := by
  refine x_upI (by rw [x_Nt h]; simp [gI, sI, va_up, upd])
theorem x_putNt_4 {x : Int32} (h : kNt i) : va_up (xe aC ad S c0) i (.inr (2, [.int (gI S i 0), .int (gI S i 1), .int (gI S i 2), .int (gI S i 3), .int (gI S i 4), .int (gI S i 5), .int (gI S i 6), .ref (ad (i + 1)), .ref (ad (i + 2)), .int (gI S i 9)].set 4 (.int x))) = xe aC ad (sI S i 4 x) c0 := by
  refine x_upI (by rw [x_Nt h]; simp [gI, sI, va_up, upd])
theorem x_putNt_5 {x : Int32} (h : kNt i) : va_up (xe aC ad S c0) i (.inr (2, [.int (gI S i 0), .int (gI S i 1), .int (gI S i 2), .int (gI S i 3), .int (gI S i 4), .int (gI S i 5), .int (gI S i 6), .ref (ad (i + 1)), .ref (ad (i + 2)), .int (gI S i 9)].set 5 (.int x))) = xe aC ad (sI S i 5 x) c0 := by
  refine x_upI (by rw [x_Nt h]; simp [gI, sI, va_up, upd])
theorem x_putNt_6 {x : Int32} (h : kNt i) : va_up (xe aC ad S c0) i (.inr (2, [.int (gI S i 0), .int (gI S i 1), .int (gI S i 2), .int (gI S i 3), .int (gI S i 4), .int (gI S i 5), .int (gI S i 6), .ref (ad (i + 1)), .ref (ad (i + 2)), .int (gI S i 9)].set 6 (.int x))) = xe aC ad (sI S i 6 x) c0 := by
  refine x_upI (by rw [x_Nt h]; simp [gI, sI, va_up, upd])
theorem x_putNt_9 {x : Int32} (h : kNt i) : va_up (xe aC ad S c0) i (.inr (2, [.int (gI S i 0), .int (gI S i 1), .int (gI S i 2), .int (gI S i 3), .int (gI S i 4), .int (gI S i 5), .int (gI S i 6), .ref (ad (i + 1)), .ref (ad (i + 2)), .int (gI S i 9)].set 9 (.int x))) = xe aC ad (sI S i 9 x) c0 := by
  refine x_upI (by rw [x_Nt h]; simp [gI, sI, va_up, upd])
theorem x_putRM_4 {x : Int32} : va_up (xe aC ad S c0) 0 (.inr (5, [.ref (ad 1), .ref (ad 104), .ref (ad 122), .ref (ad 123), .int (gI S 0 4), .int (gI S 0 5)].set 4 (.int x))) = xe aC ad (sI S 0 4 x) c0 := by
  refine x_upI (by rw [x_RM]; simp [gI, sI, va_up, upd, gN])
theorem x_putRM_5 {x : Int32} : va_up (xe aC ad S c0) 0 (.inr (5, [.ref (ad 1), .ref (ad 104), .ref (ad 122), .ref (ad 123), .int (gI S 0 4), .int (gI S 0 5)].set 5 (.int x))) = xe aC ad (sI S 0 5 x) c0 := by
  refine x_upI (by rw [x_RM]; simp [gI, sI, va_up, upd, gN])
theorem x_putMa_4 {x : Int32} : va_up (xe aC ad S c0) 1 (.inr (1, [.ref (ad 2), .ref (ad 3), .ref (ad 4), .ref (ad 6), .int (gI S 1 4), .ref (ad (iN (gN S)))].set 4 (.int x))) = xe aC ad (sI S 1 4 x) c0 := by
  refine x_upI (by rw [x_Ma]; simp [gI, sI, va_up, upd, gN])
theorem x_putUn_1 {x : Int32} : va_up (xe aC ad S c0) 6 (.inr (4, [.ref (ad 7), .int (gI S 6 1), .int (gI S 6 2)].set 1 (.int x))) = xe aC ad (sI S 6 1 x) c0 := by
  refine x_upI (by rw [x_Un]; simp [gI, sI, va_up, upd, gN])
theorem x_putUn_2 {x : Int32} : va_up (xe aC ad S c0) 6 (.inr (4, [.ref (ad 7), .int (gI S 6 1), .int (gI S 6 2)].set 2 (.int x))) = xe aC ad (sI S 6 2 x) c0 := by
  refine x_upI (by rw [x_Un]; simp [gI, sI, va_up, upd, gN])
theorem x_putCp_1 {x : Int32} : va_up (xe aC ad S c0) 104 (.inr (0, [.ref (ad 105), .int (gI S 104 1), .int (gI S 104 2)].set 1 (.int x))) = xe aC ad (sI S 104 1 x) c0 := by
  refine x_upI (by rw [x_Cp]; simp [gI, sI, va_up, upd, gN])
theorem x_putCp_2 {x : Int32} : va_up (xe aC ad S c0) 104 (.inr (0, [.ref (ad 105), .int (gI S 104 1), .int (gI S 104 2)].set 2 (.int x))) = xe aC ad (sI S 104 2 x) c0 := by
  refine x_upI (by rw [x_Cp]; simp [gI, sI, va_up, upd, gN])
theorem x_putMa_5 {k : Nat} : va_up (xe aC ad S c0) 1 (.inr (1, [.ref (ad 2), .ref (ad 3), .ref (ad 4), .ref (ad 6), .int (gI S 1 4), .ref (ad (iN (gN S)))].set 5 (.ref (ad (iN k))))) = xe aC ad (sN S k) c0 := by
  funext j
  by_cases hj : j = 1
  · subst hj; rw [x_Ma]; simp [va_up, gI, sN, gN, iN_mod]
  · show (if j = 1 then _ else xe aC ad S c0 j) = xe aC ad (sN S k) c0 j
    rw [if_neg hj]
    unfold xe
    show xc aC ad j (gI S j) (gR S j) (gK S) (gN S) (c0 j) = xc aC ad j (gI S j) (gR S j) (gK S) (gN (sN S k)) (c0 j)
    unfold xc
    rw [if_neg hj, if_neg hj]
theorem x_ast_code {f : Nat → Int32} : va_up (xe aC ad S c0) 2 (.inl (aC 0, 64, .inl f)) = xe aC ad (sR S 2 f) c0 := x_upR (by rw [x_code]; simp [gR, sR, va_up])
theorem x_ast_inp {f : Nat → Int32} : va_up (xe aC ad S c0) 3 (.inl (aC 0, 40, .inl f)) = xe aC ad (sR S 3 f) c0 := x_upR (by rw [x_inp]; simp [gR, sR, va_up])
theorem x_ast_brk {f : Nat → Int32} : va_up (xe aC ad S c0) 122 (.inl (aC 1, 64, .inl f)) = xe aC ad (sR S 122 f) c0 := x_upR (by rw [x_brk]; simp [gR, sR, va_up])
theorem x_ast_wat {f : Nat → Int32} : va_up (xe aC ad S c0) 123 (.inl (aC 1, 32, .inl f)) = xe aC ad (sR S 123 f) c0 := x_upR (by rw [x_wat]; simp [gR, sR, va_up])
theorem x_ast_mem {f : Nat → Int32} (h : kSt i) : va_up (xe aC ad S c0) (i + 1) (.inl (aC 0, 56, .inl f)) = xe aC ad (sR S (i + 1) f) c0 := x_upR (by rw [x_mem h]; simp [gR, sR, va_up])
theorem x_ast_pl {f : Nat → Int32} (h : kNt i) : va_up (xe aC ad S c0) (i + 1) (.inl (aC 0, 2, .inl f)) = xe aC ad (sR S (i + 1) f) c0 := x_upR (by rw [x_pl h]; simp [gR, sR, va_up])
theorem x_ast_wd {f : Nat → Int32} (h : kNt i) : va_up (xe aC ad S c0) (i + 2) (.inl (aC 0, 2, .inl f)) = xe aC ad (sR S (i + 2) f) c0 := x_upR (by rw [x_wd h]; simp [gR, sR, va_up])
end XW
