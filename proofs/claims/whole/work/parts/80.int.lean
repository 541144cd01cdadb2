/-! small numbers as ints; reads of a store behind writes -/
theorem n32_toInt {n : Nat} (h : n < 2147483648) : (Int32.ofNat n).toInt = (n : Int) := Int32.toInt_ofNat_of_lt (by omega)
theorem n32_clamp {n : Nat} (h : n < 2147483648) : (Int32.ofNat n).toNatClampNeg = n := Int32.toNatClampNeg_ofNat_of_lt (by omega)
theorem n32_lt {a b : Nat} (ha : a < 2147483648) (hb : b < 2147483648) : (Int32.ofNat a < Int32.ofNat b) ↔ a < b := by
  rw [Int32.lt_iff_toInt_lt, n32_toInt ha, n32_toInt hb]; omega
theorem n32_le {a b : Nat} (ha : a < 2147483648) (hb : b < 2147483648) : (Int32.ofNat a ≤ Int32.ofNat b) ↔ a ≤ b := by
  rw [Int32.le_iff_toInt_le, n32_toInt ha, n32_toInt hb]; omega
theorem n32_eq {a b : Nat} (ha : a < 2147483648) (hb : b < 2147483648) : (Int32.ofNat a = Int32.ofNat b) ↔ a = b := by
  rw [← Int32.toInt_inj, n32_toInt ha, n32_toInt hb]; omega
theorem n32_add (a b : Nat) : Int32.ofNat a + Int32.ofNat b = Int32.ofNat (a + b) := (Int32.ofNat_add a b).symm
theorem n32_mul (a b : Nat) : Int32.ofNat a * Int32.ofNat b = Int32.ofNat (a * b) := (Int32.ofNat_mul a b).symm
theorem n32_sub {a b : Nat} (h : b ≤ a) : Int32.ofNat a - Int32.ofNat b = Int32.ofNat (a - b) := by
  rw [Int32.sub_eq_iff_eq_add, n32_add]
  congr 1
  omega
theorem n32_div {a b : Nat} (ha : a < 2147483648) (hb : b < 2147483648) : Int32.ofNat a / Int32.ofNat b = Int32.ofNat (a / b) := by
  have h3 : a / b ≤ a := Nat.div_le_self a b
  rw [← Int32.toInt_inj, n32_toInt (by omega), Int32.toInt_div, n32_toInt ha, n32_toInt hb]
  have h4 : (a : Int).tdiv (b : Int) = ((a / b : Nat) : Int) := rfl
  rw [h4]
  generalize a / b = q at h3 ⊢
  rw [Int.bmod_eq_of_le (by omega) (by omega)]
theorem n32_rem {a b : Nat} (ha : a < 2147483648) (hb : b < 2147483648) : Int32.ofNat a - Int32.ofNat a / Int32.ofNat b * Int32.ofNat b = Int32.ofNat (a % b) := by
  have h1 : a / b * b ≤ a := Nat.div_mul_le_self a b
  rw [n32_div ha hb, n32_mul, n32_sub h1]
  congr 1
  have := Nat.div_add_mod a b
  rw [Nat.mul_comm] at this
  omega
theorem n32_of {x : Int32} (h : ¬ x < 0) : ∃ n, n < 2147483648 ∧ x = Int32.ofNat n := by
  have h1 : ¬ x.toInt < 0 := fun z => h (Int32.lt_iff_toInt_lt.mpr (by simpa using z))
  have h2 : x.toInt < 2147483648 := by
    have := Int32.toInt_lt x
    omega
  refine ⟨x.toInt.toNat, by omega, ?_⟩
  rw [← Int32.toInt_inj, n32_toInt (by omega)]
  omega
theorem n32_nneg {n : Nat} (h : n < 2147483648) : ¬ Int32.ofNat n < 0 := by
  rw [show (0 : Int32) = Int32.ofNat 0 from rfl, n32_lt h (by decide)]; omega
theorem vin_of {k n : Nat} (h : k < n) (hn : n < 2147483648) : vp_in (Int32.ofNat k) n := by
  rintro (h2 | h2)
  · exact n32_nneg (by omega) h2
  · rw [n32_clamp (by omega)] at h2; omega
theorem vin_get {x : Int32} {n : Nat} (h : vp_in x n) : ∃ k, k < n ∧ k < 2147483648 ∧ x = Int32.ofNat k := by
  have h1 : ¬ x < 0 := fun z => h (Or.inl z)
  obtain ⟨k, hk, rfl⟩ := n32_of h1
  refine ⟨k, ?_, hk, rfl⟩
  have h2 : ¬ n ≤ (Int32.ofNat k).toNatClampNeg := fun z => h (Or.inr z)
  rw [n32_clamp hk] at h2
  omega
/-- within: yes or no -/
theorem wi_cases (x k : Int32) : (f_RM_within x k = 0 ∧ (x < 0 ∨ k ≤ x)) ∨ (f_RM_within x k = 1 ∧ ¬ x < 0 ∧ ¬ k ≤ x) := by
  unfold f_RM_within
  by_cases h1 : x < 0
  · left; rw [if_pos h1]; exact ⟨rfl, Or.inl h1⟩
  · by_cases h2 : k ≤ x
    · left; rw [if_neg h1, if_pos h2]; exact ⟨rfl, Or.inr h2⟩
    · right; rw [if_neg h1, if_neg h2]; exact ⟨rfl, h1, h2⟩
theorem wi_get {x : Int32} {n : Nat} (hn : n < 2147483648) (h : ¬ f_RM_within x (Int32.ofNat n) = 0) : ∃ k, k < n ∧ x = Int32.ofNat k := by
  rcases wi_cases x (Int32.ofNat n) with ⟨h1, -⟩ | ⟨-, h2, h3⟩
  · exact absurd h1 h
  · obtain ⟨k, hk, rfl⟩ := n32_of h2
    rw [n32_le hn hk] at h3
    exact ⟨k, by omega, rfl⟩
theorem wi_in {k n : Nat} (h : k < n) (hn : n < 2147483648) : f_RM_within (Int32.ofNat k) (Int32.ofNat n) = 1 := by
  rcases wi_cases (Int32.ofNat k) (Int32.ofNat n) with ⟨-, h1 | h1⟩ | ⟨h1, -⟩
  · exact absurd h1 (n32_nneg (by omega))
  · rw [n32_le hn (by omega)] at h1; omega
  · exact h1
theorem gI_sI (S : xS) (i k i' k' : Nat) (x : Int32) : gI (sI S i k x) i' k' = if i' = i ∧ k' = k then x else gI S i' k' := by
  unfold gI sI va_up upd
  by_cases h1 : i' = i
  · subst h1
    by_cases h2 : k' = k
    · simp [h2]
    · simp [h2]
  · simp [h1]
theorem gI_sR (S : xS) (i : Nat) (f : Nat → Int32) (i' k' : Nat) : gI (sR S i f) i' k' = gI S i' k' := rfl
theorem gI_sK (S : xS) (j x i' k' : Nat) : gI (sK S j x) i' k' = gI S i' k' := rfl
theorem gI_sN (S : xS) (x i' k' : Nat) : gI (sN S x) i' k' = gI S i' k' := rfl
theorem gR_sI (S : xS) (i k i' : Nat) (x : Int32) : gR (sI S i k x) i' = gR S i' := rfl
theorem gR_sR (S : xS) (i i' : Nat) (f : Nat → Int32) : gR (sR S i f) i' = if i' = i then f else gR S i' := by
  unfold gR sR va_up; rfl
theorem gR_sK (S : xS) (j x i' : Nat) : gR (sK S j x) i' = gR S i' := rfl
theorem gR_sN (S : xS) (x i' : Nat) : gR (sN S x) i' = gR S i' := rfl
theorem gK_sI (S : xS) (i k : Nat) (x : Int32) : gK (sI S i k x) = gK S := rfl
theorem gK_sR (S : xS) (i : Nat) (f : Nat → Int32) : gK (sR S i f) = gK S := rfl
theorem gK_sN (S : xS) (x : Nat) : gK (sN S x) = gK S := rfl
theorem gK_sK (S : xS) (j x j' : Nat) : gK (sK S j x) j' = if j' = j then x % 8 else gK S j' := by
  unfold gK sK va_up
  by_cases h : j' = j <;> simp [h]
theorem gN_sI (S : xS) (i k : Nat) (x : Int32) : gN (sI S i k x) = gN S := rfl
theorem gN_sR (S : xS) (i : Nat) (f : Nat → Int32) : gN (sR S i f) = gN S := rfl
theorem gN_sK (S : xS) (j x : Nat) : gN (sK S j x) = gN S := rfl
theorem gN_sN (S : xS) (x : Nat) : gN (sN S x) = x % 32 := rfl
theorem upd_self (f : Nat → Int32) (k : Nat) (x : Int32) : upd f k x k = x := by simp [upd]
theorem upd_ne (f : Nat → Int32) {k j : Nat} (x : Int32) (h : j ≠ k) : upd f k x j = f j := by simp [upd, h]
theorem upd_upd (f : Nat → Int32) (k : Nat) (x y : Int32) : upd (upd f k x) k y = upd f k y := by
  funext j
  by_cases h : j = k <;> simp [upd, h]
theorem upd_back (f : Nat → Int32) (k : Nat) (x : Int32) : upd (upd f k x) k (f k) = f := by
  funext j
  by_cases h : j = k <;> simp [upd, h]
theorem px_let_id {α β : Type} (a : α) (f : α → β) : px_let a f = f a := rfl
