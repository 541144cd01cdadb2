/-! the bits of a word: the operation, the number, the random draw -/
theorem and31 (w : Int32) : ∃ j, j < 32 ∧ w &&& 31 = Int32.ofNat j := by
  refine ⟨w.toBitVec.toNat &&& 31, Nat.lt_succ_of_le Nat.and_le_right, ?_⟩
  apply Int32.toBitVec_inj.mp
  apply BitVec.eq_of_toNat_eq
  have h : (w &&& 31).toBitVec = w.toBitVec &&& 31#32 := rfl
  have h2 : (Int32.ofNat (w.toBitVec.toNat &&& 31)).toBitVec = BitVec.ofNat 32 (w.toBitVec.toNat &&& 31) := rfl
  have h3 : w.toBitVec.toNat &&& 31 ≤ 31 := Nat.and_le_right
  rw [h, h2, BitVec.toNat_and, BitVec.toNat_ofNat, BitVec.toNat_ofNat]
  show w.toBitVec.toNat &&& 31 = _
  rw [Nat.mod_eq_of_lt (by omega)]
theorem shr5 (w : Int32) : -67108864 ≤ (w >>> ((5 : Int32) &&& 31)).toInt ∧ (w >>> ((5 : Int32) &&& 31)).toInt < 67108864 := by
  have h : (w >>> ((5 : Int32) &&& 31)).toInt = w.toInt >>> 5 := by
    show (w.toBitVec.sshiftRight' (((5 : Int32) &&& 31).toBitVec.smod 32)).toInt = _
    rw [BitVec.toInt_sshiftRight']
    rfl
  rw [h, Int.shiftRight_eq_div_pow]
  have h1 := Int32.toInt_lt w
  have h2 := Int32.le_toInt w
  omega
theorem ush16 (x : Int32) : (x.toUInt32 >>> ((16 : Int32).toUInt32 &&& Int32.toUInt32 31)).toInt32 = (x >>> ((16 : Int32) &&& 31)) &&& 65535 := by
  apply Int32.toBitVec_inj.mp
  have e1 : (x.toUInt32 >>> ((16 : Int32).toUInt32 &&& Int32.toUInt32 31)).toInt32.toBitVec = x.toBitVec >>> 16 := by
    show x.toBitVec >>> _ = x.toBitVec >>> 16
    rfl
  have e2 : ((x >>> ((16 : Int32) &&& 31)) &&& 65535).toBitVec = (x.toBitVec.sshiftRight 16) &&& 65535#32 := by
    show (x.toBitVec.sshiftRight' (((16 : Int32) &&& 31).toBitVec.smod 32)) &&& 65535#32 = _
    rfl
  rw [e1, e2]
  apply BitVec.eq_of_getLsbD_eq
  intro i hi
  rw [BitVec.getLsbD_and, BitVec.getLsbD_ushiftRight, BitVec.getLsbD_sshiftRight]
  have h5 : (65535#32).getLsbD i = decide (i < 16) := (by decide +kernel : ∀ j, j < 32 → (65535#32).getLsbD j = decide (j < 16)) i hi
  rw [h5]
  by_cases h : i < 16
  · have h6 : 16 + i < 32 := by omega
    have h7 : ¬ 32 ≤ i := by omega
    simp [h, h6, h7]
  · have h6 : ¬ 16 + i < 32 := by omega
    simp [h]
    exact BitVec.getLsbD_of_ge _ _ (by omega)
theorem sub_cases (a b : Int32) : ((a - b).toInt = a.toInt - b.toInt) ∨ (2147483648 ≤ a.toInt - b.toInt ∧ (a - b).toInt = a.toInt - b.toInt - 4294967296) ∨ (a.toInt - b.toInt < -2147483648 ∧ (a - b).toInt = a.toInt - b.toInt + 4294967296) := by
  have h1 := Int32.toInt_lt a
  have h2 := Int32.le_toInt a
  have h3 := Int32.toInt_lt b
  have h4 := Int32.le_toInt b
  rw [Int32.toInt_sub]
  by_cases c1 : 2147483648 ≤ a.toInt - b.toInt
  · right; left
    refine ⟨c1, ?_⟩
    rw [← Int.sub_bmod_right, Int.bmod_eq_of_le (by omega) (by omega)]
    rfl
  · by_cases c2 : a.toInt - b.toInt < -2147483648
    · right; right
      refine ⟨c2, ?_⟩
      rw [← Int.add_bmod_right, Int.bmod_eq_of_le (by omega) (by omega)]
      rfl
    · left
      rw [Int.bmod_eq_of_le (by omega) (by omega)]
/-- the argument's place: N is too small for a difference that wraps to hit the stack -/
theorem arg_eq {D k : Int32} {h : Nat} (hh : h ≤ 24) (hk : -67108864 ≤ k.toInt ∧ k.toInt < 67108864) : (f_RM_within (D - k) (Int32.ofNat h) = 0) ↔ (D < k ∨ k ≤ D - Int32.ofNat h) := by
  have hh2 := n32_toInt (n := h) (by omega)
  have d1 := Int32.toInt_lt D
  have d2 := Int32.le_toInt D
  have s1 := sub_cases D k
  have s2 := sub_cases D (Int32.ofNat h)
  have key : (D < k ∨ k ≤ D - Int32.ofNat h) ↔ (D - k < 0 ∨ Int32.ofNat h ≤ D - k) := by
    rw [Int32.lt_iff_toInt_lt, Int32.le_iff_toInt_le, Int32.lt_iff_toInt_lt, Int32.le_iff_toInt_le]
    have z : (0 : Int32).toInt = 0 := rfl
    rw [z]
    rw [hh2] at s2 ⊢
    generalize (D - k).toInt = X at *
    generalize (D - Int32.ofNat h).toInt = Y at *
    omega
  rw [key]
  rcases wi_cases (D - k) (Int32.ofNat h) with ⟨h1, h2⟩ | ⟨h1, h2, h3⟩
  · exact ⟨fun _ => h2, fun _ => h1⟩
  · refine ⟨fun h0 => absurd (h1.symm.trans h0) (by decide), fun h0 => ?_⟩
    rcases h0 with h0 | h0
    · exact absurd h0 h2
    · exact absurd h0 h3
