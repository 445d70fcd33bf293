/-! numbers of the machine as whole numbers -/
theorem bmod64 {x : Int} (h1 : -9223372036854775808 ≤ x) (h2 : x < 9223372036854775808) : x.bmod (2 ^ 64) = x := by
  rw [Int.bmod_def]
  split <;> omega
theorem bmod32 {x : Int} (h1 : -2147483648 ≤ x) (h2 : x < 2147483648) : x.bmod (2 ^ 32) = x := by
  rw [Int.bmod_def]
  split <;> omega
theorem L_lo (x : Int64) : -9223372036854775808 ≤ x.toInt := x.le_toInt
theorem L_hi (x : Int64) : x.toInt < 9223372036854775808 := by
  have := x.toInt_lt
  simpa using this
theorem I_lo (x : Int32) : -2147483648 ≤ x.toInt := x.le_toInt
theorem I_hi (x : Int32) : x.toInt < 2147483648 := by
  have := x.toInt_lt
  simpa using this
theorem L_add {x y : Int64} (h1 : -9223372036854775808 ≤ x.toInt + y.toInt) (h2 : x.toInt + y.toInt < 9223372036854775808) : (x + y).toInt = x.toInt + y.toInt := by
  rw [Int64.toInt_add]
  exact bmod64 h1 h2
theorem L_sub {x y : Int64} (h1 : -9223372036854775808 ≤ x.toInt - y.toInt) (h2 : x.toInt - y.toInt < 9223372036854775808) : (x - y).toInt = x.toInt - y.toInt := by
  rw [Int64.toInt_sub]
  exact bmod64 h1 h2
theorem L_mul {x y : Int64} (h1 : -9223372036854775808 ≤ x.toInt * y.toInt) (h2 : x.toInt * y.toInt < 9223372036854775808) : (x * y).toInt = x.toInt * y.toInt := by
  rw [Int64.toInt_mul]
  exact bmod64 h1 h2
theorem L_neg {x : Int64} (h : x.toInt ≠ -9223372036854775808) : (-x).toInt = -x.toInt := by
  rw [Int64.toInt_neg]
  have h1 := L_lo x
  have h2 := L_hi x
  exact bmod64 (by omega) (by omega)
theorem L_div {x y : Int64} (h : ¬ (x.toInt = -9223372036854775808 ∧ y.toInt = -1)) : (x / y).toInt = x.toInt.tdiv y.toInt := by
  rw [Int64.toInt_div]
  have h1 := L_lo x
  have h2 := L_hi x
  have h3 : (x.toInt.tdiv y.toInt).natAbs ≤ x.toInt.natAbs := by
    rw [Int.natAbs_tdiv]
    exact Nat.div_le_self _ _
  refine bmod64 (by omega) ?_
  by_cases h4 : x.toInt.tdiv y.toInt = 9223372036854775808
  · exfalso
    have h5 : x.toInt = -9223372036854775808 := by omega
    apply h
    refine ⟨h5, ?_⟩
    have h6 := Int.mul_tdiv_add_tmod x.toInt y.toInt
    rw [h4, h5] at h6
    have h7 : (Int.tmod (-9223372036854775808) y.toInt) = 0 ∨ (Int.tmod (-9223372036854775808) y.toInt).natAbs < y.toInt.natAbs := by
      by_cases hy : y.toInt = 0
      · rw [hy, Int.tdiv_zero] at h4
        omega
      · right
        rw [Int.natAbs_tmod]
        exact Nat.mod_lt _ (by omega)
    have h8 := L_lo y
    have h9 := L_hi y
    rcases h7 with h7 | h7
    · rw [h7] at h6
      omega
    · omega
  · omega
theorem I_add {x y : Int32} (h1 : -2147483648 ≤ x.toInt + y.toInt) (h2 : x.toInt + y.toInt < 2147483648) : (x + y).toInt = x.toInt + y.toInt := by
  rw [Int32.toInt_add]
  exact bmod32 h1 h2
theorem I_sub {x y : Int32} (h1 : -2147483648 ≤ x.toInt - y.toInt) (h2 : x.toInt - y.toInt < 2147483648) : (x - y).toInt = x.toInt - y.toInt := by
  rw [Int32.toInt_sub]
  exact bmod32 h1 h2
theorem I_mul {x y : Int32} (h1 : -2147483648 ≤ x.toInt * y.toInt) (h2 : x.toInt * y.toInt < 2147483648) : (x * y).toInt = x.toInt * y.toInt := by
  rw [Int32.toInt_mul]
  exact bmod32 h1 h2
theorem I_neg {x : Int32} (h : x.toInt ≠ -2147483648) : (-x).toInt = -x.toInt := by
  rw [Int32.toInt_neg]
  have h1 := I_lo x
  have h2 := I_hi x
  exact bmod32 (by omega) (by omega)
theorem IL (x : Int32) : x.toInt64.toInt = x.toInt := Int32.toInt_toInt64 x
theorem LI {x : Int64} (h1 : -2147483648 ≤ x.toInt) (h2 : x.toInt < 2147483648) : x.toInt32.toInt = x.toInt := by
  rw [Int64.toInt_toInt32]
  exact bmod32 h1 h2
theorem L_toNat {x : Int64} (h : 0 ≤ x.toInt) : (x.toUInt64.toNat : Int) = x.toInt := by
  have h1 : x.toUInt64.toNat = x.toBitVec.toNat := rfl
  have h2 : x.toInt = x.toBitVec.toInt := rfl
  rw [h1, h2]
  rw [h2] at h
  rw [BitVec.toInt_eq_toNat_bmod] at h ⊢
  have h3 := x.toBitVec.isLt
  rw [Int.bmod_def] at h ⊢
  split <;> omega
/-- the low 28 bits -/
theorem L_mask {x : Int64} (h : 0 ≤ x.toInt) : (x &&& 268435455).toInt = x.toInt % 268435456 := by
  have h0 := L_toNat h
  have e : (x &&& 268435455).toUInt64 = x.toUInt64 &&& 268435455 := by
    apply UInt64.toBitVec_inj.mp
    rfl
  have e2 : (x &&& 268435455).toUInt64.toNat = x.toUInt64.toNat % 268435456 := by
    rw [e, UInt64.toNat_and]
    exact Nat.and_two_pow_sub_one_eq_mod (n := 28) _
  have h5 : 0 ≤ (x &&& 268435455).toInt := by
    have h2 : (x &&& 268435455).toInt = (x &&& 268435455).toBitVec.toInt := rfl
    have h6 : (x &&& 268435455).toBitVec.toNat = x.toUInt64.toNat % 268435456 := e2
    rw [h2, BitVec.toInt_eq_toNat_bmod, h6, Int.bmod_def]
    have := Nat.mod_lt x.toUInt64.toNat (show 268435456 > 0 by decide)
    split <;> omega
  have h7 := L_toNat h5
  rw [← h7, e2, ← h0]
  rfl
/-- 28 bits down, without sign -/
theorem L_ushr {x : Int64} {k : Nat} {s : Int32} (hs : s.toInt = k) (hk : k < 64) (h : 0 ≤ x.toInt) : (x.toUInt64 >>> (s.toInt64.toUInt64 &&& Int64.toUInt64 63)).toInt64.toInt = x.toInt / 2 ^ k := by
  have h0 := L_toNat h
  have hsn : s.toInt64.toUInt64.toNat = k := by
    have h1 := L_toNat (x := s.toInt64) (by rw [IL, hs]; omega)
    rw [IL, hs] at h1
    omega
  have hm : (s.toInt64.toUInt64 &&& Int64.toUInt64 63).toNat = k := by
    rw [UInt64.toNat_and, hsn]
    show k &&& 63 = k
    rw [show (63 : Nat) = 2 ^ 6 - 1 by decide, Nat.and_two_pow_sub_one_eq_mod]
    omega
  have e2 : (x.toUInt64 >>> (s.toInt64.toUInt64 &&& Int64.toUInt64 63)).toNat = x.toUInt64.toNat / 2 ^ k := by
    rw [UInt64.toNat_shiftRight, hm, Nat.mod_eq_of_lt hk, Nat.shiftRight_eq_div_pow]
  have hb := L_hi x
  have h6 : (x.toUInt64 >>> (s.toInt64.toUInt64 &&& Int64.toUInt64 63)).toInt64.toBitVec.toNat = x.toUInt64.toNat / 2 ^ k := e2
  show ((x.toUInt64 >>> (s.toInt64.toUInt64 &&& Int64.toUInt64 63)).toInt64.toBitVec).toInt = _
  rw [BitVec.toInt_eq_toNat_bmod, h6]
  have hd : x.toUInt64.toNat / 2 ^ k ≤ x.toUInt64.toNat := Nat.div_le_self _ _
  have e9 : ((x.toUInt64.toNat / 2 ^ k : Nat) : Int) = x.toInt / 2 ^ k := by
    rw [← h0]
    simp
  rw [e9]
  have h10 : x.toInt / 2 ^ k ≤ x.toInt := by
    rw [← e9]
    omega
  have h11 : 0 ≤ x.toInt / 2 ^ k := by
    rw [← e9]
    omega
  exact bmod64 (by omega) (by omega)
theorem L0 {x : Int64} : x.toInt = 0 ↔ x = 0 := ⟨fun h => Int64.toInt_inj.mp (h.trans (by decide)), fun h => by rw [h]; decide⟩
theorem I0 {x : Int32} : x.toInt = 0 ↔ x = 0 := ⟨fun h => Int32.toInt_inj.mp (h.trans (by decide)), fun h => by rw [h]; decide⟩
