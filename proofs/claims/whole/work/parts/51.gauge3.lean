/-! Gauge: guessRoot is never above the root -/
theorem L_shrk {x : Int64} {s : Int32} {k : Nat} (hs : s.toInt = k) (hk : k < 64) : (x >>> (s.toInt64 &&& 63)).toInt = x.toInt / 2 ^ k := by
  have es : s = nI k := Int32.toInt_inj.mp (by rw [hs, nI_toInt (by omega)])
  subst es
  have e1 : ∀ k : Fin 64, (((nI k.1).toInt64 &&& 63).toBitVec.smod 64#64).toNat = k.1 := by decide +kernel
  have e2 := e1 ⟨k, hk⟩
  show (x.toBitVec.sshiftRight ((((nI k).toInt64 &&& 63).toBitVec.smod 64#64).toNat)).toInt = x.toBitVec.toInt / 2 ^ k
  rw [e2, BitVec.toInt_sshiftRight, Int.shiftRight_eq_div_pow]
  simp
theorem td2 (a : Int) : a.tdiv 2 = if 0 ≤ a then a / 2 else -((-a) / 2) := by
  split
  · rename_i h
    exact Int.tdiv_eq_ediv_of_nonneg h
  · rename_i h
    have e : a = -(-a) := by omega
    rw [e, Int.neg_tdiv, Int.tdiv_eq_ediv_of_nonneg (by omega), Int.neg_neg]
theorem I_td2 (x : Int32) : (x / nI 2).toInt = x.toInt.tdiv 2 := by
  rw [Int32.toInt_div, show (nI 2).toInt = 2 by decide]
  have h1 := I_lo x
  have h2 := I_hi x
  have h3 := td2 x.toInt
  exact bmod32 (by rw [h3]; split <;> omega) (by rw [h3]; split <;> omega)
theorem I_tm2 (x : Int32) : (x - x / nI 2 * nI 2).toInt = x.toInt - x.toInt.tdiv 2 * 2 := by
  have h1 := I_lo x
  have h2 := I_hi x
  have h3 := td2 x.toInt
  have e2 : (nI 2).toInt = 2 := by decide
  have e : (x / nI 2 * nI 2).toInt = x.toInt.tdiv 2 * 2 := by
    rw [I_mul (by rw [I_td2, e2, h3]; split <;> omega) (by rw [I_td2, e2, h3]; split <;> omega), I_td2, e2]
  rw [I_sub (by rw [e, h3]; split <;> omega) (by rw [e, h3]; split <;> omega), e]
def gI (B E i h e : Nat) : Prop := (h * 2 ^ e) ^ (2 ^ i) ≤ B * (2 ^ E) ^ (2 ^ i)
theorem pow2s (a i : Nat) : a ^ (2 ^ (i + 1)) = (a * a) ^ (2 ^ i) := by
  rw [Nat.pow_succ, Nat.mul_comm, Nat.pow_mul, Nat.pow_two]
theorem gI_step {B E i h e r e' : Nat} (hr : r * r ≤ h) (he : 2 * (e' + 30) = e + E) (H : gI B E i h e) : gI B E (i + 1) (r * 1073741824) e' := by
  unfold gI at H ⊢
  have e1 : r * 1073741824 * 2 ^ e' = r * 2 ^ (e' + 30) := by
    rw [Nat.pow_add, show (1073741824 : Nat) = 2 ^ 30 by decide, Nat.mul_assoc, Nat.mul_comm (2 ^ 30)]
  have e2 : r * 2 ^ (e' + 30) * (r * 2 ^ (e' + 30)) = r * r * (2 ^ e * 2 ^ E) := by
    rw [← Nat.pow_add, ← he, Nat.two_mul, Nat.pow_add 2 (e' + 30) (e' + 30)]
    generalize (2 : Nat) ^ (e' + 30) = A
    grind
  rw [pow2s, pow2s, e1, e2]
  have h1 : r * r * (2 ^ e * 2 ^ E) ≤ h * 2 ^ e * 2 ^ E := by
    rw [Nat.mul_assoc h]
    exact Nat.mul_le_mul_right _ hr
  refine Nat.le_trans (Nat.pow_le_pow_left h1 _) ?_
  rw [Nat.mul_pow (h * 2 ^ e), Nat.mul_pow (2 ^ E), ← Nat.mul_assoc]
  exact Nat.mul_le_mul_right _ H
theorem gI_dbl {B E i h e : Nat} (H : gI B E i h (e + 1)) : gI B E i (h * 2) e := by
  unfold gI at H ⊢
  rw [Nat.mul_assoc, ← Nat.pow_succ']
  exact H
theorem gI_end {B E i h e k g : Nat} (H : gI B E i h e) (hk : e + k = E) (hg : g * 2 ^ k ≤ h) : g ^ (2 ^ i) ≤ B := by
  unfold gI at H
  have h1 : g * 2 ^ E ≤ h * 2 ^ e := by
    rw [← hk, Nat.pow_add, Nat.mul_comm (2 ^ e), ← Nat.mul_assoc]
    exact Nat.mul_le_mul_right _ hg
  have h2 := Nat.le_trans (Nat.pow_le_pow_left h1 (2 ^ i)) H
  rw [Nat.mul_pow] at h2
  exact Nat.le_of_mul_le_mul_right h2 (Nat.pow_pos (Nat.two_pow_pos E))
theorem gI_big {B E i h e g : Nat} (H : gI B E i h e) (hk : E ≤ e) (hg : g ≤ h) : g ^ (2 ^ i) ≤ B := by
  unfold gI at H
  have h1 : g * 2 ^ E ≤ h * 2 ^ e := Nat.mul_le_mul hg (Nat.pow_le_pow_right (by decide) hk)
  have h2 := Nat.le_trans (Nat.pow_le_pow_left h1 (2 ^ i)) H
  rw [Nat.mul_pow] at h2
  exact Nat.le_of_mul_le_mul_right h2 (Nat.pow_pos (Nat.two_pow_pos E))
theorem gI_first {B E i h c e : Nat} (H : h * 268435456 ^ c ≤ B) (he : e + 2 * i = 28 * c + E) : gI B E 0 (h * 4 ^ i) e := by
  unfold gI
  rw [show (2 : Nat) ^ 0 = 1 by decide, Nat.pow_one, Nat.pow_one]
  have e1 : (4 : Nat) ^ i * 2 ^ e = 268435456 ^ c * 2 ^ E := by
    rw [show (4 : Nat) = 2 ^ 2 by decide, show (268435456 : Nat) = 2 ^ 28 by decide, ← Nat.pow_mul, ← Nat.pow_mul, ← Nat.pow_add, ← Nat.pow_add]
    congr 1
    omega
  rw [Nat.mul_assoc, e1, ← Nat.mul_assoc]
  exact Nat.mul_le_mul_right _ H
theorem L_shl1 {x : Int64} (h0 : 0 ≤ x.toInt) (h1 : x.toInt * 2 < 9223372036854775808) : (x <<< ((nI 1).toInt64 &&& 63)).toInt = x.toInt * 2 := by
  have hx0 := L_toNat h0
  have e : (x <<< ((nI 1).toInt64 &&& 63)).toBitVec.toNat = x.toUInt64.toNat * 2 := by
    have h2 : (x <<< ((nI 1).toInt64 &&& 63)).toBitVec = x.toBitVec <<< 1 := by
      have : (nI 1).toInt64 &&& 63 = 1 := by decide
      rw [this]
      show x.toBitVec <<< ((1 : Int64).toBitVec.smod 64#64) = _
      rfl
    rw [h2, BitVec.toNat_shiftLeft, Nat.shiftLeft_eq]
    show x.toUInt64.toNat * 2 ^ 1 % 2 ^ 64 = _
    rw [Nat.mod_eq_of_lt (by omega)]
  show (x <<< ((nI 1).toInt64 &&& 63)).toBitVec.toInt = _
  rw [BitVec.toInt_eq_toNat_bmod, e]
  rw [bmod64 (by omega) (by omega)]
  omega
theorem L_shl2 {x : Int64} (h0 : 0 ≤ x.toInt) (h1 : x.toInt * 4 < 9223372036854775808) : (x <<< ((nI 2).toInt64 &&& 63)).toInt = x.toInt * 4 := by
  have hx0 := L_toNat h0
  have e : (x <<< ((nI 2).toInt64 &&& 63)).toBitVec.toNat = x.toUInt64.toNat * 4 := by
    have h2 : (x <<< ((nI 2).toInt64 &&& 63)).toBitVec = x.toBitVec <<< 2 := by
      have : (nI 2).toInt64 &&& 63 = 2 := by decide
      rw [this]
      show x.toBitVec <<< ((2 : Int64).toBitVec.smod 64#64) = _
      rfl
    rw [h2, BitVec.toNat_shiftLeft, Nat.shiftLeft_eq]
    show x.toUInt64.toNat * 2 ^ 2 % 2 ^ 64 = _
    rw [Nat.mod_eq_of_lt (by omega)]
  show (x <<< ((nI 2).toInt64 &&& 63)).toBitVec.toInt = _
  rw [BitVec.toInt_eq_toNat_bmod, e]
  rw [bmod64 (by omega) (by omega)]
  omega
theorem L_shl30 {x : Int64} (h0 : 0 ≤ x.toInt) (h1 : x.toInt * 1073741824 < 9223372036854775808) : (x <<< ((nI 30).toInt64 &&& 63)).toInt = x.toInt * 1073741824 := by
  have hx0 := L_toNat h0
  have e : (x <<< ((nI 30).toInt64 &&& 63)).toBitVec.toNat = x.toUInt64.toNat * 1073741824 := by
    have h2 : (x <<< ((nI 30).toInt64 &&& 63)).toBitVec = x.toBitVec <<< 30 := by
      have : (nI 30).toInt64 &&& 63 = 30 := by decide
      rw [this]
      show x.toBitVec <<< ((30 : Int64).toBitVec.smod 64#64) = _
      rfl
    rw [h2, BitVec.toNat_shiftLeft, Nat.shiftLeft_eq]
    show x.toUInt64.toNat * 2 ^ 30 % 2 ^ 64 = _
    rw [Nat.mod_eq_of_lt (by omega)]
  show (x <<< ((nI 30).toInt64 &&& 63)).toBitVec.toInt = _
  rw [BitVec.toInt_eq_toNat_bmod, e]
  rw [bmod64 (by omega) (by omega)]
  omega
