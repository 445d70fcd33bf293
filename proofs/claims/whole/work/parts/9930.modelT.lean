/-! the reference: common, sum, isReciprocal, of -/
theorem gcd_st {x y : Nat} : Nat.gcd x y = Nat.gcd y (x % y) := by rw [Nat.gcd_comm x y, Nat.gcd_rec, Nat.gcd_comm]
theorem ab_nI {x : Int32} {v : Int} (h : x.toInt = v) (h1 : -1000000 ≤ v) (h2 : v ≤ 1000000) : (if x < 0 then -x else x) = nI v.natAbs := by
  refine Int32.toInt_inj.mp ?_
  rw [nI_toInt (by omega)]
  by_cases g : x < 0
  · rw [if_pos g, I_neg (by omega), h]
    have := Int32.lt_iff_toInt_lt.mp g
    rw [h, show (0 : Int32).toInt = 0 from by decide] at this
    omega
  · rw [if_neg g, h]
    have : ¬ v < 0 := fun g2 => g (Int32.lt_iff_toInt_lt.mpr (by rw [h]; exact g2))
    omega
abbrev BX12_common (w0 : Wd) (Post : Option Value → Wd → Prop) (w : Wd) (pc : Nat) (ls : List (Nat × Value)) (st : List Value) : Prop := GP "common" RX12 cX12_common 5 (some .int) 0 0 none w0 Post w pc ls st
abbrev EX12_common (As : List Value) (w : Wd) (Post : Option Value → Wd → Prop) : Prop := EP yX12_common cX12_common 5 (some .int) 0 As w Post
theorem gcd_loop {w0 w : Wd} : ∀ (z x y : Nat), y ≤ z → x ≤ 1000000 → y ≤ 1000000 → BX12_common w0 (fun r w' => r = some (.int (nI (Nat.gcd x y))) ∧ w' = w) w 22 [(3, .int (nI y)), (2, .int (nI x))] [] := by
  intro z
  induction z with
  | zero =>
    intro x y hz hx hy
    refine g_iload_n (pc := 22) 0 dX12_common_22 rfl rfl ?_
    refine n_if_eq (pc := 23) 39 dX12_common_23 (by decide) (by omega) (fun h0 => ?_) (fun h0 => ?_)
    · refine g_iload_n (pc := 39) 1 dX12_common_39 rfl rfl ?_
      exact g_iret (pc := 40) dX12_common_40 ⟨by rw [h0, Nat.gcd_zero_right], rfl⟩
    · exact absurd h0 (by omega)
  | succ z ih =>
    intro x y hz hx hy
    refine g_iload_n (pc := 22) 0 dX12_common_22 rfl rfl ?_
    refine n_if_eq (pc := 23) 39 dX12_common_23 (by decide) (by omega) (fun h0 => ?_) (fun h0 => ?_)
    · refine g_iload_n (pc := 39) 1 dX12_common_39 rfl rfl ?_
      exact g_iret (pc := 40) dX12_common_40 ⟨by rw [h0, Nat.gcd_zero_right], rfl⟩
    · refine g_iload_n (pc := 26) 1 dX12_common_26 rfl rfl ?_
      refine g_iload_n (pc := 27) 0 dX12_common_27 rfl rfl ?_
      refine n_irem (pc := 28) dX12_common_28 (by omega) (by omega) (by omega) ?_
      refine g_istore (pc := 29) [(4, .int (nI (x % y))), (3, .int (nI y)), (2, .int (nI x))] dX12_common_29 (by decide) rfl ?_
      refine g_iload_n (pc := 31) 1 dX12_common_31 rfl rfl ?_
      refine g_istore_n (pc := 32) [(2, .int (nI y)), (4, .int (nI (x % y))), (3, .int (nI y))] dX12_common_32 rfl (by decide) rfl ?_
      refine g_iload (pc := 33) 1 dX12_common_33 rfl ?_
      refine g_istore_n (pc := 35) [(3, .int (nI (x % y))), (2, .int (nI y)), (4, .int (nI (x % y)))] dX12_common_35 rfl (by decide) rfl ?_
      refine g_goto (pc := 36) 22 dX12_common_36 (by decide) ?_
      rw [gcd_st]
      have h9 := Nat.mod_lt x (show 0 < y by omega)
      exact GP.lsub _ (by simp) (ih y (x % y) (by omega) (by omega) (by omega))
theorem mp_common (w : Wd) {a b : Int32} {va vb : Int} (ha : a.toInt = va) (hb : b.toInt = vb) (ha1 : -1000000 ≤ va) (ha2 : va ≤ 1000000) (hb1 : -1000000 ≤ vb) (hb2 : vb ≤ 1000000) : EX12_common [.int a, .int b] w (fun r w' => r = some (.int (nI (Nat.gcd va.natAbs vb.natAbs))) ∧ w' = w) := by
  refine EP.of (plainFor_of_name (by decide)) [(0, .int a), (1, .int b)] rfl (Nat.le_of_ble_eq_true rfl) (fun r wf h => by obtain ⟨rfl, -⟩ := h; trivial) ?_
  show BX12_common w _ w 0 [(0, .int a), (1, .int b)] []
  refine g_iload_n (pc := 0) 0 dX12_common_0 rfl rfl ?_
  refine g_if_ge (pc := 1) 9 dX12_common_1 (by decide) (fun h1 => ?_) (fun h1 => ?_)
  · refine g_iload_n (pc := 9) 0 dX12_common_9 rfl rfl ?_
    refine GP.ti (nI va.natAbs) (by rw [← ab_nI ha ha1 ha2, if_neg (fun g => absurd (Int32.le_iff_toInt_le.mp h1) (Int.not_le.mpr (Int32.lt_iff_toInt_lt.mp g)))]) ?_
    refine g_istore_n (pc := 10) [(2, .int (nI va.natAbs)), (0, .int a), (1, .int b)] dX12_common_10 rfl (by decide) rfl ?_
    refine g_iload_n (pc := 11) 2 dX12_common_11 rfl rfl ?_
    refine g_if_ge (pc := 12) 20 dX12_common_12 (by decide) (fun h2 => ?_) (fun h2 => ?_)
    · refine g_iload_n (pc := 20) 2 dX12_common_20 rfl rfl ?_
      refine GP.ti (nI vb.natAbs) (by rw [← ab_nI hb hb1 hb2, if_neg (fun g => absurd (Int32.le_iff_toInt_le.mp h2) (Int.not_le.mpr (Int32.lt_iff_toInt_lt.mp g)))]) ?_
      refine g_istore_n (pc := 21) [(3, .int (nI vb.natAbs)), (2, .int (nI va.natAbs)), (0, .int a), (1, .int b)] dX12_common_21 rfl (by decide) rfl ?_
      exact GP.lsub _ (by simp) (gcd_loop vb.natAbs va.natAbs vb.natAbs (Nat.le_refl _) (by omega) (by omega))
    · refine g_iload_n (pc := 15) 2 dX12_common_15 rfl rfl ?_
      refine g_ineg (pc := 16) dX12_common_16 ?_
      refine g_goto (pc := 17) 21 dX12_common_17 (by decide) ?_
      refine GP.ti (nI vb.natAbs) (by rw [← ab_nI hb hb1 hb2, if_pos (Int32.lt_iff_toInt_lt.mpr (Int.not_le.mp (fun g => h2 (Int32.le_iff_toInt_le.mpr g))))]) ?_
      refine g_istore_n (pc := 21) [(3, .int (nI vb.natAbs)), (2, .int (nI va.natAbs)), (0, .int a), (1, .int b)] dX12_common_21 rfl (by decide) rfl ?_
      exact GP.lsub _ (by simp) (gcd_loop vb.natAbs va.natAbs vb.natAbs (Nat.le_refl _) (by omega) (by omega))
  · refine g_iload_n (pc := 4) 0 dX12_common_4 rfl rfl ?_
    refine g_ineg (pc := 5) dX12_common_5 ?_
    refine g_goto (pc := 6) 10 dX12_common_6 (by decide) ?_
    refine GP.ti (nI va.natAbs) (by rw [← ab_nI ha ha1 ha2, if_pos (Int32.lt_iff_toInt_lt.mpr (Int.not_le.mp (fun g => h1 (Int32.le_iff_toInt_le.mpr g))))]) ?_
    refine g_istore_n (pc := 10) [(2, .int (nI va.natAbs)), (0, .int a), (1, .int b)] dX12_common_10 rfl (by decide) rfl ?_
    refine g_iload_n (pc := 11) 2 dX12_common_11 rfl rfl ?_
    refine g_if_ge (pc := 12) 20 dX12_common_12 (by decide) (fun h2 => ?_) (fun h2 => ?_)
    · refine g_iload_n (pc := 20) 2 dX12_common_20 rfl rfl ?_
      refine GP.ti (nI vb.natAbs) (by rw [← ab_nI hb hb1 hb2, if_neg (fun g => absurd (Int32.le_iff_toInt_le.mp h2) (Int.not_le.mpr (Int32.lt_iff_toInt_lt.mp g)))]) ?_
      refine g_istore_n (pc := 21) [(3, .int (nI vb.natAbs)), (2, .int (nI va.natAbs)), (0, .int a), (1, .int b)] dX12_common_21 rfl (by decide) rfl ?_
      exact GP.lsub _ (by simp) (gcd_loop vb.natAbs va.natAbs vb.natAbs (Nat.le_refl _) (by omega) (by omega))
    · refine g_iload_n (pc := 15) 2 dX12_common_15 rfl rfl ?_
      refine g_ineg (pc := 16) dX12_common_16 ?_
      refine g_goto (pc := 17) 21 dX12_common_17 (by decide) ?_
      refine GP.ti (nI vb.natAbs) (by rw [← ab_nI hb hb1 hb2, if_pos (Int32.lt_iff_toInt_lt.mpr (Int.not_le.mp (fun g => h2 (Int32.le_iff_toInt_le.mpr g))))]) ?_
      refine g_istore_n (pc := 21) [(3, .int (nI vb.natAbs)), (2, .int (nI va.natAbs)), (0, .int a), (1, .int b)] dX12_common_21 rfl (by decide) rfl ?_
      exact GP.lsub _ (by simp) (gcd_loop vb.natAbs va.natAbs vb.natAbs (Nat.le_refl _) (by omega) (by omega))
abbrev BX12_sum (w0 : Wd) (Post : Option Value → Wd → Prop) (w : Wd) (pc : Nat) (ls : List (Nat × Value)) (st : List Value) : Prop := GP "sum" RX12 cX12_sum 13 (some .int) 1 39 none w0 Post w pc ls st
abbrev EX12_sum (As : List Value) (w : Wd) (Post : Option Value → Wd → Prop) : Prop := EP yX12_sum cX12_sum 13 (some .int) 1 As w Post
def sumF (F : Nat → Int) (h k : Nat) : Nat := if h = 1 then pAbs F k else if h = 2 then pMax F k else if h = 3 then pSqr F k else if h = 6 then pMany F k else if h = 7 then pGcd F k else pTurn F k
theorem sumF_1 {F : Nat → Int} {k : Nat} : sumF F 1 k = pAbs F k := rfl
theorem sumF_2 {F : Nat → Int} {k : Nat} : sumF F 2 k = pMax F k := rfl
theorem sumF_3 {F : Nat → Int} {k : Nat} : sumF F 3 k = pSqr F k := rfl
theorem sumF_6 {F : Nat → Int} {k : Nat} : sumF F 6 k = pMany F k := rfl
theorem sumF_7 {F : Nat → Int} {k : Nat} : sumF F 7 k = pGcd F k := rfl
theorem sumF_8 {F : Nat → Int} {k : Nat} : sumF F 8 k = pTurn F k := rfl
theorem pAbs_le {F : Nat → Int} (h : ∀ j, -9999 ≤ F j ∧ F j ≤ 9999) : ∀ k, pAbs F k ≤ k * 9999
  | 0 => Nat.le_refl _
  | k + 1 => by have := pAbs_le h k; have := h k; show pAbs F k + (F k).natAbs ≤ _; omega
theorem pSqr_le {F : Nat → Int} (h : ∀ j, -9999 ≤ F j ∧ F j ≤ 9999) : ∀ k, pSqr F k ≤ k * 99980001
  | 0 => Nat.le_refl _
  | k + 1 => by
    have h1 := pSqr_le h k
    have h2 := h k
    have h3 : (F k).natAbs * (F k).natAbs ≤ 9999 * 9999 := Nat.mul_le_mul (by omega) (by omega)
    show pSqr F k + (F k).natAbs * (F k).natAbs ≤ _
    omega
theorem pGcd_le {F : Nat → Int} (h : ∀ j, -9999 ≤ F j ∧ F j ≤ 9999) (k : Nat) : pGcd F k ≤ 9999 := pGcd_lt (n := k) (fun t _ => by have := h t; omega) k (by omega)
theorem pMax_le {F : Nat → Int} (h : ∀ j, -9999 ≤ F j ∧ F j ≤ 9999) (k : Nat) : pMax F k ≤ 9999 := pMax_lt (n := k) (fun t _ => by have := h t; omega) k (by omega)
theorem sum_ext {F : Nat → Int} {n : Nat} (hz : ∀ j, n < j → F j = 0) (h : Nat) : ∀ d, sumF F h (n + 1 + d) = sumF F h (n + 1) ∧ pLast F (n + 1 + d) = pLast F (n + 1)
  | 0 => ⟨rfl, rfl⟩
  | d + 1 => by
    have e := hz (n + 1 + d) (by omega)
    obtain ⟨h1, h2⟩ := sum_ext hz h d
    refine ⟨?_, ?_⟩
    · rw [← h1]
      have a1 : pAbs F (n + 1 + (d + 1)) = pAbs F (n + 1 + d) := by show pAbs F (n + 1 + d) + (F (n + 1 + d)).natAbs = _; rw [e]; rfl
      have a2 : pMax F (n + 1 + (d + 1)) = pMax F (n + 1 + d) := by show max (pMax F (n + 1 + d)) (F (n + 1 + d)).natAbs = _; rw [e]; exact Nat.max_eq_left (Nat.zero_le _)
      have a3 : pSqr F (n + 1 + (d + 1)) = pSqr F (n + 1 + d) := by show pSqr F (n + 1 + d) + (F (n + 1 + d)).natAbs * (F (n + 1 + d)).natAbs = _; rw [e]; rfl
      have a4 : pMany F (n + 1 + (d + 1)) = pMany F (n + 1 + d) := by show pMany F (n + 1 + d) + (if F (n + 1 + d) = 0 then 0 else 1) = _; rw [if_pos e, Nat.add_zero]
      have a5 : pGcd F (n + 1 + (d + 1)) = pGcd F (n + 1 + d) := by show Nat.gcd (pGcd F (n + 1 + d)) (F (n + 1 + d)).natAbs = _; rw [e]; exact Nat.gcd_zero_right _
      have a6 : pTurn F (n + 1 + (d + 1)) = pTurn F (n + 1 + d) := by show pTurn F (n + 1 + d) + (if (0 < F (n + 1 + d) ∧ pLast F (n + 1 + d) < 0) ∨ (F (n + 1 + d) < 0 ∧ 0 < pLast F (n + 1 + d)) then 1 else 0) = _; rw [if_neg (by omega), Nat.add_zero]
      unfold sumF
      rw [a1, a2, a3, a4, a5, a6]
    · rw [← h2]
      show (if F (n + 1 + d) = 0 then pLast F (n + 1 + d) else F (n + 1 + d)) = _
      rw [if_pos e]
theorem sum_loop {w0 w : Wd} {Y : Nat} {th st nu dg dd ld be ib ta fa re ig : Int32} {g2 : Nat → Int32} {V : SV} {i h : Nat} (hY : w[Y]? = some (oM Y th st nu dg dd ld be ib ta fa re ig)) (a2 : w[Y + 2]? = some (aI 0 626 g2)) (hV : rowR g2 V) (hi : i < 8) (hh : h = 1 ∨ h = 2 ∨ h = 3 ∨ h = 6 ∨ h = 7 ∨ h = 8) : ∀ (z p : Nat) (la : Int32), 13 = p + z → la.toInt = pLast (V.1 i).2 p → BX12_sum w0 (fun r w' => r = some (.int (nI (sumF (V.1 i).2 h 13))) ∧ w' = w) w 23 [(10, .int (nI p)), (9, .int la), (8, .int (nI (pTurn (V.1 i).2 p))), (7, .int (nI (pGcd (V.1 i).2 p))), (6, .int (nI (pMany (V.1 i).2 p))), (5, .int (nI (pSqr (V.1 i).2 p))), (4, .int (nI (pMax (V.1 i).2 p))), (3, .int (nI (pAbs (V.1 i).2 p))), (2, .int (nI h)), (1, .int (nI i)), (0, .ref Y)] [] := by
  have hok := row_ok hV hi
  have hbd := ok_b hok
  intro z
  induction z with
  | zero =>
    intro p la hz hla
    refine g_iload (pc := 23) 0 dX12_sum_23 rfl ?_
    refine g_bipush (pc := 25) (v := nI 12) dX12_sum_25 (by decide) ?_
    refine n_icmp_gt (pc := 27) 153 dX12_sum_27 (by decide) (by omega) (by omega) (fun hb9 => ?_) (fun hb9 => ?_)
    · have e9 : p = 13 := by omega
      rcases hh with rfl | rfl | rfl | rfl | rfl | rfl
      · ·
          refine g_iload_n (pc := 153) 8 dX12_sum_153 rfl rfl ?_
          refine g_tabIn (pc := 154) (off := 42) 196 dX12_sum_154 (by decide) (by decide) (by decide) (by decide) ?_
          refine g_iload_n (pc := 196) 7 dX12_sum_196 rfl rfl ?_
          exact g_iret (pc := 197) dX12_sum_197 ⟨by rw [sumF_1, e9], rfl⟩
      · ·
          refine g_iload_n (pc := 153) 8 dX12_sum_153 rfl rfl ?_
          refine g_tabIn (pc := 154) (off := 44) 198 dX12_sum_154 (by decide) (by decide) (by decide) (by decide) ?_
          refine g_iload (pc := 198) 6 dX12_sum_198 rfl ?_
          exact g_iret (pc := 200) dX12_sum_200 ⟨by rw [sumF_2, e9], rfl⟩
      · ·
          refine g_iload_n (pc := 153) 8 dX12_sum_153 rfl rfl ?_
          refine g_tabIn (pc := 154) (off := 47) 201 dX12_sum_154 (by decide) (by decide) (by decide) (by decide) ?_
          refine g_iload (pc := 201) 5 dX12_sum_201 rfl ?_
          exact g_iret (pc := 203) dX12_sum_203 ⟨by rw [sumF_3, e9], rfl⟩
      · ·
          refine g_iload_n (pc := 153) 8 dX12_sum_153 rfl rfl ?_
          refine g_tabIn (pc := 154) (off := 50) 204 dX12_sum_154 (by decide) (by decide) (by decide) (by decide) ?_
          refine g_iload (pc := 204) 4 dX12_sum_204 rfl ?_
          exact g_iret (pc := 206) dX12_sum_206 ⟨by rw [sumF_6, e9], rfl⟩
      · ·
          refine g_iload_n (pc := 153) 8 dX12_sum_153 rfl rfl ?_
          refine g_tabIn (pc := 154) (off := 53) 207 dX12_sum_154 (by decide) (by decide) (by decide) (by decide) ?_
          refine g_iload (pc := 207) 3 dX12_sum_207 rfl ?_
          exact g_iret (pc := 209) dX12_sum_209 ⟨by rw [sumF_7, e9], rfl⟩
      · ·
          refine g_iload_n (pc := 153) 8 dX12_sum_153 rfl rfl ?_
          refine g_tabOut (pc := 154) 210 dX12_sum_154 (by decide) (by decide) ?_
          refine g_iload (pc := 210) 2 dX12_sum_210 rfl ?_
          exact g_iret (pc := 212) dX12_sum_212 ⟨by rw [sumF_8, e9], rfl⟩
    · exact absurd (show 12 < p by omega) hb9
  | succ z ih =>
    intro p la hz hla
    have hv9 := (hV.1 i hi).2.2 p (by omega)
    have hbp := hbd p
    have q1 := pAbs_le hbd p
    have q2 := pSqr_le hbd p
    have q3 := pGcd_le hbd p
    have q4 := pMax_le hbd p
    have z0 : (0 : Int32).toInt = 0 := by decide
    obtain ⟨v, hve⟩ : ∃ v, v = g2 (14 * i + 1 + p) := ⟨_, rfl⟩
    rw [← hve] at hv9
    obtain ⟨sv, hsv⟩ : ∃ sv, sv = ((V.1 i).2 p).natAbs := ⟨_, rfl⟩
    have hsv9 : sv ≤ 9999 := by omega
    have hss : sv * sv ≤ 9999 * 9999 := Nat.mul_le_mul hsv9 hsv9
    have K4 : ∀ la2 : Int32, la2.toInt = pLast (V.1 i).2 (p + 1) → BX12_sum w0 (fun r w' => r = some (.int (nI (sumF (V.1 i).2 h 13))) ∧ w' = w) w 147 [(9, .int la2), (12, .int (nI sv)), (11, .int v), (10, .int (nI p)), (2, .int (nI h)), (1, .int (nI i)), (0, .ref Y), (3, .int (nI (pAbs (V.1 i).2 (p + 1)))), (4, .int (nI (pMax (V.1 i).2 (p + 1)))), (5, .int (nI (pSqr (V.1 i).2 (p + 1)))), (6, .int (nI (pMany (V.1 i).2 (p + 1)))), (7, .int (nI (pGcd (V.1 i).2 (p + 1)))), (8, .int (nI (pTurn (V.1 i).2 (p + 1))))] [] := by
      intro la2 hl2
      refine n_iinc (pc := 147) (c := 1) [(10, .int (nI (p + 1))), (9, .int la2), (12, .int (nI sv)), (11, .int v), (2, .int (nI h)), (1, .int (nI i)), (0, .ref Y), (3, .int (nI (pAbs (V.1 i).2 (p + 1)))), (4, .int (nI (pMax (V.1 i).2 (p + 1)))), (5, .int (nI (pSqr (V.1 i).2 (p + 1)))), (6, .int (nI (pMany (V.1 i).2 (p + 1)))), (7, .int (nI (pGcd (V.1 i).2 (p + 1)))), (8, .int (nI (pTurn (V.1 i).2 (p + 1))))] 3 dX12_sum_147 rfl (by decide) (by decide) rfl ?_
      refine g_goto (pc := 150) 23 dX12_sum_150 (by decide) ?_
      exact GP.lsub _ (by simp) (ih (p + 1) la2 (by omega) hl2)
    have K3 : BX12_sum w0 (fun r w' => r = some (.int (nI (sumF (V.1 i).2 h 13))) ∧ w' = w) w 133 [(9, .int la), (12, .int (nI sv)), (11, .int v), (10, .int (nI p)), (2, .int (nI h)), (1, .int (nI i)), (0, .ref Y), (3, .int (nI (pAbs (V.1 i).2 (p + 1)))), (4, .int (nI (pMax (V.1 i).2 (p + 1)))), (5, .int (nI (pSqr (V.1 i).2 (p + 1)))), (6, .int (nI (pMany (V.1 i).2 (p + 1)))), (7, .int (nI (pGcd (V.1 i).2 (p + 1)))), (8, .int (nI (pTurn (V.1 i).2 (p + 1))))] [] := by
      refine g_iload (pc := 133) 2 dX12_sum_133 rfl ?_
      refine g_if_eq (pc := 135) 143 dX12_sum_135 (by decide) (fun hv0 => ?_) (fun hv0 => ?_)
      · refine g_iload (pc := 143) 0 dX12_sum_143 rfl ?_
        refine g_istore (pc := 145) [(9, .int la), (12, .int (nI sv)), (11, .int v), (10, .int (nI p)), (2, .int (nI h)), (1, .int (nI i)), (0, .ref Y), (3, .int (nI (pAbs (V.1 i).2 (p + 1)))), (4, .int (nI (pMax (V.1 i).2 (p + 1)))), (5, .int (nI (pSqr (V.1 i).2 (p + 1)))), (6, .int (nI (pMany (V.1 i).2 (p + 1)))), (7, .int (nI (pGcd (V.1 i).2 (p + 1)))), (8, .int (nI (pTurn (V.1 i).2 (p + 1))))] dX12_sum_145 (by decide) rfl ?_
        exact GP.lsub _ (by simp) (K4 la (by show _ = if (V.1 i).2 p = 0 then pLast (V.1 i).2 p else (V.1 i).2 p; rw [if_pos (by rw [← hv9, show v = 0 from hv0]; rfl)]; exact hla))
      · refine g_iload (pc := 138) 2 dX12_sum_138 rfl ?_
        refine g_goto (pc := 140) 145 dX12_sum_140 (by decide) ?_
        refine g_istore (pc := 145) [(9, .int v), (12, .int (nI sv)), (11, .int v), (10, .int (nI p)), (2, .int (nI h)), (1, .int (nI i)), (0, .ref Y), (3, .int (nI (pAbs (V.1 i).2 (p + 1)))), (4, .int (nI (pMax (V.1 i).2 (p + 1)))), (5, .int (nI (pSqr (V.1 i).2 (p + 1)))), (6, .int (nI (pMany (V.1 i).2 (p + 1)))), (7, .int (nI (pGcd (V.1 i).2 (p + 1)))), (8, .int (nI (pTurn (V.1 i).2 (p + 1))))] dX12_sum_145 (by decide) rfl ?_
        exact GP.lsub _ (by simp) (K4 v (by show _ = if (V.1 i).2 p = 0 then pLast (V.1 i).2 p else (V.1 i).2 p; rw [if_neg (fun g => hv0 (I0.mp (by rw [hv9]; exact g)))]; exact hv9))
    have K2 : BX12_sum w0 (fun r w' => r = some (.int (nI (sumF (V.1 i).2 h 13))) ∧ w' = w) w 103 [(9, .int la), (12, .int (nI sv)), (11, .int v), (10, .int (nI p)), (2, .int (nI h)), (1, .int (nI i)), (0, .ref Y), (3, .int (nI (pAbs (V.1 i).2 (p + 1)))), (4, .int (nI (pMax (V.1 i).2 (p + 1)))), (5, .int (nI (pSqr (V.1 i).2 (p + 1)))), (6, .int (nI (pMany (V.1 i).2 (p + 1)))), (7, .int (nI (pGcd (V.1 i).2 (p + 1)))), (8, .int (nI (pTurn (V.1 i).2 p)))] [] := by
      refine g_iload (pc := 103) 12 dX12_sum_103 rfl ?_
      refine g_iload (pc := 105) 2 dX12_sum_105 rfl ?_
      refine g_if_le (pc := 107) 115 dX12_sum_107 (by decide) (fun c1 => ?_) (fun c1 => ?_)
      · rw [Int32.le_iff_toInt_le, z0, hv9] at c1
        refine g_iload (pc := 115) 2 dX12_sum_115 rfl ?_
        refine g_if_ge (pc := 117) 129 dX12_sum_117 (by decide) (fun c3 => ?_) (fun c3 => ?_)
        · rw [Int32.le_iff_toInt_le, z0, hv9] at c3
          refine g_iconst (pc := 129) (v := nI 0) dX12_sum_129 (by decide) ?_
          refine n_iadd (pc := 130) dX12_sum_130 ?_
          refine GP.ti (nI (pTurn (V.1 i).2 (p + 1))) (by congr 1; show _ = pTurn (V.1 i).2 p + (if (0 < (V.1 i).2 p ∧ pLast (V.1 i).2 p < 0) ∨ ((V.1 i).2 p < 0 ∧ 0 < pLast (V.1 i).2 p) then 1 else 0); rw [if_neg (by omega)]) ?_
          refine g_istore (pc := 131) [(8, .int (nI (pTurn (V.1 i).2 (p + 1)))), (9, .int la), (12, .int (nI sv)), (11, .int v), (10, .int (nI p)), (2, .int (nI h)), (1, .int (nI i)), (0, .ref Y), (3, .int (nI (pAbs (V.1 i).2 (p + 1)))), (4, .int (nI (pMax (V.1 i).2 (p + 1)))), (5, .int (nI (pSqr (V.1 i).2 (p + 1)))), (6, .int (nI (pMany (V.1 i).2 (p + 1)))), (7, .int (nI (pGcd (V.1 i).2 (p + 1))))] dX12_sum_131 (by decide) rfl ?_
          exact GP.lsub _ (by simp) K3
        · rw [Int32.le_iff_toInt_le, z0, hv9] at c3
          refine g_iload (pc := 120) 0 dX12_sum_120 rfl ?_
          refine g_if_le (pc := 122) 129 dX12_sum_122 (by decide) (fun c4 => ?_) (fun c4 => ?_)
          · rw [Int32.le_iff_toInt_le, z0, hla] at c4
            refine g_iconst (pc := 129) (v := nI 0) dX12_sum_129 (by decide) ?_
            refine n_iadd (pc := 130) dX12_sum_130 ?_
            refine GP.ti (nI (pTurn (V.1 i).2 (p + 1))) (by congr 1; show _ = pTurn (V.1 i).2 p + (if (0 < (V.1 i).2 p ∧ pLast (V.1 i).2 p < 0) ∨ ((V.1 i).2 p < 0 ∧ 0 < pLast (V.1 i).2 p) then 1 else 0); rw [if_neg (by omega)]) ?_
            refine g_istore (pc := 131) [(8, .int (nI (pTurn (V.1 i).2 (p + 1)))), (9, .int la), (12, .int (nI sv)), (11, .int v), (10, .int (nI p)), (2, .int (nI h)), (1, .int (nI i)), (0, .ref Y), (3, .int (nI (pAbs (V.1 i).2 (p + 1)))), (4, .int (nI (pMax (V.1 i).2 (p + 1)))), (5, .int (nI (pSqr (V.1 i).2 (p + 1)))), (6, .int (nI (pMany (V.1 i).2 (p + 1)))), (7, .int (nI (pGcd (V.1 i).2 (p + 1))))] dX12_sum_131 (by decide) rfl ?_
            exact GP.lsub _ (by simp) K3
          · rw [Int32.le_iff_toInt_le, z0, hla] at c4
            refine g_iconst (pc := 125) (v := nI 1) dX12_sum_125 (by decide) ?_
            refine g_goto (pc := 126) 130 dX12_sum_126 (by decide) ?_
            refine n_iadd (pc := 130) dX12_sum_130 ?_
            refine GP.ti (nI (pTurn (V.1 i).2 (p + 1))) (by congr 1; show _ = pTurn (V.1 i).2 p + (if (0 < (V.1 i).2 p ∧ pLast (V.1 i).2 p < 0) ∨ ((V.1 i).2 p < 0 ∧ 0 < pLast (V.1 i).2 p) then 1 else 0); rw [if_pos (by omega)]) ?_
            refine g_istore (pc := 131) [(8, .int (nI (pTurn (V.1 i).2 (p + 1)))), (9, .int la), (12, .int (nI sv)), (11, .int v), (10, .int (nI p)), (2, .int (nI h)), (1, .int (nI i)), (0, .ref Y), (3, .int (nI (pAbs (V.1 i).2 (p + 1)))), (4, .int (nI (pMax (V.1 i).2 (p + 1)))), (5, .int (nI (pSqr (V.1 i).2 (p + 1)))), (6, .int (nI (pMany (V.1 i).2 (p + 1)))), (7, .int (nI (pGcd (V.1 i).2 (p + 1))))] dX12_sum_131 (by decide) rfl ?_
            exact GP.lsub _ (by simp) K3
      · rw [Int32.le_iff_toInt_le, z0, hv9] at c1
        refine g_iload (pc := 110) 0 dX12_sum_110 rfl ?_
        refine g_if_lt (pc := 112) 125 dX12_sum_112 (by decide) (fun c2 => ?_) (fun c2 => ?_)
        · rw [Int32.lt_iff_toInt_lt, z0, hla] at c2
          refine g_iconst (pc := 125) (v := nI 1) dX12_sum_125 (by decide) ?_
          refine g_goto (pc := 126) 130 dX12_sum_126 (by decide) ?_
          refine n_iadd (pc := 130) dX12_sum_130 ?_
          refine GP.ti (nI (pTurn (V.1 i).2 (p + 1))) (by congr 1; show _ = pTurn (V.1 i).2 p + (if (0 < (V.1 i).2 p ∧ pLast (V.1 i).2 p < 0) ∨ ((V.1 i).2 p < 0 ∧ 0 < pLast (V.1 i).2 p) then 1 else 0); rw [if_pos (by omega)]) ?_
          refine g_istore (pc := 131) [(8, .int (nI (pTurn (V.1 i).2 (p + 1)))), (9, .int la), (12, .int (nI sv)), (11, .int v), (10, .int (nI p)), (2, .int (nI h)), (1, .int (nI i)), (0, .ref Y), (3, .int (nI (pAbs (V.1 i).2 (p + 1)))), (4, .int (nI (pMax (V.1 i).2 (p + 1)))), (5, .int (nI (pSqr (V.1 i).2 (p + 1)))), (6, .int (nI (pMany (V.1 i).2 (p + 1)))), (7, .int (nI (pGcd (V.1 i).2 (p + 1))))] dX12_sum_131 (by decide) rfl ?_
          exact GP.lsub _ (by simp) K3
        · rw [Int32.lt_iff_toInt_lt, z0, hla] at c2
          refine g_iload (pc := 115) 2 dX12_sum_115 rfl ?_
          refine g_if_ge (pc := 117) 129 dX12_sum_117 (by decide) (fun c3 => ?_) (fun c3 => ?_)
          · rw [Int32.le_iff_toInt_le, z0, hv9] at c3
            refine g_iconst (pc := 129) (v := nI 0) dX12_sum_129 (by decide) ?_
            refine n_iadd (pc := 130) dX12_sum_130 ?_
            refine GP.ti (nI (pTurn (V.1 i).2 (p + 1))) (by congr 1; show _ = pTurn (V.1 i).2 p + (if (0 < (V.1 i).2 p ∧ pLast (V.1 i).2 p < 0) ∨ ((V.1 i).2 p < 0 ∧ 0 < pLast (V.1 i).2 p) then 1 else 0); rw [if_neg (by omega)]) ?_
            refine g_istore (pc := 131) [(8, .int (nI (pTurn (V.1 i).2 (p + 1)))), (9, .int la), (12, .int (nI sv)), (11, .int v), (10, .int (nI p)), (2, .int (nI h)), (1, .int (nI i)), (0, .ref Y), (3, .int (nI (pAbs (V.1 i).2 (p + 1)))), (4, .int (nI (pMax (V.1 i).2 (p + 1)))), (5, .int (nI (pSqr (V.1 i).2 (p + 1)))), (6, .int (nI (pMany (V.1 i).2 (p + 1)))), (7, .int (nI (pGcd (V.1 i).2 (p + 1))))] dX12_sum_131 (by decide) rfl ?_
            exact GP.lsub _ (by simp) K3
          · rw [Int32.le_iff_toInt_le, z0, hv9] at c3
            exact absurd (show 0 ≤ (V.1 i).2 p by omega) c3
    have K1 : BX12_sum w0 (fun r w' => r = some (.int (nI (sumF (V.1 i).2 h 13))) ∧ w' = w) w 94 [(9, .int la), (12, .int (nI sv)), (11, .int v), (10, .int (nI p)), (2, .int (nI h)), (1, .int (nI i)), (0, .ref Y), (3, .int (nI (pAbs (V.1 i).2 (p + 1)))), (4, .int (nI (pMax (V.1 i).2 (p + 1)))), (5, .int (nI (pSqr (V.1 i).2 (p + 1)))), (6, .int (nI (pMany (V.1 i).2 (p + 1)))), (7, .int (nI (pGcd (V.1 i).2 p))), (8, .int (nI (pTurn (V.1 i).2 p)))] [] := by
      refine g_iload (pc := 94) 11 dX12_sum_94 rfl ?_
      refine g_iload (pc := 96) 2 dX12_sum_96 rfl ?_
      refine g_callS (pc := 98) [.int (nI (pGcd (V.1 i).2 p)), .int v] dX12_sum_98 cs_X12_152.1 cs_X12_152.2 rfl rfl (Nat.le_of_ble_eq_true rfl) (by decide) (by decide) (mp_common _ (a := nI (pGcd (V.1 i).2 p)) (b := v) (va := ((pGcd (V.1 i).2 p : Nat) : Int)) (nI_toInt (by omega)) hv9 (by omega) (by omega) (by omega) (by omega)) ?_
      rintro _ w9 ⟨rfl, e9⟩
      refine GP.weq _ e9 ?_
      refine GP.ti (nI (pGcd (V.1 i).2 (p + 1))) (by rw [Int.natAbs_natCast]; rfl) ?_
      refine g_istore (pc := 101) [(7, .int (nI (pGcd (V.1 i).2 (p + 1)))), (9, .int la), (12, .int (nI sv)), (11, .int v), (10, .int (nI p)), (2, .int (nI h)), (1, .int (nI i)), (0, .ref Y), (3, .int (nI (pAbs (V.1 i).2 (p + 1)))), (4, .int (nI (pMax (V.1 i).2 (p + 1)))), (5, .int (nI (pSqr (V.1 i).2 (p + 1)))), (6, .int (nI (pMany (V.1 i).2 (p + 1)))), (8, .int (nI (pTurn (V.1 i).2 p)))] dX12_sum_101 (by decide) rfl ?_
      exact GP.lsub _ (by simp) K2
    have K0 : BX12_sum w0 (fun r w' => r = some (.int (nI (sumF (V.1 i).2 h 13))) ∧ w' = w) w 69 [(9, .int la), (12, .int (nI sv)), (11, .int v), (10, .int (nI p)), (2, .int (nI h)), (1, .int (nI i)), (0, .ref Y), (3, .int (nI (pAbs (V.1 i).2 (p + 1)))), (4, .int (nI (pMax (V.1 i).2 (p + 1)))), (5, .int (nI (pSqr (V.1 i).2 p))), (6, .int (nI (pMany (V.1 i).2 p))), (7, .int (nI (pGcd (V.1 i).2 p))), (8, .int (nI (pTurn (V.1 i).2 p)))] [] := by
      refine g_iload (pc := 69) 9 dX12_sum_69 rfl ?_
      refine g_iload (pc := 71) 2 dX12_sum_71 rfl ?_
      refine g_iload (pc := 73) 2 dX12_sum_73 rfl ?_
      refine g_imul (pc := 75) dX12_sum_75 ?_
      refine GP.ti (nI (sv * sv)) (by refine Int32.toInt_inj.mp ?_; rw [nI_toInt (by omega), hsv, Int.natCast_mul, Int.natAbs_mul_self', I_mul (by rw [hv9, ← Int.natAbs_mul_self', ← Int.natCast_mul, ← hsv]; omega) (by rw [hv9, ← Int.natAbs_mul_self', ← Int.natCast_mul, ← hsv]; omega), hv9]) ?_
      refine n_iadd (pc := 76) dX12_sum_76 ?_
      refine GP.ti (nI (pSqr (V.1 i).2 (p + 1))) (by rw [hsv]; rfl) ?_
      refine g_istore (pc := 77) [(5, .int (nI (pSqr (V.1 i).2 (p + 1)))), (9, .int la), (12, .int (nI sv)), (11, .int v), (10, .int (nI p)), (2, .int (nI h)), (1, .int (nI i)), (0, .ref Y), (3, .int (nI (pAbs (V.1 i).2 (p + 1)))), (4, .int (nI (pMax (V.1 i).2 (p + 1)))), (6, .int (nI (pMany (V.1 i).2 p))), (7, .int (nI (pGcd (V.1 i).2 p))), (8, .int (nI (pTurn (V.1 i).2 p)))] dX12_sum_77 (by decide) rfl ?_
      refine g_iload (pc := 79) 10 dX12_sum_79 rfl ?_
      refine g_iload (pc := 81) 3 dX12_sum_81 rfl ?_
      refine g_if_eq (pc := 83) 90 dX12_sum_83 (by decide) (fun hv0 => ?_) (fun hv0 => ?_)
      · refine g_iconst (pc := 90) (v := nI 0) dX12_sum_90 (by decide) ?_
        refine n_iadd (pc := 91) dX12_sum_91 ?_
        refine GP.ti (nI (pMany (V.1 i).2 (p + 1))) (by congr 1; show _ = pMany (V.1 i).2 p + (if (V.1 i).2 p = 0 then 0 else 1); rw [if_pos (by rw [← hv9, show v = 0 from hv0]; rfl)]) ?_
        refine g_istore (pc := 92) [(6, .int (nI (pMany (V.1 i).2 (p + 1)))), (5, .int (nI (pSqr (V.1 i).2 (p + 1)))), (9, .int la), (12, .int (nI sv)), (11, .int v), (10, .int (nI p)), (2, .int (nI h)), (1, .int (nI i)), (0, .ref Y), (3, .int (nI (pAbs (V.1 i).2 (p + 1)))), (4, .int (nI (pMax (V.1 i).2 (p + 1)))), (7, .int (nI (pGcd (V.1 i).2 p))), (8, .int (nI (pTurn (V.1 i).2 p)))] dX12_sum_92 (by decide) rfl ?_
        exact GP.lsub _ (by simp) K1
      · refine g_iconst (pc := 86) (v := nI 1) dX12_sum_86 (by decide) ?_
        refine g_goto (pc := 87) 91 dX12_sum_87 (by decide) ?_
        refine n_iadd (pc := 91) dX12_sum_91 ?_
        refine GP.ti (nI (pMany (V.1 i).2 (p + 1))) (by congr 1; show _ = pMany (V.1 i).2 p + (if (V.1 i).2 p = 0 then 0 else 1); rw [if_neg (fun g => hv0 (I0.mp (by rw [hv9]; exact g)))]) ?_
        refine g_istore (pc := 92) [(6, .int (nI (pMany (V.1 i).2 (p + 1)))), (5, .int (nI (pSqr (V.1 i).2 (p + 1)))), (9, .int la), (12, .int (nI sv)), (11, .int v), (10, .int (nI p)), (2, .int (nI h)), (1, .int (nI i)), (0, .ref Y), (3, .int (nI (pAbs (V.1 i).2 (p + 1)))), (4, .int (nI (pMax (V.1 i).2 (p + 1)))), (7, .int (nI (pGcd (V.1 i).2 p))), (8, .int (nI (pTurn (V.1 i).2 p)))] dX12_sum_92 (by decide) rfl ?_
        exact GP.lsub _ (by simp) K1
    refine g_iload (pc := 23) 0 dX12_sum_23 rfl ?_
    refine g_bipush (pc := 25) (v := nI 12) dX12_sum_25 (by decide) ?_
    refine n_icmp_gt (pc := 27) 153 dX12_sum_27 (by decide) (by omega) (by omega) (fun hb9 => ?_) (fun hb9 => ?_)
    · exact absurd hb9 (by omega)
    · refine g_aload_n (pc := 30) 10 dX12_sum_30 rfl rfl ?_
      refine g_iload_n (pc := 31) 9 dX12_sum_31 rfl rfl ?_
      refine g_iload (pc := 32) 0 dX12_sum_32 rfl ?_
      refine g_callV (pc := 34) [.int (nI i), .int (nI p)] dX12_sum_34 cv_X12_122.1 cv_X12_122.2.1 cv_X12_122.2.2.1 cv_X12_122.2.2.2 hY rfl rfl (Nat.le_of_ble_eq_true rfl) (by decide) (by decide) (mp_at _ hY a2 hi (show p < 13 by omega)) ?_
      rintro _ w9 ⟨rfl, e9⟩
      refine GP.weq _ e9 ?_
      refine GP.ti v hve.symm ?_
      refine g_istore (pc := 37) [(11, .int v), (10, .int (nI p)), (9, .int la), (8, .int (nI (pTurn (V.1 i).2 p))), (7, .int (nI (pGcd (V.1 i).2 p))), (6, .int (nI (pMany (V.1 i).2 p))), (5, .int (nI (pSqr (V.1 i).2 p))), (4, .int (nI (pMax (V.1 i).2 p))), (3, .int (nI (pAbs (V.1 i).2 p))), (2, .int (nI h)), (1, .int (nI i)), (0, .ref Y)] dX12_sum_37 (by decide) rfl ?_
      refine g_iload (pc := 39) 0 dX12_sum_39 rfl ?_
      refine g_i2l (pc := 41) dX12_sum_41 ?_
      refine g_callS (pc := 42) [.long v.toInt64] dX12_sum_42 cs_X12_146.1 cs_X12_146.2 rfl rfl (Nat.le_of_ble_eq_true rfl) (by decide) (by decide) (mp_size _) ?_
      rintro _ w9 ⟨x2, rfl, hs1, hs2, e9⟩
      refine GP.weq _ e9 ?_
      have hx2 : x2.toInt = (sv : Int) := by
        rw [IL, hv9] at hs1 hs2
        by_cases g : (V.1 i).2 p < 0
        · rw [hs1 g, L_neg (by rw [IL, hv9]; omega), IL, hv9]; omega
        · rw [hs2 g, IL, hv9]; omega
      refine g_l2i (pc := 45) dX12_sum_45 ?_
      refine GP.ti (nI sv) (Int32.toInt_inj.mp (by rw [LI (by omega) (by omega), hx2, nI_toInt (by omega)])) ?_
      refine g_istore (pc := 46) [(12, .int (nI sv)), (11, .int v), (10, .int (nI p)), (9, .int la), (8, .int (nI (pTurn (V.1 i).2 p))), (7, .int (nI (pGcd (V.1 i).2 p))), (6, .int (nI (pMany (V.1 i).2 p))), (5, .int (nI (pSqr (V.1 i).2 p))), (4, .int (nI (pMax (V.1 i).2 p))), (3, .int (nI (pAbs (V.1 i).2 p))), (2, .int (nI h)), (1, .int (nI i)), (0, .ref Y)] dX12_sum_46 (by decide) rfl ?_
      refine g_iload_n (pc := 48) 9 dX12_sum_48 rfl rfl ?_
      refine g_iload (pc := 49) 0 dX12_sum_49 rfl ?_
      refine n_iadd (pc := 51) dX12_sum_51 ?_
      refine GP.ti (nI (pAbs (V.1 i).2 (p + 1))) (by rw [hsv]; rfl) ?_
      refine g_istore_n (pc := 52) [(3, .int (nI (pAbs (V.1 i).2 (p + 1)))), (12, .int (nI sv)), (11, .int v), (10, .int (nI p)), (9, .int la), (8, .int (nI (pTurn (V.1 i).2 p))), (7, .int (nI (pGcd (V.1 i).2 p))), (6, .int (nI (pMany (V.1 i).2 p))), (5, .int (nI (pSqr (V.1 i).2 p))), (4, .int (nI (pMax (V.1 i).2 p))), (2, .int (nI h)), (1, .int (nI i)), (0, .ref Y)] dX12_sum_52 rfl (by decide) rfl ?_
      refine g_iload (pc := 53) 1 dX12_sum_53 rfl ?_
      refine g_iload (pc := 55) 9 dX12_sum_55 rfl ?_
      refine n_icmp_le (pc := 57) 65 dX12_sum_57 (by decide) (by omega) (by omega) (fun hmx => ?_) (fun hmx => ?_)
      · refine g_iload (pc := 65) 9 dX12_sum_65 rfl ?_
        refine GP.ti (nI (pMax (V.1 i).2 (p + 1))) (by congr 1; show _ = max _ _; omega) ?_
        refine g_istore (pc := 67) [(4, .int (nI (pMax (V.1 i).2 (p + 1)))), (3, .int (nI (pAbs (V.1 i).2 (p + 1)))), (12, .int (nI sv)), (11, .int v), (10, .int (nI p)), (9, .int la), (8, .int (nI (pTurn (V.1 i).2 p))), (7, .int (nI (pGcd (V.1 i).2 p))), (6, .int (nI (pMany (V.1 i).2 p))), (5, .int (nI (pSqr (V.1 i).2 p))), (2, .int (nI h)), (1, .int (nI i)), (0, .ref Y)] dX12_sum_67 (by decide) rfl ?_
        exact GP.lsub _ (by simp) K0
      · refine g_iload (pc := 60) 1 dX12_sum_60 rfl ?_
        refine g_goto (pc := 62) 67 dX12_sum_62 (by decide) ?_
        refine GP.ti (nI (pMax (V.1 i).2 (p + 1))) (by congr 1; show _ = max _ _; omega) ?_
        refine g_istore (pc := 67) [(4, .int (nI (pMax (V.1 i).2 (p + 1)))), (3, .int (nI (pAbs (V.1 i).2 (p + 1)))), (12, .int (nI sv)), (11, .int v), (10, .int (nI p)), (9, .int la), (8, .int (nI (pTurn (V.1 i).2 p))), (7, .int (nI (pGcd (V.1 i).2 p))), (6, .int (nI (pMany (V.1 i).2 p))), (5, .int (nI (pSqr (V.1 i).2 p))), (2, .int (nI h)), (1, .int (nI i)), (0, .ref Y)] dX12_sum_67 (by decide) rfl ?_
        exact GP.lsub _ (by simp) K0
theorem mp_sum (w : Wd) {Y : Nat} {th st nu dg dd ld be ib ta fa re ig : Int32} {g2 : Nat → Int32} {V : SV} {i h : Nat} (hY : w[Y]? = some (oM Y th st nu dg dd ld be ib ta fa re ig)) (a2 : w[Y + 2]? = some (aI 0 626 g2)) (hV : rowR g2 V) (hi : i < 8) (hh : h = 1 ∨ h = 2 ∨ h = 3 ∨ h = 6 ∨ h = 7 ∨ h = 8) : EX12_sum [.ref Y, .int (nI i), .int (nI h)] w (fun r w' => r = some (.int (nI (sumF (V.1 i).2 h 13))) ∧ w' = w) := by
  refine EP.of (plainFor_of_name (by decide)) [(0, .ref Y), (1, .int (nI i)), (2, .int (nI h))] rfl (Nat.le_of_ble_eq_true rfl) (fun r wf h => by obtain ⟨rfl, -⟩ := h; trivial) ?_
  show BX12_sum w _ w 0 [(0, .ref Y), (1, .int (nI i)), (2, .int (nI h))] []
  refine g_iconst (pc := 0) (v := nI 0) dX12_sum_0 (by decide) ?_
  refine g_istore_n (pc := 1) [(3, .int (nI 0)), (0, .ref Y), (1, .int (nI i)), (2, .int (nI h))] dX12_sum_1 rfl (by decide) rfl ?_
  refine g_iconst (pc := 2) (v := nI 0) dX12_sum_2 (by decide) ?_
  refine g_istore (pc := 3) [(4, .int (nI 0)), (3, .int (nI 0)), (0, .ref Y), (1, .int (nI i)), (2, .int (nI h))] dX12_sum_3 (by decide) rfl ?_
  refine g_iconst (pc := 5) (v := nI 0) dX12_sum_5 (by decide) ?_
  refine g_istore (pc := 6) [(5, .int (nI 0)), (4, .int (nI 0)), (3, .int (nI 0)), (0, .ref Y), (1, .int (nI i)), (2, .int (nI h))] dX12_sum_6 (by decide) rfl ?_
  refine g_iconst (pc := 8) (v := nI 0) dX12_sum_8 (by decide) ?_
  refine g_istore (pc := 9) [(6, .int (nI 0)), (5, .int (nI 0)), (4, .int (nI 0)), (3, .int (nI 0)), (0, .ref Y), (1, .int (nI i)), (2, .int (nI h))] dX12_sum_9 (by decide) rfl ?_
  refine g_iconst (pc := 11) (v := nI 0) dX12_sum_11 (by decide) ?_
  refine g_istore (pc := 12) [(7, .int (nI 0)), (6, .int (nI 0)), (5, .int (nI 0)), (4, .int (nI 0)), (3, .int (nI 0)), (0, .ref Y), (1, .int (nI i)), (2, .int (nI h))] dX12_sum_12 (by decide) rfl ?_
  refine g_iconst (pc := 14) (v := nI 0) dX12_sum_14 (by decide) ?_
  refine g_istore (pc := 15) [(8, .int (nI 0)), (7, .int (nI 0)), (6, .int (nI 0)), (5, .int (nI 0)), (4, .int (nI 0)), (3, .int (nI 0)), (0, .ref Y), (1, .int (nI i)), (2, .int (nI h))] dX12_sum_15 (by decide) rfl ?_
  refine g_iconst (pc := 17) (v := nI 0) dX12_sum_17 (by decide) ?_
  refine g_istore (pc := 18) [(9, .int (nI 0)), (8, .int (nI 0)), (7, .int (nI 0)), (6, .int (nI 0)), (5, .int (nI 0)), (4, .int (nI 0)), (3, .int (nI 0)), (0, .ref Y), (1, .int (nI i)), (2, .int (nI h))] dX12_sum_18 (by decide) rfl ?_
  refine g_iconst (pc := 20) (v := nI 0) dX12_sum_20 (by decide) ?_
  refine g_istore (pc := 21) [(10, .int (nI 0)), (9, .int (nI 0)), (8, .int (nI 0)), (7, .int (nI 0)), (6, .int (nI 0)), (5, .int (nI 0)), (4, .int (nI 0)), (3, .int (nI 0)), (0, .ref Y), (1, .int (nI i)), (2, .int (nI h))] dX12_sum_21 (by decide) rfl ?_
  exact GP.lsub _ (by simp; exact ⟨rfl, rfl, rfl, rfl, rfl, rfl, rfl⟩) (sum_loop hY a2 hV hi hh 13 0 0 (by omega) rfl)
abbrev BX12_isReciprocal (w0 : Wd) (Post : Option Value → Wd → Prop) (w : Wd) (pc : Nat) (ls : List (Nat × Value)) (st : List Value) : Prop := GP "isReciprocal" RX12 cX12_isReciprocal 4 (some .boolean) 1 39 none w0 Post w pc ls st
abbrev EX12_isReciprocal (As : List Value) (w : Wd) (Post : Option Value → Wd → Prop) : Prop := EP yX12_isReciprocal cX12_isReciprocal 4 (some .boolean) 1 As w Post
theorem rec_0 {w0 w : Wd} {Y : Nat} {th st nu dg dd ld be ib ta fa re ig : Int32} {g2 : Nat → Int32} {V : SV} {i : Nat} (hY : w[Y]? = some (oM Y th st nu dg dd ld be ib ta fa re ig)) (a2 : w[Y + 2]? = some (aI 0 626 g2)) (hV : rowR g2 V) (hi : i < 8) (hno : ¬ (∀ t, t ≤ (V.1 i).1 → (V.1 i).2 t = (V.1 i).2 ((V.1 i).1 - t))) : ∀ (z p : Nat), (V.1 i).1 + 1 = p + z → BX12_isReciprocal w0 (fun r w' => (r = some (.int (nI 1)) ∧ (∀ t, t ≤ (V.1 i).1 → (V.1 i).2 t = (V.1 i).2 ((V.1 i).1 - t)) ∧ w' = w) ∨ (r = some (.int (nI 0)) ∧ ¬ (∀ t, t ≤ (V.1 i).1 → (V.1 i).2 t = (V.1 i).2 ((V.1 i).1 - t)) ∧ w' = w)) w 4 [(3, .int (nI p)), (2, .int (nI 0)), (1, .int (nI i)), (0, .ref Y)] [] := by
  have hd12 := ok_12 hV hi
  intro z
  induction z with
  | zero =>
    intro p hz
    refine g_iload_n (pc := 4) 0 dX12_isReciprocal_4 rfl rfl ?_
    refine g_aload_n (pc := 5) 3 dX12_isReciprocal_5 rfl rfl ?_
    refine g_iload_n (pc := 6) 2 dX12_isReciprocal_6 rfl rfl ?_
    refine g_callV (pc := 7) [.int (nI i)] dX12_isReciprocal_7 cv_X12_119.1 cv_X12_119.2.1 cv_X12_119.2.2.1 cv_X12_119.2.2.2 hY rfl rfl (Nat.le_of_ble_eq_true rfl) (by decide) (by decide) (mp_degreeOf _ hY a2 hi) ?_
    rintro _ w9 ⟨rfl, e9⟩
    refine GP.weq _ e9 ?_
    refine GP.ti (nI (V.1 i).1) (row_dg hV i hi) ?_
    refine n_icmp_gt (pc := 10) 50 dX12_isReciprocal_10 (by decide) (by omega) (by omega) (fun hb9 => ?_) (fun hb9 => ?_)
    · refine g_iload_n (pc := 50) 1 dX12_isReciprocal_50 rfl rfl ?_
      exact g_iret (pc := 51) dX12_isReciprocal_51 (Or.inr ⟨rfl, hno, rfl⟩)
    · exact absurd (show (V.1 i).1 < p by omega) hb9
  | succ z ih =>
    intro p hz
    refine g_iload_n (pc := 4) 0 dX12_isReciprocal_4 rfl rfl ?_
    refine g_aload_n (pc := 5) 3 dX12_isReciprocal_5 rfl rfl ?_
    refine g_iload_n (pc := 6) 2 dX12_isReciprocal_6 rfl rfl ?_
    refine g_callV (pc := 7) [.int (nI i)] dX12_isReciprocal_7 cv_X12_119.1 cv_X12_119.2.1 cv_X12_119.2.2.1 cv_X12_119.2.2.2 hY rfl rfl (Nat.le_of_ble_eq_true rfl) (by decide) (by decide) (mp_degreeOf _ hY a2 hi) ?_
    rintro _ w9 ⟨rfl, e9⟩
    refine GP.weq _ e9 ?_
    refine GP.ti (nI (V.1 i).1) (row_dg hV i hi) ?_
    refine n_icmp_gt (pc := 10) 50 dX12_isReciprocal_10 (by decide) (by omega) (by omega) (fun hb9 => ?_) (fun hb9 => ?_)
    · exact absurd hb9 (by omega)
    · refine g_iload_n (pc := 13) 1 dX12_isReciprocal_13 rfl rfl ?_
      refine n_if_eq (pc := 14) 42 dX12_isReciprocal_14 (by decide) (by omega) (fun hs => ?_) (fun hs => ?_)
      · refine g_iconst (pc := 42) (v := nI 0) dX12_isReciprocal_42 (by decide) ?_
        refine g_istore_n (pc := 43) [(2, .int (nI 0)), (3, .int (nI p)), (1, .int (nI i)), (0, .ref Y)] dX12_isReciprocal_43 rfl (by decide) rfl ?_
        refine n_iinc (pc := 44) (c := 1) [(3, .int (nI (p + 1))), (2, .int (nI 0)), (1, .int (nI i)), (0, .ref Y)] 1 dX12_isReciprocal_44 rfl (by decide) (by decide) rfl ?_
        refine g_goto (pc := 47) 4 dX12_isReciprocal_47 (by decide) ?_
        exact GP.lsub _ (by simp) (ih (p + 1) (by omega))
      · exact absurd rfl hs
theorem rec_1 {w0 w : Wd} {Y : Nat} {th st nu dg dd ld be ib ta fa re ig : Int32} {g2 : Nat → Int32} {V : SV} {i : Nat} (hY : w[Y]? = some (oM Y th st nu dg dd ld be ib ta fa re ig)) (a2 : w[Y + 2]? = some (aI 0 626 g2)) (hV : rowR g2 V) (hi : i < 8)  : ∀ (z p : Nat), (V.1 i).1 + 1 = p + z → (∀ t, t < p → (V.1 i).2 t = (V.1 i).2 ((V.1 i).1 - t)) → BX12_isReciprocal w0 (fun r w' => (r = some (.int (nI 1)) ∧ (∀ t, t ≤ (V.1 i).1 → (V.1 i).2 t = (V.1 i).2 ((V.1 i).1 - t)) ∧ w' = w) ∨ (r = some (.int (nI 0)) ∧ ¬ (∀ t, t ≤ (V.1 i).1 → (V.1 i).2 t = (V.1 i).2 ((V.1 i).1 - t)) ∧ w' = w)) w 4 [(3, .int (nI p)), (2, .int (nI 1)), (1, .int (nI i)), (0, .ref Y)] [] := by
  have hd12 := ok_12 hV hi
  intro z
  induction z with
  | zero =>
    intro p hz hj
    refine g_iload_n (pc := 4) 0 dX12_isReciprocal_4 rfl rfl ?_
    refine g_aload_n (pc := 5) 3 dX12_isReciprocal_5 rfl rfl ?_
    refine g_iload_n (pc := 6) 2 dX12_isReciprocal_6 rfl rfl ?_
    refine g_callV (pc := 7) [.int (nI i)] dX12_isReciprocal_7 cv_X12_119.1 cv_X12_119.2.1 cv_X12_119.2.2.1 cv_X12_119.2.2.2 hY rfl rfl (Nat.le_of_ble_eq_true rfl) (by decide) (by decide) (mp_degreeOf _ hY a2 hi) ?_
    rintro _ w9 ⟨rfl, e9⟩
    refine GP.weq _ e9 ?_
    refine GP.ti (nI (V.1 i).1) (row_dg hV i hi) ?_
    refine n_icmp_gt (pc := 10) 50 dX12_isReciprocal_10 (by decide) (by omega) (by omega) (fun hb9 => ?_) (fun hb9 => ?_)
    · refine g_iload_n (pc := 50) 1 dX12_isReciprocal_50 rfl rfl ?_
      exact g_iret (pc := 51) dX12_isReciprocal_51 (Or.inl ⟨rfl, fun t ht => hj t (by omega), rfl⟩)
    · exact absurd (show (V.1 i).1 < p by omega) hb9
  | succ z ih =>
    intro p hz hj
    refine g_iload_n (pc := 4) 0 dX12_isReciprocal_4 rfl rfl ?_
    refine g_aload_n (pc := 5) 3 dX12_isReciprocal_5 rfl rfl ?_
    refine g_iload_n (pc := 6) 2 dX12_isReciprocal_6 rfl rfl ?_
    refine g_callV (pc := 7) [.int (nI i)] dX12_isReciprocal_7 cv_X12_119.1 cv_X12_119.2.1 cv_X12_119.2.2.1 cv_X12_119.2.2.2 hY rfl rfl (Nat.le_of_ble_eq_true rfl) (by decide) (by decide) (mp_degreeOf _ hY a2 hi) ?_
    rintro _ w9 ⟨rfl, e9⟩
    refine GP.weq _ e9 ?_
    refine GP.ti (nI (V.1 i).1) (row_dg hV i hi) ?_
    refine n_icmp_gt (pc := 10) 50 dX12_isReciprocal_10 (by decide) (by omega) (by omega) (fun hb9 => ?_) (fun hb9 => ?_)
    · exact absurd hb9 (by omega)
    · refine g_iload_n (pc := 13) 1 dX12_isReciprocal_13 rfl rfl ?_
      refine n_if_eq (pc := 14) 42 dX12_isReciprocal_14 (by decide) (by omega) (fun hs => ?_) (fun hs => ?_)
      · exact absurd hs (by decide)
      · have v1 := (hV.1 i hi).2.2 p (by omega)
        have v2 := (hV.1 i hi).2.2 ((V.1 i).1 - p) (by omega)
        refine g_aload_n (pc := 17) 3 dX12_isReciprocal_17 rfl rfl ?_
        refine g_iload_n (pc := 18) 2 dX12_isReciprocal_18 rfl rfl ?_
        refine g_iload_n (pc := 19) 0 dX12_isReciprocal_19 rfl rfl ?_
        refine g_callV (pc := 20) [.int (nI i), .int (nI p)] dX12_isReciprocal_20 cv_X12_122.1 cv_X12_122.2.1 cv_X12_122.2.2.1 cv_X12_122.2.2.2 hY rfl rfl (Nat.le_of_ble_eq_true rfl) (by decide) (by decide) (mp_at _ hY a2 hi (show p < 13 by omega)) ?_
        rintro _ w9 ⟨rfl, e9⟩
        refine GP.weq _ e9 ?_
        refine g_aload_n (pc := 23) 3 dX12_isReciprocal_23 rfl rfl ?_
        refine g_iload_n (pc := 24) 2 dX12_isReciprocal_24 rfl rfl ?_
        refine g_aload_n (pc := 25) 3 dX12_isReciprocal_25 rfl rfl ?_
        refine g_iload_n (pc := 26) 2 dX12_isReciprocal_26 rfl rfl ?_
        refine g_callV (pc := 27) [.int (nI i)] dX12_isReciprocal_27 cv_X12_119.1 cv_X12_119.2.1 cv_X12_119.2.2.1 cv_X12_119.2.2.2 hY rfl rfl (Nat.le_of_ble_eq_true rfl) (by decide) (by decide) (mp_degreeOf _ hY a2 hi) ?_
        rintro _ w9 ⟨rfl, e9⟩
        refine GP.weq _ e9 ?_
        refine GP.ti (nI (V.1 i).1) (row_dg hV i hi) ?_
        refine g_iload_n (pc := 30) 0 dX12_isReciprocal_30 rfl rfl ?_
        refine n_isub (pc := 31) dX12_isReciprocal_31 (by omega) ?_
        refine g_callV (pc := 32) [.int (nI i), .int (nI (((V.1 i).1) - p))] dX12_isReciprocal_32 cv_X12_122.1 cv_X12_122.2.1 cv_X12_122.2.2.1 cv_X12_122.2.2.2 hY rfl rfl (Nat.le_of_ble_eq_true rfl) (by decide) (by decide) (mp_at _ hY a2 hi (show (V.1 i).1 - p < 13 by omega)) ?_
        rintro _ w9 ⟨rfl, e9⟩
        refine GP.weq _ e9 ?_
        refine g_icmp_ne (pc := 35) 42 dX12_isReciprocal_35 (by decide) (fun hne => ?_) (fun hne => ?_)
        · refine g_iconst (pc := 42) (v := nI 0) dX12_isReciprocal_42 (by decide) ?_
          refine g_istore_n (pc := 43) [(2, .int (nI 0)), (3, .int (nI p)), (1, .int (nI i)), (0, .ref Y)] dX12_isReciprocal_43 rfl (by decide) rfl ?_
          refine n_iinc (pc := 44) (c := 1) [(3, .int (nI (p + 1))), (2, .int (nI 0)), (1, .int (nI i)), (0, .ref Y)] 1 dX12_isReciprocal_44 rfl (by decide) (by decide) rfl ?_
          refine g_goto (pc := 47) 4 dX12_isReciprocal_47 (by decide) ?_
          exact GP.lsub _ (by simp) (rec_0 hY a2 hV hi (fun g => hne (Int32.toInt_inj.mp (by rw [v1, v2]; exact g p (by omega)))) z (p + 1) (by omega))
        · rw [Classical.not_not] at hne
          refine g_iconst (pc := 38) (v := nI 1) dX12_isReciprocal_38 (by decide) ?_
          refine g_goto (pc := 39) 43 dX12_isReciprocal_39 (by decide) ?_
          refine g_istore_n (pc := 43) [(2, .int (nI 1)), (3, .int (nI p)), (1, .int (nI i)), (0, .ref Y)] dX12_isReciprocal_43 rfl (by decide) rfl ?_
          refine n_iinc (pc := 44) (c := 1) [(3, .int (nI (p + 1))), (2, .int (nI 1)), (1, .int (nI i)), (0, .ref Y)] 1 dX12_isReciprocal_44 rfl (by decide) (by decide) rfl ?_
          refine g_goto (pc := 47) 4 dX12_isReciprocal_47 (by decide) ?_
          refine GP.lsub _ (by simp) (ih (p + 1) (by omega) (fun t ht => ?_))
          by_cases e : t = p
          · rw [e, ← v1, ← v2, hne]
          · exact hj t (by omega)
theorem mp_isReciprocal (w : Wd) {Y : Nat} {th st nu dg dd ld be ib ta fa re ig : Int32} {g2 : Nat → Int32} {V : SV} {i : Nat} (hY : w[Y]? = some (oM Y th st nu dg dd ld be ib ta fa re ig)) (a2 : w[Y + 2]? = some (aI 0 626 g2)) (hV : rowR g2 V) (hi : i < 8) : EX12_isReciprocal [.ref Y, .int (nI i)] w (fun r w' => (r = some (.int (nI 1)) ∧ (∀ t, t ≤ (V.1 i).1 → (V.1 i).2 t = (V.1 i).2 ((V.1 i).1 - t)) ∧ w' = w) ∨ (r = some (.int (nI 0)) ∧ ¬ (∀ t, t ≤ (V.1 i).1 → (V.1 i).2 t = (V.1 i).2 ((V.1 i).1 - t)) ∧ w' = w)) := by
  refine EP.of (plainFor_of_name (by decide)) [(0, .ref Y), (1, .int (nI i))] rfl (Nat.le_of_ble_eq_true rfl) (fun r wf h => by rcases h with ⟨rfl, -⟩ | ⟨rfl, -⟩; exact Or.inr rfl; exact Or.inl rfl) ?_
  show BX12_isReciprocal w _ w 0 [(0, .ref Y), (1, .int (nI i))] []
  refine g_iconst (pc := 0) (v := nI 1) dX12_isReciprocal_0 (by decide) ?_
  refine g_istore_n (pc := 1) [(2, .int (nI 1)), (0, .ref Y), (1, .int (nI i))] dX12_isReciprocal_1 rfl (by decide) rfl ?_
  refine g_iconst (pc := 2) (v := nI 0) dX12_isReciprocal_2 (by decide) ?_
  refine g_istore_n (pc := 3) [(3, .int (nI 0)), (2, .int (nI 1)), (0, .ref Y), (1, .int (nI i))] dX12_isReciprocal_3 rfl (by decide) rfl ?_
  exact GP.lsub _ (by simp) (rec_1 hY a2 hV hi ((V.1 i).1 + 1) 0 (by omega) (fun t ht => absurd ht (by omega)))
def oneM (F : Nat → Int) (T : Nat) : Prop := ∃ G, coM 43 F T G 0 ∧ (G 0 = 1 ∨ G 0 = -1)
def nonM (F : Nat → Int) (T : Nat) : Prop := ∃ G T', coM 43 F T G T' ∧ ¬ (T' = 0 ∧ (G 0 = 1 ∨ G 0 = -1))
def ofMP (P : PV) (h v : Nat) : Prop := (h = 0 ∧ v = P.1) ∨ ((h = 1 ∨ h = 2 ∨ h = 3 ∨ h = 6 ∨ h = 7 ∨ h = 8) ∧ v = sumF P.2 h 13) ∨ (h = 4 ∧ (((∀ t, t ≤ P.1 → P.2 t = P.2 (P.1 - t)) ∧ v = 1) ∨ (¬ (∀ t, t ≤ P.1 → P.2 t = P.2 (P.1 - t)) ∧ v = 0))) ∨ (h = 5 ∧ ((oneM P.2 P.1 ∧ v = 1) ∨ (nonM P.2 P.1 ∧ v = 0))) ∨ (h = 9 ∧ topL P.2 P.1 6 v)
theorem L9n : (9 : Int64).toInt = 9 := by decide
theorem w9_of {x : Int32} (h : 0 ≤ x.toInt ∧ x.toInt ≤ 9) : ∃ v, x = nI v ∧ v < 10 := ⟨x.toInt.toNat, nI_toNat h.1, by omega⟩
def lvS (Y i : Nat) : Prop := i = Y ∨ i = Y + 12
theorem mdC.lv {w w' : Wd} {Y tl : Nat} {tb : Nat → Int32} {fa st : Int32} {rf : Nat → Nat} {sh : SV} {pn : Nat} {pk : Nat → Nat} {ps : Nat → SV} {im : Nat → Option SV} (hM : mdC w Y tl tb fa st rf sh pn pk ps im) (hR : FR (lvS Y) w w') {th dg dd ld be ib re ig : Int32} (hY : w'[Y]? = some (oM Y th st (nI pn) dg dd ld be ib (nI tl) fa re ig)) {l : Nat → Int64} (h12 : w'[Y + 12]? = some (aL 91 l)) : mdC w' Y tl tb fa st rf sh pn pk ps im ∧ FR (modS Y) w w' := by
  have L : ∀ i c, i ≠ 0 → i ≠ 12 → w[Y + i]? = some c → w'[Y + i]? = some c := fun i c h0 h hc => hR.lk (by unfold lvS; omega) hc
  refine ⟨?_, hR.mono (fun i h => by unfold lvS at h; unfold modS; omega)⟩
  obtain ⟨-, ⟨⟨g1, a1, b1⟩, ⟨g2, a2, b2⟩, ⟨g3, g4, a3, a4, b3, b4⟩, ⟨g5, g6, a5, a6, b5⟩, ⟨g11, a11, b11⟩, ⟨g17, a17, b17⟩⟩, ⟨g7, g8, g9, g10, g12, g13, g14, g18, g19, g20, g21, a7, a8, a9, a10, a12, a13, a14, a18, a19, a20, a21⟩, ⟨g15, g16, a15, a16, b15⟩⟩ := hM
  exact ⟨⟨_, _, _, _, _, _, _, _, hY⟩, ⟨⟨g1, L 1 _ (by omega) (by omega) a1, b1⟩, ⟨g2, L 2 _ (by omega) (by omega) a2, b2⟩, ⟨g3, g4, L 3 _ (by omega) (by omega) a3, L 4 _ (by omega) (by omega) a4, b3, b4⟩, ⟨g5, g6, L 5 _ (by omega) (by omega) a5, L 6 _ (by omega) (by omega) a6, b5⟩, ⟨g11, L 11 _ (by omega) (by omega) a11, b11⟩, ⟨g17, L 17 _ (by omega) (by omega) a17, b17⟩⟩, ⟨_, _, _, _, _, _, _, g18, g19, g20, g21, L 7 _ (by omega) (by omega) a7, L 8 _ (by omega) (by omega) a8, L 9 _ (by omega) (by omega) a9, L 10 _ (by omega) (by omega) a10, h12, L 13 _ (by omega) (by omega) a13, L 14 _ (by omega) (by omega) a14, L 18 _ (by omega) (by omega) a18, L 19 _ (by omega) (by omega) a19, L 20 _ (by omega) (by omega) a20, L 21 _ (by omega) (by omega) a21⟩, ⟨g15, g16, L 15 _ (by omega) (by omega) a15, L 16 _ (by omega) (by omega) a16, b15⟩⟩
abbrev BX12_of (w0 : Wd) (Post : Option Value → Wd → Prop) (w : Wd) (pc : Nat) (ls : List (Nat × Value)) (st : List Value) : Prop := GP "of" RX12 cX12_of 3 (some .int) 4 156 none w0 Post w pc ls st
abbrev EX12_of (As : List Value) (w : Wd) (Post : Option Value → Wd → Prop) : Prop := EP yX12_of cX12_of 3 (some .int) 4 As w Post
theorem mq_of (w : Wd) {Y tl : Nat} {tb : Nat → Int32} {fa st : Int32} {rf : Nat → Nat} {sh : SV} {pn : Nat} {pk : Nat → Nat} {ps : Nat → SV} {im : Nat → Option SV} (hM : mdC w Y tl tb fa st rf sh pn pk ps im) {x y : Int32} : EX12_of [.ref Y, .int x, .int y] w (fun r w' => (¬ (isPl x ∧ 0 ≤ y.toInt ∧ y.toInt ≤ 9) ∧ r = some (.int (-1)) ∧ mdC w' Y tl tb fa st rf sh pn pk ps im ∧ FR (modS Y) w w') ∨ (∃ i h v, x = nI i ∧ i < 8 ∧ y = nI h ∧ h < 10 ∧ ofMP (sh.1 i) h v ∧ r = some (.int (nI v)) ∧ mdC w' Y tl tb fa st rf sh pn pk ps im ∧ FR (modS Y) w w')) := by
  refine EP.of (plainFor_of_name (by decide)) [(0, .ref Y), (1, .int x), (2, .int y)] rfl (Nat.le_of_ble_eq_true rfl) (fun r wf h => by rcases h with ⟨-, rfl, -⟩ | ⟨i, h, v, -, -, -, -, -, rfl, -⟩ <;> trivial) ?_
  show BX12_of w _ w 0 [(0, .ref Y), (1, .int x), (2, .int y)] []
  obtain ⟨⟨th, dg, dd, ld, be, ib, re, ig, hY⟩, ⟨⟨g1, a1, b1⟩, ⟨g2, a2, b2⟩, ⟨g3, g4, a3, a4, b3, b4⟩, ⟨g5, g6, a5, a6, b5⟩, ⟨g11, a11, b11⟩, ⟨g17, a17, b17⟩⟩, ⟨g7, g8, g9, g10, g12, g13, g14, g18, g19, g20, g21, a7, a8, a9, a10, a12, a13, a14, a18, a19, a20, a21⟩, ⟨g15, g16, a15, a16, b15⟩⟩ := id hM
  refine g_aload_n (pc := 0) 0 dX12_of_0 rfl rfl ?_
  refine g_iconst (pc := 1) (v := nI 0) dX12_of_1 (by decide) ?_
  refine g_put (pc := 2) (.int (nI 0) :: .int st :: .ref (Y + 1) :: .ref (Y + 2) :: .ref (Y + 3) :: .ref (Y + 4) :: .int (nI pn) :: .ref (Y + 5) :: .ref (Y + 6) :: .ref (Y + 7) :: .int dg :: .ref (Y + 8) :: .int dd :: .ref (Y + 9) :: .ref (Y + 10) :: .ref (Y + 11) :: .ref (Y + 12) :: .int ld :: .int be :: .int ib :: .ref (Y + 13) :: .ref (Y + 14) :: .ref (Y + 15) :: .ref (Y + 16) :: .ref (Y + 17) :: .int (nI tl) :: .int fa :: .int re :: .int ig :: .ref (Y + 18) :: .ref (Y + 19) :: .ref (Y + 20) :: .ref (Y + 21) :: []) dX12_of_2 fk_X12_83 hY (Nat.le_of_ble_eq_true rfl) rfl rfl ?_
  refine g_iload_n (pc := 5) 1 dX12_of_5 rfl rfl ?_
  refine g_callS (pc := 6) [.int x] dX12_of_6 cs_X12_277.1 cs_X12_277.2 rfl rfl (Nat.le_of_ble_eq_true rfl) (by decide) (by decide) (mp_isStore _) ?_
  rintro _ w9 (⟨rfl, hpi, e9⟩ | ⟨rfl, hpi, e9⟩)
  · refine GP.weq _ e9 ?_
    obtain ⟨i, rfl, hi⟩ := pl_of hpi
    refine n_if_eq (pc := 9) 24 dX12_of_9 (by decide) (by omega) (fun hd9 => ?_) (fun hd9 => ?_)
    · exact absurd hd9 (by decide)
    · refine g_iload_n (pc := 12) 2 dX12_of_12 rfl rfl ?_
      refine g_i2l (pc := 13) dX12_of_13 ?_
      refine g_lconst (pc := 14) (v := 0) dX12_of_14 (by decide) ?_
      refine g_ldc2 (pc := 15) kc_X12_338 dX12_of_15 ?_
      refine g_callS (pc := 18) [.long y.toInt64, .long 0, .long (9)] dX12_of_18 cs_X12_103.1 cs_X12_103.2 rfl rfl (Nat.le_of_ble_eq_true rfl) (by decide) (by decide) (mp_in _) ?_
      rintro _ w9 (⟨rfl, hz, e9⟩ | ⟨rfl, hz, e9⟩)
      · refine GP.weq _ e9 ?_
        rw [IL, L9n, L00] at hz
        obtain ⟨h, rfl, hh⟩ := w9_of hz
        have hok := row_ok b2 hi
        have hi12 := hok.1
        refine n_if_ne (pc := 21) 26 dX12_of_21 (by decide) (by omega) (fun hd9 => ?_) (fun hd9 => ?_)
        · refine g_aload_n (pc := 26) 0 dX12_of_26 rfl rfl ?_
          refine g_iload_n (pc := 27) 1 dX12_of_27 rfl rfl ?_
          obtain ⟨w1, ew1⟩ : ∃ wy : Wd, wy = (w.set Y (.inr (11, .int (nI 0) :: .int st :: .ref (Y + 1) :: .ref (Y + 2) :: .ref (Y + 3) :: .ref (Y + 4) :: .int (nI pn) :: .ref (Y + 5) :: .ref (Y + 6) :: .ref (Y + 7) :: .int dg :: .ref (Y + 8) :: .int dd :: .ref (Y + 9) :: .ref (Y + 10) :: .ref (Y + 11) :: .ref (Y + 12) :: .int ld :: .int be :: .int ib :: .ref (Y + 13) :: .ref (Y + 14) :: .ref (Y + 15) :: .ref (Y + 16) :: .ref (Y + 17) :: .int (nI tl) :: .int fa :: .int re :: .int ig :: .ref (Y + 18) :: .ref (Y + 19) :: .ref (Y + 20) :: .ref (Y + 21) :: []))) := ⟨_, rfl⟩
          refine GP.weq w1 ew1.symm ?_
          have hMz : mdC w1 Y tl tb fa st rf sh pn pk ps im := by rw [ew1]; exact ⟨⟨_, _, _, _, _, _, _, _, (lk_eq hY)⟩, ⟨⟨_, (lk_ne (show Y ≠ (Y + 1) by omega) a1), b1⟩, ⟨_, (lk_ne (show Y ≠ (Y + 2) by omega) a2), b2⟩, ⟨_, _, (lk_ne (show Y ≠ (Y + 3) by omega) a3), (lk_ne (show Y ≠ (Y + 4) by omega) a4), b3, b4⟩, ⟨_, _, (lk_ne (show Y ≠ (Y + 5) by omega) a5), (lk_ne (show Y ≠ (Y + 6) by omega) a6), b5⟩, ⟨_, (lk_ne (show Y ≠ (Y + 11) by omega) a11), b11⟩, ⟨_, (lk_ne (show Y ≠ (Y + 17) by omega) a17), b17⟩⟩, ⟨_, _, _, _, _, _, _, _, _, _, _, (lk_ne (show Y ≠ (Y + 7) by omega) a7), (lk_ne (show Y ≠ (Y + 8) by omega) a8), (lk_ne (show Y ≠ (Y + 9) by omega) a9), (lk_ne (show Y ≠ (Y + 10) by omega) a10), (lk_ne (show Y ≠ (Y + 12) by omega) a12), (lk_ne (show Y ≠ (Y + 13) by omega) a13), (lk_ne (show Y ≠ (Y + 14) by omega) a14), (lk_ne (show Y ≠ (Y + 18) by omega) a18), (lk_ne (show Y ≠ (Y + 19) by omega) a19), (lk_ne (show Y ≠ (Y + 20) by omega) a20), (lk_ne (show Y ≠ (Y + 21) by omega) a21)⟩, ⟨_, _, (lk_ne (show Y ≠ (Y + 15) by omega) a15), (lk_ne (show Y ≠ (Y + 16) by omega) a16), b15⟩⟩
          have hFz : FR (modS Y) w w1 := by rw [ew1]; exact (FR.st (c' := .inr (11, .int (nI 0) :: .int st :: .ref (Y + 1) :: .ref (Y + 2) :: .ref (Y + 3) :: .ref (Y + 4) :: .int (nI pn) :: .ref (Y + 5) :: .ref (Y + 6) :: .ref (Y + 7) :: .int dg :: .ref (Y + 8) :: .int dd :: .ref (Y + 9) :: .ref (Y + 10) :: .ref (Y + 11) :: .ref (Y + 12) :: .int ld :: .int be :: .int ib :: .ref (Y + 13) :: .ref (Y + 14) :: .ref (Y + 15) :: .ref (Y + 16) :: .ref (Y + 17) :: .int (nI tl) :: .int fa :: .int re :: .int ig :: .ref (Y + 18) :: .ref (Y + 19) :: .ref (Y + 20) :: .ref (Y + 21) :: [])) FR.rf hY rfl (by unfold modS; omega))
          have cYz : w1[Y]? = some (.inr (11, .int (nI 0) :: .int st :: .ref (Y + 1) :: .ref (Y + 2) :: .ref (Y + 3) :: .ref (Y + 4) :: .int (nI pn) :: .ref (Y + 5) :: .ref (Y + 6) :: .ref (Y + 7) :: .int dg :: .ref (Y + 8) :: .int dd :: .ref (Y + 9) :: .ref (Y + 10) :: .ref (Y + 11) :: .ref (Y + 12) :: .int ld :: .int be :: .int ib :: .ref (Y + 13) :: .ref (Y + 14) :: .ref (Y + 15) :: .ref (Y + 16) :: .ref (Y + 17) :: .int (nI tl) :: .int fa :: .int re :: .int ig :: .ref (Y + 18) :: .ref (Y + 19) :: .ref (Y + 20) :: .ref (Y + 21) :: [])) := by rw [ew1]; exact (lk_eq hY)
          obtain ⟨⟨thz, dgz, ddz, ldz, bez, ibz, rez, igz, hYz⟩, ⟨⟨g1z, a1z, b1z⟩, ⟨g2z, a2z, b2z⟩, ⟨g3z, g4z, a3z, a4z, b3z, b4z⟩, ⟨g5z, g6z, a5z, a6z, b5z⟩, ⟨g11z, a11z, b11z⟩, ⟨g17z, a17z, b17z⟩⟩, ⟨g7z, g8z, g9z, g10z, g12z, g13z, g14z, g18z, g19z, g20z, g21z, a7z, a8z, a9z, a10z, a12z, a13z, a14z, a18z, a19z, a20z, a21z⟩, ⟨g15z, g16z, a15z, a16z, b15z⟩⟩ := id hMz
          refine g_callV (pc := 28) [.int (nI i)] dX12_of_28 cv_X12_295.1 cv_X12_295.2.1 cv_X12_295.2.2.1 cv_X12_295.2.2.2 cYz rfl rfl (Nat.le_of_ble_eq_true rfl) (by decide) (by decide) (mq_takeH _ hMz hi) ?_
          rintro _ w2 ⟨rfl, hA2, hM2, hF2⟩
          have hF2 := hdm hF2
          obtain ⟨g9, k2, hV9⟩ := hM2.2.1.2.1
          obtain ⟨thA, ddA, ldA, beA, ibA, reA, igA, hA, cYA, c7A, hhA⟩ := id hA2
          refine g_iload_n (pc := 31) 2 dX12_of_31 rfl rfl ?_
          refine n_if_ne (pc := 32) 41 dX12_of_32 (by decide) (by omega) (fun h0 => ?_) (fun h0 => ?_)
          · refine g_iload_n (pc := 41) 2 dX12_of_41 rfl rfl ?_
            refine g_iconst (pc := 42) (v := nI 4) dX12_of_42 (by decide) ?_
            refine n_icmp_ne (pc := 43) 60 dX12_of_43 (by decide) (by omega) (by omega) (fun h4 => ?_) (fun h4 => ?_)
            · refine g_iload_n (pc := 60) 2 dX12_of_60 rfl rfl ?_
              refine g_iconst (pc := 61) (v := nI 5) dX12_of_61 (by decide) ?_
              refine n_icmp_ne (pc := 62) 78 dX12_of_62 (by decide) (by omega) (by omega) (fun h5 => ?_) (fun h5 => ?_)
              · refine g_iload_n (pc := 78) 2 dX12_of_78 rfl rfl ?_
                refine g_bipush (pc := 79) (v := nI 9) dX12_of_79 (by decide) ?_
                refine n_icmp_ne (pc := 81) 93 dX12_of_81 (by decide) (by omega) (by omega) (fun h9 => ?_) (fun h9 => ?_)
                · have hm : h = 1 ∨ h = 2 ∨ h = 3 ∨ h = 6 ∨ h = 7 ∨ h = 8 := by omega
                  refine g_aload_n (pc := 93) 0 dX12_of_93 rfl rfl ?_
                  refine g_iload_n (pc := 94) 1 dX12_of_94 rfl rfl ?_
                  refine g_iload_n (pc := 95) 2 dX12_of_95 rfl rfl ?_
                  refine g_callV (pc := 96) [.int (nI i), .int (nI h)] dX12_of_96 cv_X12_343.1 cv_X12_343.2.1 cv_X12_343.2.2.1 cv_X12_343.2.2.2 cYA rfl rfl (Nat.le_of_ble_eq_true rfl) (by decide) (by decide) (mp_sum _ cYA k2 hV9 hi hm) ?_
                  rintro _ w9 ⟨rfl, e9⟩
                  refine GP.weq _ e9 ?_
                  exact g_iret (pc := 99) dX12_of_99 (Or.inr ⟨i, h, _, rfl, hi, rfl, hh, Or.inr (Or.inl ⟨hm, rfl⟩), rfl, hM2, hFz.tr hF2⟩)
                · have hG : ∀ j, j ≤ (sh.1 i).1 → (hA j).toInt = (sh.1 i).2 j := fun j hj => by rw [hhA j (by omega), if_pos hj]
                  obtain ⟨l12, c12⟩ : ∃ f, w2[Y + 12]? = some (aL 91 f) := by
                    obtain ⟨-, -, ⟨_, _, _, _, _, _, _, _, _, _, _, _, _, _, _, h12, -⟩, -⟩ := hM2
                    exact ⟨_, h12⟩
                  refine g_aload_n (pc := 84) 0 dX12_of_84 rfl rfl ?_
                  refine g_callV (pc := 85) [] dX12_of_85 cv_X12_303.1 cv_X12_303.2.1 cv_X12_303.2.2.1 cv_X12_303.2.2.2 cYA rfl rfl (Nat.le_of_ble_eq_true rfl) (by decide) (by decide) (mp_layLevels _ (F := (sh.1 i).2) cYA c7A c12 hi12 hG) ?_
                  rintro _ w9 ⟨rfl, T, bb, l, hTT, hl, e9⟩
                  refine GP.weq _ e9 ?_
                  obtain ⟨hM3, hF3⟩ := hM2.lv (w' := ((w2.set (Y + 12) (aL 91 l)).set Y (.inr (11, .int thA :: .int st :: .ref (Y + 1) :: .ref (Y + 2) :: .ref (Y + 3) :: .ref (Y + 4) :: .int (nI pn) :: .ref (Y + 5) :: .ref (Y + 6) :: .ref (Y + 7) :: .int (nI ((sh.1 i).1)) :: .ref (Y + 8) :: .int ddA :: .ref (Y + 9) :: .ref (Y + 10) :: .ref (Y + 11) :: .ref (Y + 12) :: .int (nI ((sh.1 i).1)) :: .int (nI T) :: .int (nI bb) :: .ref (Y + 13) :: .ref (Y + 14) :: .ref (Y + 15) :: .ref (Y + 16) :: .ref (Y + 17) :: .int (nI tl) :: .int fa :: .int reA :: .int igA :: .ref (Y + 18) :: .ref (Y + 19) :: .ref (Y + 20) :: .ref (Y + 21) :: [])))) (FR.st (c' := .inr (11, .int thA :: .int st :: .ref (Y + 1) :: .ref (Y + 2) :: .ref (Y + 3) :: .ref (Y + 4) :: .int (nI pn) :: .ref (Y + 5) :: .ref (Y + 6) :: .ref (Y + 7) :: .int (nI ((sh.1 i).1)) :: .ref (Y + 8) :: .int ddA :: .ref (Y + 9) :: .ref (Y + 10) :: .ref (Y + 11) :: .ref (Y + 12) :: .int (nI ((sh.1 i).1)) :: .int (nI T) :: .int (nI bb) :: .ref (Y + 13) :: .ref (Y + 14) :: .ref (Y + 15) :: .ref (Y + 16) :: .ref (Y + 17) :: .int (nI tl) :: .int fa :: .int reA :: .int igA :: .ref (Y + 18) :: .ref (Y + 19) :: .ref (Y + 20) :: .ref (Y + 21) :: [])) (FR.st (c' := aL 91 l) FR.rf c12 rfl (by unfold lvS; omega)) (lk_ne (show (Y + 12) ≠ Y by omega) cYA) rfl (by unfold lvS; omega)) (lk_eq (lk_ne (show (Y + 12) ≠ Y by omega) cYA)) (lk_ne (show Y ≠ (Y + 12) by omega) (lk_eq c12))
                  refine g_aload_n (pc := 88) 0 dX12_of_88 rfl rfl ?_
                  refine g_get (pc := 89) dX12_of_89 fk_X12_196 (lk_eq (lk_ne (show (Y + 12) ≠ Y by omega) cYA)) rfl ?_
                  exact g_iret (pc := 92) dX12_of_92 (Or.inr ⟨i, h, T, rfl, hi, rfl, hh, Or.inr (Or.inr (Or.inr (Or.inr ⟨h9, hTT⟩))), rfl, hM3, hFz.tr (hF2.tr hF3)⟩)
              · have hG : hgO (sh.1 i).2 (sh.1 i).1 := ⟨by omega, hok.2.2.1, fun t ht => by have := hok.2.1 t ht; omega⟩
                refine g_aload_n (pc := 65) 0 dX12_of_65 rfl rfl ?_
                refine g_callV (pc := 66) [] dX12_of_66 cv_X12_309.1 cv_X12_309.2.1 cv_X12_309.2.2.1 cv_X12_309.2.2.2 cYA rfl rfl (Nat.le_of_ble_eq_true rfl) (by decide) (by decide) (mq_isOne _ hM2 hA2 hG) ?_
                rintro _ w9 (⟨rfl, h1, hM3, hF3⟩ | ⟨rfl, h1, hM3, hF3⟩)
                · have hF3 := hdm hF3
                  refine n_if_eq (pc := 69) 76 dX12_of_69 (by decide) (by omega) (fun hd9 => ?_) (fun hd9 => ?_)
                  · exact absurd hd9 (by decide)
                  · refine g_iconst (pc := 72) (v := nI 1) dX12_of_72 (by decide) ?_
                    refine g_goto (pc := 73) 77 dX12_of_73 (by decide) ?_
                    exact g_iret (pc := 77) dX12_of_77 (Or.inr ⟨i, h, 1, rfl, hi, rfl, hh, Or.inr (Or.inr (Or.inr (Or.inl ⟨h5, Or.inl ⟨h1, rfl⟩⟩))), rfl, hM3, hFz.tr (hF2.tr hF3)⟩)
                · have hF3 := hdm hF3
                  refine n_if_eq (pc := 69) 76 dX12_of_69 (by decide) (by omega) (fun hd9 => ?_) (fun hd9 => ?_)
                  · refine g_iconst (pc := 76) (v := nI 0) dX12_of_76 (by decide) ?_
                    exact g_iret (pc := 77) dX12_of_77 (Or.inr ⟨i, h, 0, rfl, hi, rfl, hh, Or.inr (Or.inr (Or.inr (Or.inl ⟨h5, Or.inr ⟨h1, rfl⟩⟩))), rfl, hM3, hFz.tr (hF2.tr hF3)⟩)
                  · exact absurd rfl hd9
            · refine g_aload_n (pc := 46) 0 dX12_of_46 rfl rfl ?_
              refine g_iload_n (pc := 47) 1 dX12_of_47 rfl rfl ?_
              refine g_callV (pc := 48) [.int (nI i)] dX12_of_48 cv_X12_340.1 cv_X12_340.2.1 cv_X12_340.2.2.1 cv_X12_340.2.2.2 cYA rfl rfl (Nat.le_of_ble_eq_true rfl) (by decide) (by decide) (mp_isReciprocal _ cYA k2 hV9 hi) ?_
              rintro _ w9 (⟨rfl, h1, e9⟩ | ⟨rfl, h1, e9⟩)
              · refine GP.weq _ e9 ?_
                refine n_if_eq (pc := 51) 58 dX12_of_51 (by decide) (by omega) (fun hd9 => ?_) (fun hd9 => ?_)
                · exact absurd hd9 (by decide)
                · refine g_iconst (pc := 54) (v := nI 1) dX12_of_54 (by decide) ?_
                  refine g_goto (pc := 55) 59 dX12_of_55 (by decide) ?_
                  exact g_iret (pc := 59) dX12_of_59 (Or.inr ⟨i, h, 1, rfl, hi, rfl, hh, Or.inr (Or.inr (Or.inl ⟨h4, Or.inl ⟨h1, rfl⟩⟩)), rfl, hM2, hFz.tr hF2⟩)
              · refine GP.weq _ e9 ?_
                refine n_if_eq (pc := 51) 58 dX12_of_51 (by decide) (by omega) (fun hd9 => ?_) (fun hd9 => ?_)
                · refine g_iconst (pc := 58) (v := nI 0) dX12_of_58 (by decide) ?_
                  exact g_iret (pc := 59) dX12_of_59 (Or.inr ⟨i, h, 0, rfl, hi, rfl, hh, Or.inr (Or.inr (Or.inl ⟨h4, Or.inr ⟨h1, rfl⟩⟩)), rfl, hM2, hFz.tr hF2⟩)
                · exact absurd rfl hd9
          · refine g_aload_n (pc := 35) 0 dX12_of_35 rfl rfl ?_
            refine g_iload_n (pc := 36) 1 dX12_of_36 rfl rfl ?_
            refine g_callV (pc := 37) [.int (nI i)] dX12_of_37 cv_X12_119.1 cv_X12_119.2.1 cv_X12_119.2.2.1 cv_X12_119.2.2.2 cYA rfl rfl (Nat.le_of_ble_eq_true rfl) (by decide) (by decide) (mp_degreeOf _ cYA k2 hi) ?_
            rintro _ w9 ⟨rfl, e9⟩
            refine GP.weq _ e9 ?_
            refine GP.ti (nI (sh.1 i).1) (row_dg hV9 i hi) ?_
            exact g_iret (pc := 40) dX12_of_40 (Or.inr ⟨i, h, _, rfl, hi, rfl, hh, Or.inl ⟨h0, rfl⟩, rfl, hM2, hFz.tr hF2⟩)
        · exact absurd hd9 (by decide)
      · refine GP.weq _ e9 ?_
        rw [IL, L9n, L00] at hz
        refine n_if_ne (pc := 21) 26 dX12_of_21 (by decide) (by omega) (fun hd9 => ?_) (fun hd9 => ?_)
        · exact absurd rfl hd9
        · refine g_iconst (pc := 24) (v := -1) dX12_of_24 (by decide) ?_
          exact g_iret (pc := 25) dX12_of_25 (Or.inl ⟨fun g => hz g.2, rfl, ⟨⟨_, _, _, _, _, _, _, _, (lk_eq hY)⟩, ⟨⟨_, (lk_ne (show Y ≠ (Y + 1) by omega) a1), b1⟩, ⟨_, (lk_ne (show Y ≠ (Y + 2) by omega) a2), b2⟩, ⟨_, _, (lk_ne (show Y ≠ (Y + 3) by omega) a3), (lk_ne (show Y ≠ (Y + 4) by omega) a4), b3, b4⟩, ⟨_, _, (lk_ne (show Y ≠ (Y + 5) by omega) a5), (lk_ne (show Y ≠ (Y + 6) by omega) a6), b5⟩, ⟨_, (lk_ne (show Y ≠ (Y + 11) by omega) a11), b11⟩, ⟨_, (lk_ne (show Y ≠ (Y + 17) by omega) a17), b17⟩⟩, ⟨_, _, _, _, _, _, _, _, _, _, _, (lk_ne (show Y ≠ (Y + 7) by omega) a7), (lk_ne (show Y ≠ (Y + 8) by omega) a8), (lk_ne (show Y ≠ (Y + 9) by omega) a9), (lk_ne (show Y ≠ (Y + 10) by omega) a10), (lk_ne (show Y ≠ (Y + 12) by omega) a12), (lk_ne (show Y ≠ (Y + 13) by omega) a13), (lk_ne (show Y ≠ (Y + 14) by omega) a14), (lk_ne (show Y ≠ (Y + 18) by omega) a18), (lk_ne (show Y ≠ (Y + 19) by omega) a19), (lk_ne (show Y ≠ (Y + 20) by omega) a20), (lk_ne (show Y ≠ (Y + 21) by omega) a21)⟩, ⟨_, _, (lk_ne (show Y ≠ (Y + 15) by omega) a15), (lk_ne (show Y ≠ (Y + 16) by omega) a16), b15⟩⟩, (FR.st (c' := .inr (11, .int (nI 0) :: .int st :: .ref (Y + 1) :: .ref (Y + 2) :: .ref (Y + 3) :: .ref (Y + 4) :: .int (nI pn) :: .ref (Y + 5) :: .ref (Y + 6) :: .ref (Y + 7) :: .int dg :: .ref (Y + 8) :: .int dd :: .ref (Y + 9) :: .ref (Y + 10) :: .ref (Y + 11) :: .ref (Y + 12) :: .int ld :: .int be :: .int ib :: .ref (Y + 13) :: .ref (Y + 14) :: .ref (Y + 15) :: .ref (Y + 16) :: .ref (Y + 17) :: .int (nI tl) :: .int fa :: .int re :: .int ig :: .ref (Y + 18) :: .ref (Y + 19) :: .ref (Y + 20) :: .ref (Y + 21) :: [])) FR.rf hY rfl (by unfold modS; omega))⟩)
  · refine GP.weq _ e9 ?_
    refine n_if_eq (pc := 9) 24 dX12_of_9 (by decide) (by omega) (fun hd9 => ?_) (fun hd9 => ?_)
    · refine g_iconst (pc := 24) (v := -1) dX12_of_24 (by decide) ?_
      exact g_iret (pc := 25) dX12_of_25 (Or.inl ⟨fun g => hpi g.1, rfl, ⟨⟨_, _, _, _, _, _, _, _, (lk_eq hY)⟩, ⟨⟨_, (lk_ne (show Y ≠ (Y + 1) by omega) a1), b1⟩, ⟨_, (lk_ne (show Y ≠ (Y + 2) by omega) a2), b2⟩, ⟨_, _, (lk_ne (show Y ≠ (Y + 3) by omega) a3), (lk_ne (show Y ≠ (Y + 4) by omega) a4), b3, b4⟩, ⟨_, _, (lk_ne (show Y ≠ (Y + 5) by omega) a5), (lk_ne (show Y ≠ (Y + 6) by omega) a6), b5⟩, ⟨_, (lk_ne (show Y ≠ (Y + 11) by omega) a11), b11⟩, ⟨_, (lk_ne (show Y ≠ (Y + 17) by omega) a17), b17⟩⟩, ⟨_, _, _, _, _, _, _, _, _, _, _, (lk_ne (show Y ≠ (Y + 7) by omega) a7), (lk_ne (show Y ≠ (Y + 8) by omega) a8), (lk_ne (show Y ≠ (Y + 9) by omega) a9), (lk_ne (show Y ≠ (Y + 10) by omega) a10), (lk_ne (show Y ≠ (Y + 12) by omega) a12), (lk_ne (show Y ≠ (Y + 13) by omega) a13), (lk_ne (show Y ≠ (Y + 14) by omega) a14), (lk_ne (show Y ≠ (Y + 18) by omega) a18), (lk_ne (show Y ≠ (Y + 19) by omega) a19), (lk_ne (show Y ≠ (Y + 20) by omega) a20), (lk_ne (show Y ≠ (Y + 21) by omega) a21)⟩, ⟨_, _, (lk_ne (show Y ≠ (Y + 15) by omega) a15), (lk_ne (show Y ≠ (Y + 16) by omega) a16), b15⟩⟩, (FR.st (c' := .inr (11, .int (nI 0) :: .int st :: .ref (Y + 1) :: .ref (Y + 2) :: .ref (Y + 3) :: .ref (Y + 4) :: .int (nI pn) :: .ref (Y + 5) :: .ref (Y + 6) :: .ref (Y + 7) :: .int dg :: .ref (Y + 8) :: .int dd :: .ref (Y + 9) :: .ref (Y + 10) :: .ref (Y + 11) :: .ref (Y + 12) :: .int ld :: .int be :: .int ib :: .ref (Y + 13) :: .ref (Y + 14) :: .ref (Y + 15) :: .ref (Y + 16) :: .ref (Y + 17) :: .int (nI tl) :: .int fa :: .int re :: .int ig :: .ref (Y + 18) :: .ref (Y + 19) :: .ref (Y + 20) :: .ref (Y + 21) :: [])) FR.rf hY rfl (by unfold modS; omega))⟩)
    · exact absurd rfl hd9
