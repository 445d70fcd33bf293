/-! Whole: divide, lessOne, isAbove -/
theorem dec1 (x : Int32) : x + Int32.ofInt (-1) = x - 1 := by
  rw [Int32.sub_eq_add_neg]
  rfl
theorem nI_dec0 : nI 0 - 1 = -1 := by decide
theorem L_shl_or {x y : Int64} (hx : 0 ≤ x.toInt ∧ x.toInt < 34359738368) (hy : 0 ≤ y.toInt ∧ y.toInt < 268435456) : ((x <<< ((nI 28).toInt64 &&& 63)) ||| y).toInt = x.toInt * 268435456 + y.toInt := by
  have hx0 := L_toNat hx.1
  have hy0 := L_toNat hy.1
  have e : ((x <<< ((nI 28).toInt64 &&& 63)) ||| y).toBitVec.toNat = x.toUInt64.toNat * 268435456 + y.toUInt64.toNat := by
    have h1 : (x <<< ((nI 28).toInt64 &&& 63)).toBitVec.toNat = x.toUInt64.toNat * 268435456 := by
      have h2 : (x <<< ((nI 28).toInt64 &&& 63)).toBitVec = x.toBitVec <<< 28 := by
        have : (nI 28).toInt64 &&& 63 = 28 := by decide
        rw [this]
        show x.toBitVec <<< ((28 : Int64).toBitVec.smod 64#64) = _
        rfl
      rw [h2, BitVec.toNat_shiftLeft, Nat.shiftLeft_eq]
      show x.toUInt64.toNat * 2 ^ 28 % 2 ^ 64 = _
      rw [Nat.mod_eq_of_lt (by omega)]
    rw [Int64.toBitVec_or, BitVec.toNat_or, h1]
    show x.toUInt64.toNat * 2 ^ 28 ||| y.toUInt64.toNat = x.toUInt64.toNat * 2 ^ 28 + y.toUInt64.toNat
    rw [Nat.mul_comm, Nat.two_pow_add_eq_or_of_lt (by omega)]
  show ((x <<< ((nI 28).toInt64 &&& 63)) ||| y).toBitVec.toInt = _
  rw [BitVec.toInt_eq_toNat_bmod, e]
  rw [bmod64 (by omega) (by omega)]
  omega
theorem L_divn {x y : Int64} (hx : 0 ≤ x.toInt) (hy : 0 < y.toInt) : (x / y).toInt = x.toInt / y.toInt := by
  rw [L_div (by omega), Int.tdiv_eq_ediv_of_nonneg hx]
theorem L_remn {x y : Int64} (hx : 0 ≤ x.toInt) (hy : 0 < y.toInt) : (x - x / y * y).toInt = x.toInt % y.toInt := by
  have h1 := L_divn hx hy
  have h3 : 0 ≤ x.toInt / y.toInt := Int.ediv_nonneg hx (by omega)
  have h4 := Int.mul_ediv_add_emod x.toInt y.toInt
  have h5 : 0 ≤ x.toInt % y.toInt := Int.emod_nonneg _ (by omega)
  have h6 : (x / y).toInt * y.toInt = x.toInt - x.toInt % y.toInt := by rw [h1, Int.mul_comm]; omega
  have h7 := L_hi x
  have h9 : 0 ≤ (x / y).toInt * y.toInt := Int.mul_nonneg (by omega) (by omega)
  have h8 : (x / y * y).toInt = x.toInt - x.toInt % y.toInt := by
    rw [L_mul (by omega) (by omega), h6]
  rw [L_sub (by omega) (by omega), h8]
  omega
def dvI (ds : Nat → Int64) (n dv c : Nat) (cur : Nat → Int64) (rest : Int64) : Prop := (∀ j, j < c → cur j = ds j) ∧ dgs cur n ∧ 0 ≤ rest.toInt ∧ rest.toInt < dv ∧ vl ds n - vl ds c = (vl cur n - vl cur c) * dv + rest.toInt * 268435456 ^ c
theorem dvI_s {ds cur : Nat → Int64} {n dv c : Nat} {rest dvl : Int64} (hdv : dvl.toInt = dv) (h0 : 0 < dv) (hd1 : dv < 268435456) (hc : c < n) (h : dvI ds n dv (c + 1) cur rest) : dvI ds n dv c (vp_updL cur c ((rest <<< ((nI 28).toInt64 &&& 63) ||| cur c) / dvl)) ((rest <<< ((nI 28).toInt64 &&& 63) ||| cur c) - (rest <<< ((nI 28).toInt64 &&& 63) ||| cur c) / dvl * dvl) := by
  obtain ⟨h1, h2, h3, h4, h5⟩ := h
  have hc1 := h2 c hc
  have e := L_shl_or (x := rest) (y := cur c) ⟨h3, by omega⟩ hc1
  generalize (rest <<< ((nI 28).toInt64 &&& 63) ||| cur c) = hd at *
  have hd0 : 0 ≤ hd.toInt := by omega
  have eq := L_divn (y := dvl) hd0 (by omega)
  have er := L_remn (y := dvl) hd0 (by omega)
  rw [hdv] at eq er
  generalize hd / dvl = Q at *
  generalize hd - Q * dvl = R at *
  have hdm := Int.mul_ediv_add_emod hd.toInt (dv : Int)
  have hr0 : 0 ≤ hd.toInt % (dv : Int) := Int.emod_nonneg _ (by omega)
  have hr1 : hd.toInt % (dv : Int) < dv := Int.emod_lt_of_pos _ (by omega)
  have hq0 : 0 ≤ Q.toInt := by rw [eq]; exact Int.ediv_nonneg hd0 (by omega)
  have hq1 : Q.toInt < 268435456 := by
    rw [eq]
    apply Int.ediv_lt_of_lt_mul (by omega)
    have h9 : rest.toInt * 268435456 + 268435456 ≤ (dv : Int) * 268435456 := by
      have h91 : (rest.toInt + 1) * 268435456 ≤ (dv : Int) * 268435456 := Int.mul_le_mul_of_nonneg_right (by omega) (by decide)
      omega
    omega
  refine ⟨fun j hj => by rw [upL_n (by omega)]; exact h1 j (by omega), fun j hj => ?_, by omega, by omega, ?_⟩
  · by_cases hj2 : j = c
    · subst hj2; rw [upL_s]; exact ⟨hq0, hq1⟩
    · rw [upL_n hj2]; exact h2 j hj
  · rw [vl_up hc, vl_congr (f := vp_updL cur c Q) (g := cur) (n := c) (fun j hj => upL_n (by omega))]
    have e1 : vl ds (c + 1) = vl ds c + (ds c).toInt * 268435456 ^ c := rfl
    have e2 : vl cur (c + 1) = vl cur c + (cur c).toInt * 268435456 ^ c := rfl
    have e3 : cur c = ds c := h1 c (by omega)
    have e4 : rest.toInt * 268435456 + (cur c).toInt = (dv : Int) * Q.toInt + R.toInt := by rw [← e, eq, er]; omega
    rw [e1, e2, Int.pow_succ, e3] at h5
    rw [e3] at e4 ⊢
    generalize (268435456 : Int) ^ c = A at *
    grind
theorem dvI_0 {ds : Nat → Int64} {n dv : Nat} (h : dgs ds n) (h0 : 0 < dv) : dvI ds n dv n ds 0 := ⟨fun _ _ => rfl, h, by decide, by show (0 : Int) < _; omega, by show _ = _ + (0 : Int) * _; rw [Int.sub_self]; simp⟩
theorem dvI_end {ds cur : Nat → Int64} {n dv : Nat} {rest : Int64} (h0 : 0 < dv) (h : dvI ds n dv 0 cur rest) : dgs cur n ∧ vl cur n = vl ds n / dv := by
  obtain ⟨h1, h2, h3, h4, h5⟩ := h
  refine ⟨h2, ?_⟩
  have e : vl ds n = vl cur n * dv + rest.toInt := by
    have : vl ds 0 = 0 := rfl
    have : vl cur 0 = 0 := rfl
    have : (268435456 : Int) ^ 0 = 1 := rfl
    grind
  rw [e, Int.add_comm, Int.add_mul_ediv_right _ _ (by omega), Int.ediv_eq_zero_of_lt h3 h4]
  omega
abbrev BX10_divide (w0 : Wd) (Post : Option Value → Wd → Prop) (w : Wd) (pc : Nat) (ls : List (Nat × Value)) (st : List Value) : Prop := GP "divide" RX10 cX10_divide 7 none 1 39 none w0 Post w pc ls st
abbrev EX10_divide (As : List Value) (w : Wd) (Post : Option Value → Wd → Prop) : Prop := EP yX10_divide cX10_divide 7 none 1 As w Post
theorem dv_loop {w0 w : Wd} {Post : Option Value → Wd → Prop} {o a N n dv : Nat} {ds : Nat → Int64} (ho : w[o]? = some (oW a n)) (ha : w[a]? = some (aL N ds)) (hoa : o ≠ a) (hN : N < 2147483648) (hn : n ≤ N) (hd : dgs ds n) (h0 : 0 < dv) (h1 : dv < 268435456) (hx : ∀ cur, dgs cur n → vl cur n = vl ds n / dv → BX10_divide w0 Post (w.set a (aL N cur)) 58 [(0, .ref o), (1, .int (nI dv))] []) : ∀ (c : Nat) (cur : Nat → Int64) (rest : Int64), c ≤ n → dvI ds n dv c cur rest → BX10_divide w0 Post (w.set a (aL N cur)) 15 [(4, .int (nI c - 1)), (2, .long rest), (0, .ref o), (1, .int (nI dv))] [] := by
  intro c
  induction c with
  | zero =>
    intro cur rest hc h
    rw [nI_dec0]
    refine g_iload (pc := 15) 0 dX10_divide_15 rfl ?_
    refine g_if_lt (pc := 17) 58 dX10_divide_17 (by decide) (fun hz => ?_) (fun hz => ?_)
    · refine GP.lsub [(0, .ref o), (1, .int (nI dv))] (by simp) ?_
      exact hx cur (dvI_end h0 h).1 (dvI_end h0 h).2
    · exact absurd (by decide) hz
  | succ c ih =>
    intro cur rest hc h
    rw [nI_pred]
    refine g_iload (pc := 15) 0 dX10_divide_15 rfl ?_
    refine n_if_lt (pc := 17) 58 dX10_divide_17 (by decide) (by omega) ?_
    refine g_lload_n (pc := 20) 1 dX10_divide_20 rfl rfl ?_
    refine g_bipush (pc := 21) (v := nI 28) dX10_divide_21 (by decide) ?_
    refine g_lshl (pc := 23) dX10_divide_23 ?_
    refine g_aload_n (pc := 24) 2 dX10_divide_24 rfl rfl ?_
    refine g_get (pc := 25) dX10_divide_25 fk_X10_19 (lk_ne (Ne.symm hoa) ho) rfl ?_
    refine g_iload (pc := 28) 0 dX10_divide_28 rfl ?_
    refine g_lald (pc := 30) c dX10_divide_30 (lk_eq ha) (IXn (by omega) (by omega)) ?_
    refine g_lor (pc := 31) dX10_divide_31 ?_
    refine g_lstore (pc := 32) [(5, .long ((rest <<< ((nI 28).toInt64 &&& 63)) ||| (cur c))), (4, .int (nI c)), (2, .long rest), (0, .ref o), (1, .int (nI dv))] dX10_divide_32 (by decide) rfl ?_
    refine g_aload_n (pc := 34) 3 dX10_divide_34 rfl rfl ?_
    refine g_get (pc := 35) dX10_divide_35 fk_X10_19 (lk_ne (Ne.symm hoa) ho) rfl ?_
    refine g_iload (pc := 38) 1 dX10_divide_38 rfl ?_
    refine g_lload (pc := 40) 0 dX10_divide_40 rfl ?_
    refine g_iload_n (pc := 42) 4 dX10_divide_42 rfl rfl ?_
    refine g_i2l (pc := 43) dX10_divide_43 ?_
    refine g_ldiv (pc := 44) dX10_divide_44 (fun g => absurd (L0.mpr g) (by rw [IL, nI_toInt (by omega)]; omega)) ?_
    refine g_last (pc := 45) c dX10_divide_45 (lk_eq ha) (IXn (by omega) (by omega)) ?_
    refine GP.weq (w.set a (aL N (vp_updL cur c (((rest <<< ((nI 28).toInt64 &&& 63)) ||| (cur c)) / ((nI dv).toInt64))))) (by rw [List.set_set]) ?_
    refine g_lload (pc := 46) 0 dX10_divide_46 rfl ?_
    refine g_iload_n (pc := 48) 4 dX10_divide_48 rfl rfl ?_
    refine g_i2l (pc := 49) dX10_divide_49 ?_
    refine g_lrem (pc := 50) dX10_divide_50 (fun g => absurd (L0.mpr g) (by rw [IL, nI_toInt (by omega)]; omega)) ?_
    refine g_lstore_n (pc := 51) [(2, .long (((rest <<< ((nI 28).toInt64 &&& 63)) ||| (cur c)) - ((rest <<< ((nI 28).toInt64 &&& 63)) ||| (cur c)) / ((nI dv).toInt64) * ((nI dv).toInt64))), (5, .long ((rest <<< ((nI 28).toInt64 &&& 63)) ||| (cur c))), (4, .int (nI c)), (0, .ref o), (1, .int (nI dv))] dX10_divide_51 rfl (by decide) rfl ?_
    refine g_iinc (pc := 52) [(4, .int (nI c - 1)), (2, .long (((rest <<< ((nI 28).toInt64 &&& 63)) ||| (cur c)) - ((rest <<< ((nI 28).toInt64 &&& 63)) ||| (cur c)) / ((nI dv).toInt64) * ((nI dv).toInt64))), (5, .long ((rest <<< ((nI 28).toInt64 &&& 63)) ||| (cur c))), (0, .ref o), (1, .int (nI dv))] 2 dX10_divide_52 rfl (dec1 _) (by decide) rfl ?_
    refine g_goto (pc := 55) 15 dX10_divide_55 (by decide) ?_
    exact GP.lsub _ (by simp) (ih _ _ (by omega) (dvI_s (by rw [IL, nI_toInt (by omega)]) h0 h1 (by omega) h))
theorem sp_divide (w : Wd) {o a N n dv : Nat} {ds : Nat → Int64} (ho : w[o]? = some (oW a n)) (ha : w[a]? = some (aL N ds)) (hoa : o ≠ a) (hN : N < 2147483648) (hn : n ≤ N) (hd : dgs ds n) (h0 : 0 < dv) (h1 : dv < 268435456) : EX10_divide [.ref o, .int (nI dv)] w (fun r w' => r = none ∧ ∃ ds' n', wf ds' n' ∧ vl ds' n' = vl ds n / dv ∧ n' ≤ n ∧ w' = (w.set o (oW a n')).set a (aL N ds')) := by
  refine EP.of (plainFor_of_name (by decide)) [(0, .ref o), (1, .int (nI dv))] rfl (Nat.le_of_ble_eq_true rfl) (fun r wf h => by obtain ⟨rfl, -⟩ := h; trivial) ?_
  show BX10_divide w _ w 0 [(0, .ref o), (1, .int (nI dv))] []
  refine g_iload_n (pc := 0) 1 dX10_divide_0 rfl rfl ?_
  refine n_if_gt (pc := 1) 5 dX10_divide_1 (by decide) (by omega) (fun hz => ?_) (fun hz => ?_)
  · refine g_lconst (pc := 5) (v := 0) dX10_divide_5 (by decide) ?_
    refine g_lstore_n (pc := 6) [(2, .long 0), (0, .ref o), (1, .int (nI dv))] dX10_divide_6 rfl (by decide) rfl ?_
    refine g_aload_n (pc := 7) 1 dX10_divide_7 rfl rfl ?_
    refine g_get (pc := 8) dX10_divide_8 fk_X10_9 ho rfl ?_
    refine g_iconst (pc := 11) (v := nI 1) dX10_divide_11 (by decide) ?_
    refine g_isub (pc := 12) dX10_divide_12 ?_
    refine g_istore (pc := 13) [(4, .int ((nI n) - (nI 1))), (2, .long 0), (0, .ref o), (1, .int (nI dv))] dX10_divide_13 (by decide) rfl ?_
    refine GP.weq (w.set a (aL N ds)) (by rw [set_same ha]) ?_
    refine GP.lsub [(4, .int (nI n - 1)), (2, .long 0), (0, .ref o), (1, .int (nI dv))] (by simp; rfl) ?_
    refine dv_loop ho ha hoa hN hn hd h0 h1 (fun cur hc hv => ?_) n ds 0 (Nat.le_refl _) (dvI_0 hd h0)
    refine g_aload_n (pc := 58) 0 dX10_divide_58 rfl rfl ?_
    refine g_aload_n (pc := 59) 0 dX10_divide_59 rfl rfl ?_
    refine g_get (pc := 60) dX10_divide_60 fk_X10_9 (lk_ne (Ne.symm hoa) ho) rfl ?_
    refine g_callV (pc := 63) [.int (nI n)] dX10_divide_63 cv_X10_28.1 cv_X10_28.2.1 cv_X10_28.2.2.1 cv_X10_28.2.2.2 (lk_ne (Ne.symm hoa) ho) rfl rfl (Nat.le_of_ble_eq_true rfl) (by decide) (by decide) (sp_carry _ o a N n n cur (lk_ne (Ne.symm hoa) ho) (lk_eq ha) hoa hn hN (fun i hi => ⟨(hc i hi).1, by have := (hc i hi).2; omega⟩)) ?_
    rintro _ w9 ⟨rfl, ds', n', hcd, e9⟩
    refine GP.weq _ e9 ?_
    obtain ⟨c1, c2, c3, c4⟩ := carried_val hcd (vl_lt hc)
    exact g_vret (pc := 66) dX10_divide_66 ⟨rfl, ds', n', ⟨c2, c3⟩, by rw [c1, hv], c4, by rw [List.set_comm _ _ hoa, List.set_set, List.set_comm _ _ (Ne.symm hoa)]⟩
  · exact absurd hz (by omega)
