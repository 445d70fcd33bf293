/-! Whole: the constructor, setSize, setSquares -/
theorem GP.tr {nm own : String} {cc : ByteArray} {nL : Nat} {ret : Option FieldType} {d lo : Nat} {sc : Option (Nat × (Nat → Int32))} {w0 : Wd} {Post : Option Value → Wd → Prop} {w : Wd} {pc : Nat} {ls : List (Nat × Value)} {x : Nat} (y : Nat) {st : List Value} (h : x = y) (k : GP nm own cc nL ret d lo sc w0 Post w pc ls (.ref y :: st)) : GP nm own cc nL ret d lo sc w0 Post w pc ls (.ref x :: st) := h ▸ k
abbrev BX10_init (w0 : Wd) (Post : Option Value → Wd → Prop) (w : Wd) (pc : Nat) (ls : List (Nat × Value)) (st : List Value) : Prop := GP "<init>" RX10 cX10_init 2 none 1 39 none w0 Post w pc ls st
abbrev EX10_init (As : List Value) (w : Wd) (Post : Option Value → Wd → Prop) : Prop := EP yX10_init cX10_init 2 none 1 As w Post
theorem sp_newWhole (w : Wd) (o x : Nat) (ho : w[o]? = some (.inr (9, [.null, .int 0]))) (hx : x ≤ 100000) : EX10_init [.ref o, .int (nI x)] w (fun r w' => r = none ∧ w' = w.set o (oW w.length 0) ++ [aL (max 1 x) (fun _ => 0)]) := by
  refine EP.of (plainFor_of_name (by decide)) [(0, .ref o), (1, .int (nI x))] rfl (Nat.le_of_ble_eq_true rfl) (fun r wf h => by obtain ⟨rfl, -⟩ := h; trivial) ?_
  show BX10_init w _ w 0 [(0, .ref o), (1, .int (nI x))] []
  refine g_aload_n (pc := 0) 0 dX10_init_0 rfl rfl ?_
  refine g_oinit (pc := 1) dX10_init_1 ol_X10_3 oi_in oi_co (by decide) (Nat.le_of_ble_eq_true rfl) (by decide) ?_
  refine g_aload_n (pc := 4) 0 dX10_init_4 rfl rfl ?_
  refine g_iconst (pc := 5) (v := nI 0) dX10_init_5 (by decide) ?_
  refine g_put (pc := 6) [.null, .int (nI 0)] dX10_init_6 fk_X10_9 ho (Nat.le_of_ble_eq_true rfl) rfl rfl ?_
  refine g_aload_n (pc := 9) 0 dX10_init_9 rfl rfl ?_
  refine g_iconst (pc := 10) (v := nI 1) dX10_init_10 (by decide) ?_
  refine g_iload_n (pc := 11) 1 dX10_init_11 rfl rfl ?_
  refine g_callS (pc := 12) [.int (nI 1), .int (nI x)] dX10_init_12 cs_X10_13.1 cs_X10_13.2 rfl rfl (Nat.le_of_ble_eq_true rfl) (by decide) (by decide) (sp_maxI _ (nI 1) (nI x)) ?_
  rintro _ w9 ⟨rfl, e9⟩
  refine GP.weq _ e9 ?_
  refine GP.ti (nI (max 1 x)) (maxN (by omega) (by omega)) ?_
  refine g_newaL (pc := 15) (max 1 x) dX10_init_15 acL (nI_toInt (by omega)) (by omega) ?_
  refine GP.tr w.length (by rw [List.length_set]) ?_
  obtain ⟨w2, hw2⟩ : ∃ w2 : Wd, w2 = (w.set o (.inr (9, [.null, .int (nI 0)]))) ++ [aL (max 1 x) (fun _ => 0)] := ⟨_, rfl⟩
  rw [← hw2]
  have ho2 : w2[o]? = some (.inr (9, [.null, .int (nI 0)])) := by rw [hw2]; exact lk_app (lk_eq ho)
  refine g_putF (pc := 17) [.ref w.length, .int (nI 0)] dX10_init_17 fk_X10_19 (fun _ _ _ h => by cases h; rfl) rfl ho2 (Nat.le_of_ble_eq_true rfl) rfl rfl ?_
  exact g_vret (pc := 20) dX10_init_20 ⟨rfl, by rw [hw2, set_app (lk_eq ho), List.set_set]⟩
theorem L_mask_u (x : Int64) : (x &&& 268435455).toInt = ((x.toUInt64.toNat % 268435456 : Nat) : Int) := by
  have e : (x &&& 268435455).toBitVec.toNat = x.toUInt64.toNat % 268435456 := by
    rw [Int64.toBitVec_and, BitVec.toNat_and]
    exact Nat.and_two_pow_sub_one_eq_mod (n := 28) _
  show (x &&& 268435455).toBitVec.toInt = _
  rw [BitVec.toInt_eq_toNat_bmod, e]
  have := Nat.mod_lt x.toUInt64.toNat (show 268435456 > 0 by decide)
  exact bmod64 (by omega) (by omega)
theorem L_ushr_u (x : Int64) {k : Nat} (hk : k < 64) : (x.toUInt64 >>> ((nI k).toInt64.toUInt64 &&& Int64.toUInt64 63)).toInt64.toUInt64.toNat = x.toUInt64.toNat / 2 ^ k := by
  have hsn : (nI k).toInt64.toUInt64.toNat = k := by
    have h1 := L_toNat (x := (nI k).toInt64) (by rw [IL, nI_toInt (by omega)]; omega)
    rw [IL, nI_toInt (by omega)] at h1
    omega
  have hm : ((nI k).toInt64.toUInt64 &&& Int64.toUInt64 63).toNat = k := by
    rw [UInt64.toNat_and, hsn]
    show k &&& 63 = k
    rw [show (63 : Nat) = 2 ^ 6 - 1 by decide, Nat.and_two_pow_sub_one_eq_mod]
    omega
  show (x.toUInt64 >>> ((nI k).toInt64.toUInt64 &&& Int64.toUInt64 63)).toNat = _
  rw [UInt64.toNat_shiftRight, hm, Nat.mod_eq_of_lt hk, Nat.shiftRight_eq_div_pow]
theorem L_u_lt (x : Int64) : x.toUInt64.toNat < 18446744073709551616 := x.toUInt64.toNat_lt
theorem L_u_toInt {x : Int64} (h : x.toUInt64.toNat < 9223372036854775808) : x.toInt = (x.toUInt64.toNat : Int) := by
  show x.toBitVec.toInt = _
  rw [BitVec.toInt_eq_toNat_bmod]
  have e : x.toBitVec.toNat = x.toUInt64.toNat := rfl
  rw [e]
  exact bmod64 (by omega) (by omega)
/-- a size without sign, the least long's too -/
theorem L_abs_u (x : Int64) : (if 0 ≤ x then x else -x).toUInt64.toNat = x.toInt.natAbs := by
  by_cases h : 0 ≤ x
  · rw [if_pos h]
    have h1 : 0 ≤ x.toInt := Int64.le_iff_toInt_le.mp h
    have := L_toNat h1
    omega
  · rw [if_neg h]
    have h1 : ¬ 0 ≤ x.toInt := fun g => h (Int64.le_iff_toInt_le.mpr g)
    by_cases h2 : x.toInt = -9223372036854775808
    · have : x = -9223372036854775808 := Int64.toInt_inj.mp (h2.trans (by decide))
      subst this
      decide
    · have h3 := L_neg h2
      have h4 := L_toNat (x := -x) (by omega)
      omega
/-- the digits of a size -/
theorem u_split (u : Nat) (hu : u < 18446744073709551616) : u = u % 268435456 + (u / 268435456 % 268435456) * 268435456 + (u / 72057594037927936) * 72057594037927936 := by
  omega
abbrev BX10_setSize (w0 : Wd) (Post : Option Value → Wd → Prop) (w : Wd) (pc : Nat) (ls : List (Nat × Value)) (st : List Value) : Prop := GP "setSize" RX10 cX10_setSize 5 none 1 39 none w0 Post w pc ls st
abbrev EX10_setSize (As : List Value) (w : Wd) (Post : Option Value → Wd → Prop) : Prop := EP yX10_setSize cX10_setSize 5 none 1 As w Post
theorem sp_setSize (w : Wd) (o a N n0 : Nat) (x : Int64) (ds : Nat → Int64) (ho : w[o]? = some (oW a n0)) (ha : w[a]? = some (aL N ds)) (hoa : o ≠ a) (hN : N < 2147483648) (h3 : 3 ≤ N) : EX10_setSize [.ref o, .long x] w (fun r w' => r = none ∧ ∃ ds' n', wf ds' n' ∧ vl ds' n' = (x.toUInt64.toNat : Int) ∧ n' ≤ 3 ∧ w' = (w.set o (oW a n')).set a (aL N ds')) := by
  refine EP.of (plainFor_of_name (by decide)) [(0, .ref o), (1, .long x)] rfl (Nat.le_of_ble_eq_true rfl) (fun r wf h => by obtain ⟨rfl, -⟩ := h; trivial) ?_
  show BX10_setSize w _ w 0 [(0, .ref o), (1, .long x)] []
  refine g_iconst (pc := 0) (v := nI 3) dX10_setSize_0 (by decide) ?_
  refine g_aload_n (pc := 1) 0 dX10_setSize_1 rfl rfl ?_
  refine g_get (pc := 2) dX10_setSize_2 fk_X10_19 ho rfl ?_
  refine g_alen (pc := 5) dX10_setSize_5 ha (by decide) ?_
  refine g_callS (pc := 6) [.int (nI 3), .int (nI N)] dX10_setSize_6 cs_X10_25.1 cs_X10_25.2 rfl rfl (Nat.le_of_ble_eq_true rfl) (by decide) (by decide) (sp_minI _ (nI 3) (nI N)) ?_
  rintro _ w9 ⟨rfl, e9⟩
  refine GP.weq _ e9 ?_
  refine GP.ti (nI 3) (by rw [minN (by omega) (by omega)]; congr 1; omega) ?_
  refine g_istore_n (pc := 9) [(3, .int (nI 3)), (0, .ref o), (1, .long x)] dX10_setSize_9 rfl (by decide) rfl ?_
  refine g_iconst (pc := 10) (v := nI 0) dX10_setSize_10 (by decide) ?_
  refine g_istore (pc := 11) [(4, .int (nI 0)), (3, .int (nI 3)), (0, .ref o), (1, .long x)] dX10_setSize_11 (by decide) rfl ?_
  refine g_iload (pc := 13) 0 dX10_setSize_13 rfl ?_
  refine g_iload_n (pc := 15) 1 dX10_setSize_15 rfl rfl ?_
  refine n_icmp_ge (pc := 16) 43 dX10_setSize_16 (by decide) (by omega) (by omega) (fun hz => ?_) (fun hz => ?_)
  · exact absurd hz (by omega)
  · refine g_aload_n (pc := 19) 2 dX10_setSize_19 rfl rfl ?_
    refine g_get (pc := 20) dX10_setSize_20 fk_X10_19 ho rfl ?_
    refine g_iload (pc := 23) 0 dX10_setSize_23 rfl ?_
    refine g_lload_n (pc := 25) 3 dX10_setSize_25 rfl rfl ?_
    refine g_iload (pc := 26) 0 dX10_setSize_26 rfl ?_
    refine g_bipush (pc := 28) (v := nI 28) dX10_setSize_28 (by decide) ?_
    refine n_imul (pc := 30) dX10_setSize_30 ?_
    refine g_lushr (pc := 31) dX10_setSize_31 ?_
    refine g_ldc2 (pc := 32) kc_X10_23 dX10_setSize_32 ?_
    refine g_land (pc := 35) dX10_setSize_35 ?_
    refine g_last (pc := 36) 0 dX10_setSize_36 ha (IXn (by omega) (by omega)) ?_
    refine n_iinc (pc := 37) (c := 1) [(4, .int (nI (0 + 1))), (3, .int (nI 3)), (0, .ref o), (1, .long x)] 0 dX10_setSize_37 rfl (by decide) (by decide) rfl ?_
    refine g_goto (pc := 40) 13 dX10_setSize_40 (by decide) ?_
    refine g_iload (pc := 13) 0 dX10_setSize_13 rfl ?_
    refine g_iload_n (pc := 15) 1 dX10_setSize_15 rfl rfl ?_
    refine n_icmp_ge (pc := 16) 43 dX10_setSize_16 (by decide) (by omega) (by omega) (fun hz => ?_) (fun hz => ?_)
    · exact absurd hz (by omega)
    · refine g_aload_n (pc := 19) 2 dX10_setSize_19 rfl rfl ?_
      refine g_get (pc := 20) dX10_setSize_20 fk_X10_19 (lk_ne (Ne.symm hoa) ho) rfl ?_
      refine g_iload (pc := 23) 0 dX10_setSize_23 rfl ?_
      refine g_lload_n (pc := 25) 3 dX10_setSize_25 rfl rfl ?_
      refine g_iload (pc := 26) 0 dX10_setSize_26 rfl ?_
      refine g_bipush (pc := 28) (v := nI 28) dX10_setSize_28 (by decide) ?_
      refine n_imul (pc := 30) dX10_setSize_30 ?_
      refine g_lushr (pc := 31) dX10_setSize_31 ?_
      refine g_ldc2 (pc := 32) kc_X10_23 dX10_setSize_32 ?_
      refine g_land (pc := 35) dX10_setSize_35 ?_
      refine g_last (pc := 36) (0 + 1) dX10_setSize_36 (lk_eq ha) (IXn (by omega) (by omega)) ?_
      refine GP.weq (w.set a (aL N (vp_updL (vp_updL ds 0 (((x.toUInt64 >>> ((nI (0 * 28)).toInt64.toUInt64 &&& Int64.toUInt64 63)).toInt64) &&& (268435455))) (0 + 1) (((x.toUInt64 >>> ((nI ((0 + 1) * 28)).toInt64.toUInt64 &&& Int64.toUInt64 63)).toInt64) &&& (268435455))))) (by rw [List.set_set]) ?_
      refine n_iinc (pc := 37) (c := 1) [(4, .int (nI ((0 + 1) + 1))), (3, .int (nI 3)), (0, .ref o), (1, .long x)] 0 dX10_setSize_37 rfl (by decide) (by decide) rfl ?_
      refine g_goto (pc := 40) 13 dX10_setSize_40 (by decide) ?_
      refine g_iload (pc := 13) 0 dX10_setSize_13 rfl ?_
      refine g_iload_n (pc := 15) 1 dX10_setSize_15 rfl rfl ?_
      refine n_icmp_ge (pc := 16) 43 dX10_setSize_16 (by decide) (by omega) (by omega) (fun hz => ?_) (fun hz => ?_)
      · exact absurd hz (by omega)
      · refine g_aload_n (pc := 19) 2 dX10_setSize_19 rfl rfl ?_
        refine g_get (pc := 20) dX10_setSize_20 fk_X10_19 (lk_ne (Ne.symm hoa) ho) rfl ?_
        refine g_iload (pc := 23) 0 dX10_setSize_23 rfl ?_
        refine g_lload_n (pc := 25) 3 dX10_setSize_25 rfl rfl ?_
        refine g_iload (pc := 26) 0 dX10_setSize_26 rfl ?_
        refine g_bipush (pc := 28) (v := nI 28) dX10_setSize_28 (by decide) ?_
        refine n_imul (pc := 30) dX10_setSize_30 ?_
        refine g_lushr (pc := 31) dX10_setSize_31 ?_
        refine g_ldc2 (pc := 32) kc_X10_23 dX10_setSize_32 ?_
        refine g_land (pc := 35) dX10_setSize_35 ?_
        refine g_last (pc := 36) ((0 + 1) + 1) dX10_setSize_36 (lk_eq ha) (IXn (by omega) (by omega)) ?_
        refine GP.weq (w.set a (aL N (vp_updL (vp_updL (vp_updL ds 0 (((x.toUInt64 >>> ((nI (0 * 28)).toInt64.toUInt64 &&& Int64.toUInt64 63)).toInt64) &&& (268435455))) (0 + 1) (((x.toUInt64 >>> ((nI ((0 + 1) * 28)).toInt64.toUInt64 &&& Int64.toUInt64 63)).toInt64) &&& (268435455))) ((0 + 1) + 1) (((x.toUInt64 >>> ((nI (((0 + 1) + 1) * 28)).toInt64.toUInt64 &&& Int64.toUInt64 63)).toInt64) &&& (268435455))))) (by rw [List.set_set]) ?_
        refine n_iinc (pc := 37) (c := 1) [(4, .int (nI (((0 + 1) + 1) + 1))), (3, .int (nI 3)), (0, .ref o), (1, .long x)] 0 dX10_setSize_37 rfl (by decide) (by decide) rfl ?_
        refine g_goto (pc := 40) 13 dX10_setSize_40 (by decide) ?_
        refine g_iload (pc := 13) 0 dX10_setSize_13 rfl ?_
        refine g_iload_n (pc := 15) 1 dX10_setSize_15 rfl rfl ?_
        refine n_icmp_ge (pc := 16) 43 dX10_setSize_16 (by decide) (by omega) (by omega) (fun hz => ?_) (fun hz => ?_)
        · refine g_aload_n (pc := 43) 2 dX10_setSize_43 rfl rfl ?_
          refine g_iload_n (pc := 44) 1 dX10_setSize_44 rfl rfl ?_
          have u1 := L_u_lt x
          have k0 : (vp_updL (vp_updL (vp_updL ds 0 (((x.toUInt64 >>> ((nI (0 * 28)).toInt64.toUInt64 &&& Int64.toUInt64 63)).toInt64) &&& (268435455))) (0 + 1) (((x.toUInt64 >>> ((nI ((0 + 1) * 28)).toInt64.toUInt64 &&& Int64.toUInt64 63)).toInt64) &&& (268435455))) ((0 + 1) + 1) (((x.toUInt64 >>> ((nI (((0 + 1) + 1) * 28)).toInt64.toUInt64 &&& Int64.toUInt64 63)).toInt64) &&& (268435455)) 0).toInt = ((x.toUInt64.toNat % 268435456 : Nat) : Int) := by
            rw [upL_n (by decide), upL_n (by decide), upL_s, L_mask_u]
            rw [show (0 * 28 : Nat) = 0 by decide, L_ushr_u x (by decide)]
            simp
          have k1 : (vp_updL (vp_updL (vp_updL ds 0 (((x.toUInt64 >>> ((nI (0 * 28)).toInt64.toUInt64 &&& Int64.toUInt64 63)).toInt64) &&& (268435455))) (0 + 1) (((x.toUInt64 >>> ((nI ((0 + 1) * 28)).toInt64.toUInt64 &&& Int64.toUInt64 63)).toInt64) &&& (268435455))) ((0 + 1) + 1) (((x.toUInt64 >>> ((nI (((0 + 1) + 1) * 28)).toInt64.toUInt64 &&& Int64.toUInt64 63)).toInt64) &&& (268435455)) (0 + 1)).toInt = ((x.toUInt64.toNat / 268435456 % 268435456 : Nat) : Int) := by
            rw [upL_n (by decide), upL_s, L_mask_u]
            rw [show ((0 + 1) * 28 : Nat) = 28 by decide, L_ushr_u x (by decide)]
          have k2 : (vp_updL (vp_updL (vp_updL ds 0 (((x.toUInt64 >>> ((nI (0 * 28)).toInt64.toUInt64 &&& Int64.toUInt64 63)).toInt64) &&& (268435455))) (0 + 1) (((x.toUInt64 >>> ((nI ((0 + 1) * 28)).toInt64.toUInt64 &&& Int64.toUInt64 63)).toInt64) &&& (268435455))) ((0 + 1) + 1) (((x.toUInt64 >>> ((nI (((0 + 1) + 1) * 28)).toInt64.toUInt64 &&& Int64.toUInt64 63)).toInt64) &&& (268435455)) (0 + 1 + 1)).toInt = ((x.toUInt64.toNat / 72057594037927936 : Nat) : Int) := by
            rw [upL_s, L_mask_u]
            rw [show ((0 + 1 + 1) * 28 : Nat) = 56 by decide, L_ushr_u x (by decide)]
            rw [Nat.mod_eq_of_lt (by omega)]
          have hdg : dgs (vp_updL (vp_updL (vp_updL ds 0 (((x.toUInt64 >>> ((nI (0 * 28)).toInt64.toUInt64 &&& Int64.toUInt64 63)).toInt64) &&& (268435455))) (0 + 1) (((x.toUInt64 >>> ((nI ((0 + 1) * 28)).toInt64.toUInt64 &&& Int64.toUInt64 63)).toInt64) &&& (268435455))) ((0 + 1) + 1) (((x.toUInt64 >>> ((nI (((0 + 1) + 1) * 28)).toInt64.toUInt64 &&& Int64.toUInt64 63)).toInt64) &&& (268435455))) 3 := by
            intro i hi
            rcases (show i = 0 ∨ i = 0 + 1 ∨ i = 0 + 1 + 1 by omega) with rfl | rfl | rfl
            · rw [k0]; omega
            · rw [k1]; omega
            · rw [k2]; omega
          have hvl : vl (vp_updL (vp_updL (vp_updL ds 0 (((x.toUInt64 >>> ((nI (0 * 28)).toInt64.toUInt64 &&& Int64.toUInt64 63)).toInt64) &&& (268435455))) (0 + 1) (((x.toUInt64 >>> ((nI ((0 + 1) * 28)).toInt64.toUInt64 &&& Int64.toUInt64 63)).toInt64) &&& (268435455))) ((0 + 1) + 1) (((x.toUInt64 >>> ((nI (((0 + 1) + 1) * 28)).toInt64.toUInt64 &&& Int64.toUInt64 63)).toInt64) &&& (268435455))) 3 = (x.toUInt64.toNat : Int) := by
            show 0 + (vp_updL (vp_updL (vp_updL ds 0 (((x.toUInt64 >>> ((nI (0 * 28)).toInt64.toUInt64 &&& Int64.toUInt64 63)).toInt64) &&& (268435455))) (0 + 1) (((x.toUInt64 >>> ((nI ((0 + 1) * 28)).toInt64.toUInt64 &&& Int64.toUInt64 63)).toInt64) &&& (268435455))) ((0 + 1) + 1) (((x.toUInt64 >>> ((nI (((0 + 1) + 1) * 28)).toInt64.toUInt64 &&& Int64.toUInt64 63)).toInt64) &&& (268435455)) 0).toInt * 268435456 ^ 0 + (vp_updL (vp_updL (vp_updL ds 0 (((x.toUInt64 >>> ((nI (0 * 28)).toInt64.toUInt64 &&& Int64.toUInt64 63)).toInt64) &&& (268435455))) (0 + 1) (((x.toUInt64 >>> ((nI ((0 + 1) * 28)).toInt64.toUInt64 &&& Int64.toUInt64 63)).toInt64) &&& (268435455))) ((0 + 1) + 1) (((x.toUInt64 >>> ((nI (((0 + 1) + 1) * 28)).toInt64.toUInt64 &&& Int64.toUInt64 63)).toInt64) &&& (268435455)) (0 + 1)).toInt * 268435456 ^ 1 + (vp_updL (vp_updL (vp_updL ds 0 (((x.toUInt64 >>> ((nI (0 * 28)).toInt64.toUInt64 &&& Int64.toUInt64 63)).toInt64) &&& (268435455))) (0 + 1) (((x.toUInt64 >>> ((nI ((0 + 1) * 28)).toInt64.toUInt64 &&& Int64.toUInt64 63)).toInt64) &&& (268435455))) ((0 + 1) + 1) (((x.toUInt64 >>> ((nI (((0 + 1) + 1) * 28)).toInt64.toUInt64 &&& Int64.toUInt64 63)).toInt64) &&& (268435455)) (0 + 1 + 1)).toInt * 268435456 ^ 2 = _
            rw [k0, k1, k2]
            have := u_split x.toUInt64.toNat u1
            omega
          refine g_callV (pc := 45) [.int (nI 3)] dX10_setSize_45 cv_X10_28.1 cv_X10_28.2.1 cv_X10_28.2.2.1 cv_X10_28.2.2.2 (lk_ne (Ne.symm hoa) ho) rfl rfl (Nat.le_of_ble_eq_true rfl) (by decide) (by decide) (sp_carry _ o a N n0 3 _ (lk_ne (Ne.symm hoa) ho) (lk_eq ha) hoa (by omega) hN (fun i hi => ⟨(hdg i hi).1, by have := (hdg i hi).2; omega⟩)) ?_
          rintro _ w9 ⟨rfl, ds', n', hcd, e9⟩
          refine GP.weq _ e9 ?_
          obtain ⟨c1, c2, c3, c4⟩ := carried_val hcd (vl_lt hdg)
          exact g_vret (pc := 48) dX10_setSize_48 ⟨rfl, ds', n', ⟨c2, c3⟩, by rw [c1, hvl], c4, by rw [List.set_comm _ _ hoa, List.set_set, List.set_comm _ _ (Ne.symm hoa)]⟩
        · exact absurd hz (by omega)
