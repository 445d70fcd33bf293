/-! Whole: setSquare -/
theorem pr_mulS {x y : Int64} (hx : 0 ≤ x.toInt ∧ x.toInt < 268435456) (hy : 0 ≤ y.toInt ∧ y.toInt < 268435456) : (x * y).toInt = x.toInt * y.toInt ∧ 0 ≤ x.toInt * y.toInt ∧ x.toInt * y.toInt ≤ 72057593501057025 := by
  have h0 : 0 ≤ x.toInt * y.toInt := Int.mul_nonneg hx.1 hy.1
  have h1 : x.toInt * y.toInt ≤ 268435455 * 268435455 := Int.mul_le_mul (by omega) (by omega) hy.1 (by decide)
  exact ⟨L_mul (by omega) (by omega), h0, by omega⟩
def sqO (es : Nat → Int64) (m I : Nat) (cur : Nat → Int64) : Prop := (∀ t, t < 2 * m → 0 ≤ (cur t).toInt ∧ (cur t).toInt ≤ I * 144115187002114050) ∧ vl cur (2 * m) + (vl es m - vl es I) * (vl es m - vl es I) = vl es m * vl es m
def sqI (es : Nat → Int64) (m I J : Nat) (cur : Nat → Int64) : Prop := (∀ t, t < 2 * m → 0 ≤ (cur t).toInt ∧ (cur t).toInt ≤ (I + 1 : Nat) * 144115187002114050 ∧ (I + J ≤ t → (cur t).toInt ≤ I * 144115187002114050)) ∧ vl cur (2 * m) + (vl es m - vl es I) * (vl es m - vl es I) = vl es m * vl es m + (es I).toInt * 268435456 ^ I * ((es I).toInt * 268435456 ^ I) + 2 * ((es I).toInt * 268435456 ^ I) * (vl es J - vl es (I + 1))
theorem sqI_0 {es cur : Nat → Int64} {m I : Nat} (hI : I < m) (hm : m ≤ 64) (he : dgs es m) (h : sqO es m I cur) : sqI es m I (I + 1) (vp_updL cur (2 * I) (cur (2 * I) + es I * es I)) := by
  have hp := h.1 (2 * I) (by omega)
  have hq := pr_mulS (he I hI) (he I hI)
  have hadd : (cur (2 * I) + es I * es I).toInt = (cur (2 * I)).toInt + (es I).toInt * (es I).toInt := by
    rw [L_add (by rw [hq.1]; omega) (by rw [hq.1]; omega), hq.1]
  refine ⟨fun t ht => ?_, ?_⟩
  · by_cases ht2 : t = 2 * I
    · subst ht2
      rw [upL_s, hadd]
      refine ⟨by omega, by omega, fun g => by omega⟩
    · rw [upL_n ht2]
      have := h.1 t ht
      exact ⟨this.1, by omega, fun g => this.2⟩
  · rw [vl_up (by omega), hadd]
    have h2 := h.2
    have e : (268435456 : Int) ^ (2 * I) = 268435456 ^ I * 268435456 ^ I := by rw [← Int.pow_add, Nat.two_mul]
    have e2 : (cur (2 * I)).toInt + (es I).toInt * (es I).toInt - (cur (2 * I)).toInt = (es I).toInt * (es I).toInt := by omega
    rw [e, e2]
    generalize (268435456 : Int) ^ I = A at *
    grind
theorem sqI_s {es cur : Nat → Int64} {m I J : Nat} (hI : I < J) (hJ : J < m) (hm : m ≤ 64) (he : dgs es m) (h : sqI es m I J cur) : sqI es m I (J + 1) (vp_updL cur (I + J) (cur (I + J) + 2 * es I * es J)) := by
  have hp := h.1 (I + J) (by omega)
  have hq := pr_mulS (he I (by omega)) (he J hJ)
  have hle := hp.2.2 (Nat.le_refl _)
  have hd2 : ((2 : Int64) * es I).toInt = 2 * (es I).toInt := by
    have h9 := he I (by omega)
    rw [L_mul (by show -9223372036854775808 ≤ (2 : Int) * _; omega) (by show (2 : Int) * _ < _; omega)]
    rfl
  have h2m : (2 * es I * es J).toInt = 2 * ((es I).toInt * (es J).toInt) := by
    have : (2 * es I).toInt * (es J).toInt = 2 * ((es I).toInt * (es J).toInt) := by rw [hd2, Int.mul_assoc]
    rw [L_mul (by omega) (by omega), this]
  have hadd : (cur (I + J) + 2 * es I * es J).toInt = (cur (I + J)).toInt + 2 * ((es I).toInt * (es J).toInt) := by
    rw [L_add (by rw [h2m]; omega) (by rw [h2m]; omega), h2m]
  refine ⟨fun t ht => ?_, ?_⟩
  · by_cases ht2 : t = I + J
    · subst ht2
      rw [upL_s, hadd]
      refine ⟨by omega, by omega, fun g => by omega⟩
    · rw [upL_n ht2]
      have := h.1 t ht
      exact ⟨this.1, this.2.1, fun g => this.2.2 (by omega)⟩
  · rw [vl_up (by omega), hadd]
    have h2 := h.2
    have e2 : (cur (I + J)).toInt + 2 * ((es I).toInt * (es J).toInt) - (cur (I + J)).toInt = 2 * ((es I).toInt * (es J).toInt) := by omega
    have e3 : vl es (J + 1) = vl es J + (es J).toInt * 268435456 ^ J := rfl
    rw [e2, e3, Int.pow_add]
    generalize (268435456 : Int) ^ I = A at *
    generalize (268435456 : Int) ^ J = C at *
    grind
theorem sqI_end {es cur : Nat → Int64} {m I : Nat} (h : sqI es m I m cur) : sqO es m (I + 1) cur := by
  refine ⟨fun t ht => ⟨(h.1 t ht).1, (h.1 t ht).2.1⟩, ?_⟩
  have h2 := h.2
  have e3 : vl es (I + 1) = vl es I + (es I).toInt * 268435456 ^ I := rfl
  rw [e3] at h2 ⊢
  generalize (es I).toInt * 268435456 ^ I = x at *
  grind
abbrev BX10_setSquare (w0 : Wd) (Post : Option Value → Wd → Prop) (w : Wd) (pc : Nat) (ls : List (Nat × Value)) (st : List Value) : Prop := GP "setSquare" RX10 cX10_setSquare 8 none 2 78 none w0 Post w pc ls st
abbrev EX10_setSquare (As : List Value) (w : Wd) (Post : Option Value → Wd → Prop) : Prop := EP yX10_setSquare cX10_setSquare 8 none 2 As w Post
theorem sq_inner {w0 w : Wd} {Post : Option Value → Wd → Prop} {o a N n0 p b M m : Nat} {ds es : Nat → Int64} (ho : w[o]? = some (oW a n0)) (ha : w[a]? = some (aL N ds)) (hp : w[p]? = some (oW b m)) (hb : w[b]? = some (aL M es)) (hoa : o ≠ a) (hap : a ≠ p) (hab : a ≠ b) (hN : N < 2147483648) (hM : M < 2147483648) (hmM : m ≤ M) (hmk : 2 * m ≤ N) (hm : m ≤ 64) (he : dgs es m) {I : Nat} (hx : ∀ cur, sqO es m (I + 1) cur → BX10_setSquare w0 Post (w.set a (aL N cur)) 127 [(3, .int (nI I)), (2, .int (nI (2 * m))), (0, .ref o), (1, .ref p)] []) : ∀ (z J : Nat) (cur : Nat → Int64), m = J + z → I < J → sqI es m I J cur → BX10_setSquare w0 Post (w.set a (aL N cur)) 88 [(7, .int (nI J)), (6, .int (nI m)), (4, .long (es I)), (3, .int (nI I)), (2, .int (nI (2 * m))), (0, .ref o), (1, .ref p)] [] := by
  intro z
  induction z with
  | zero =>
    intro J cur hJ hIJ h
    refine g_iload (pc := 88) 0 dX10_setSquare_88 rfl ?_
    refine g_iload (pc := 90) 1 dX10_setSquare_90 rfl ?_
    refine n_icmp_ge (pc := 92) 127 dX10_setSquare_92 (by decide) (by omega) (by omega) (fun hz => ?_) (fun hz => ?_)
    · refine GP.lsub [(3, .int (nI I)), (2, .int (nI (2 * m))), (0, .ref o), (1, .ref p)] (by simp) ?_
      refine hx cur (sqI_end ?_)
      have e : m = J := by omega
      subst e
      exact h
    · exact absurd hJ (by omega)
  | succ z ih =>
    intro J cur hJ hIJ h
    refine g_iload (pc := 88) 0 dX10_setSquare_88 rfl ?_
    refine g_iload (pc := 90) 1 dX10_setSquare_90 rfl ?_
    refine n_icmp_ge (pc := 92) 127 dX10_setSquare_92 (by decide) (by omega) (by omega) (fun hz => ?_) (fun hz => ?_)
    · exact absurd hJ (by omega)
    · refine g_aload_n (pc := 95) 5 dX10_setSquare_95 rfl rfl ?_
      refine g_get (pc := 96) dX10_setSquare_96 fk_X10_19 (lk_ne (Ne.symm hoa) ho) rfl ?_
      refine g_iload_n (pc := 99) 3 dX10_setSquare_99 rfl rfl ?_
      refine g_iload (pc := 100) 0 dX10_setSquare_100 rfl ?_
      refine n_iadd (pc := 102) dX10_setSquare_102 ?_
      refine g_dup2 (pc := 103) dX10_setSquare_103 rfl rfl ?_
      refine g_lald (pc := 104) (I + J) dX10_setSquare_104 (lk_eq ha) (IXn (by omega) (by omega)) ?_
      refine g_ldc2 (pc := 105) kc_X10_44 dX10_setSquare_105 ?_
      refine g_lload (pc := 108) 2 dX10_setSquare_108 rfl ?_
      refine g_lmul (pc := 110) dX10_setSquare_110 ?_
      refine g_aload_n (pc := 111) 6 dX10_setSquare_111 rfl rfl ?_
      refine g_get (pc := 112) dX10_setSquare_112 fk_X10_19 (lk_ne hap hp) rfl ?_
      refine g_iload (pc := 115) 0 dX10_setSquare_115 rfl ?_
      refine g_lald (pc := 117) J dX10_setSquare_117 (lk_ne hab hb) (IXn (by omega) (by omega)) ?_
      refine g_lmul (pc := 118) dX10_setSquare_118 ?_
      refine g_ladd (pc := 119) dX10_setSquare_119 ?_
      refine g_last (pc := 120) (I + J) dX10_setSquare_120 (lk_eq ha) (IXn (by omega) (by omega)) ?_
      refine GP.weq (w.set a (aL N (vp_updL cur (I + J) ((cur (I + J)) + (((2) * (es I)) * (es J)))))) (by rw [List.set_set]) ?_
      refine n_iinc (pc := 121) (c := 1) [(7, .int (nI (J + 1))), (6, .int (nI m)), (4, .long (es I)), (3, .int (nI I)), (2, .int (nI (2 * m))), (0, .ref o), (1, .ref p)] 0 dX10_setSquare_121 rfl (by decide) (by decide) rfl ?_
      refine g_goto (pc := 124) 88 dX10_setSquare_124 (by decide) ?_
      exact GP.lsub _ (by simp) (ih (J + 1) _ (by omega) (by omega) (sqI_s hIJ (by omega) hm he h))
theorem sq_outer {w0 w : Wd} {Post : Option Value → Wd → Prop} {o a N n0 p b M m : Nat} {ds es : Nat → Int64} (ho : w[o]? = some (oW a n0)) (ha : w[a]? = some (aL N ds)) (hp : w[p]? = some (oW b m)) (hb : w[b]? = some (aL M es)) (hoa : o ≠ a) (hap : a ≠ p) (hab : a ≠ b) (hN : N < 2147483648) (hM : M < 2147483648) (hmM : m ≤ M) (hmk : 2 * m ≤ N) (hm : m ≤ 64) (he : dgs es m) (hx : ∀ cur, sqO es m m cur → BX10_setSquare w0 Post (w.set a (aL N cur)) 133 [(3, .int (nI m)), (2, .int (nI (2 * m))), (0, .ref o), (1, .ref p)] []) : ∀ (z I : Nat) (cur : Nat → Int64), m = I + z → sqO es m I cur → BX10_setSquare w0 Post (w.set a (aL N cur)) 27 [(3, .int (nI I)), (2, .int (nI (2 * m))), (0, .ref o), (1, .ref p)] [] := by
  intro z
  induction z with
  | zero =>
    intro I cur hI h
    refine g_iload_n (pc := 27) 0 dX10_setSquare_27 rfl rfl ?_
    refine g_aload_n (pc := 28) 3 dX10_setSquare_28 rfl rfl ?_
    refine g_get (pc := 29) dX10_setSquare_29 fk_X10_9 (lk_ne hap hp) rfl ?_
    refine n_icmp_ge (pc := 32) 133 dX10_setSquare_32 (by decide) (by omega) (by omega) (fun hz => ?_) (fun hz => ?_)
    · have e : I = m := by omega
      subst e
      exact hx cur h
    · exact absurd hI (by omega)
  | succ z ih =>
    intro I cur hI h
    refine g_iload_n (pc := 27) 0 dX10_setSquare_27 rfl rfl ?_
    refine g_aload_n (pc := 28) 3 dX10_setSquare_28 rfl rfl ?_
    refine g_get (pc := 29) dX10_setSquare_29 fk_X10_9 (lk_ne hap hp) rfl ?_
    refine n_icmp_ge (pc := 32) 133 dX10_setSquare_32 (by decide) (by omega) (by omega) (fun hz => ?_) (fun hz => ?_)
    · exact absurd hI (by omega)
    · refine g_iload_n (pc := 35) 0 dX10_setSquare_35 rfl rfl ?_
      refine g_iload_n (pc := 36) 1 dX10_setSquare_36 rfl rfl ?_
      refine n_icmp_ge (pc := 37) 133 dX10_setSquare_37 (by decide) (by omega) (by omega) (fun hz2 => ?_) (fun hz2 => ?_)
      · exact absurd hz2 (by omega)
      · refine g_aload_n (pc := 40) 3 dX10_setSquare_40 rfl rfl ?_
        refine g_get (pc := 41) dX10_setSquare_41 fk_X10_19 (lk_ne hap hp) rfl ?_
        refine g_iload_n (pc := 44) 0 dX10_setSquare_44 rfl rfl ?_
        refine g_lald (pc := 45) I dX10_setSquare_45 (lk_ne hab hb) (IXn (by omega) (by omega)) ?_
        refine g_lstore (pc := 46) [(4, .long (es I)), (3, .int (nI I)), (2, .int (nI (2 * m))), (0, .ref o), (1, .ref p)] dX10_setSquare_46 (by decide) rfl ?_
        refine g_aload_n (pc := 48) 4 dX10_setSquare_48 rfl rfl ?_
        refine g_get (pc := 49) dX10_setSquare_49 fk_X10_9 (lk_ne hap hp) rfl ?_
        refine g_iload_n (pc := 52) 2 dX10_setSquare_52 rfl rfl ?_
        refine g_iload_n (pc := 53) 1 dX10_setSquare_53 rfl rfl ?_
        refine n_isub (pc := 54) dX10_setSquare_54 (by omega) ?_
        refine g_callS (pc := 55) [.int (nI m), .int (nI ((2 * m) - I))] dX10_setSquare_55 cs_X10_25.1 cs_X10_25.2 rfl rfl (Nat.le_of_ble_eq_true rfl) (by decide) (by decide) (sp_minI _ (nI m) (nI (2 * m - I))) ?_
        rintro _ w9 ⟨rfl, e9⟩
        refine GP.weq _ e9 ?_
        refine GP.ti (nI m) (by rw [minN (by omega) (by omega)]; congr 1; omega) ?_
        refine g_istore (pc := 58) [(6, .int (nI m)), (4, .long (es I)), (3, .int (nI I)), (2, .int (nI (2 * m))), (0, .ref o), (1, .ref p)] dX10_setSquare_58 (by decide) rfl ?_
        refine g_iconst (pc := 60) (v := nI 2) dX10_setSquare_60 (by decide) ?_
        refine g_iload_n (pc := 61) 2 dX10_setSquare_61 rfl rfl ?_
        refine n_imul (pc := 62) dX10_setSquare_62 ?_
        refine g_iload_n (pc := 63) 3 dX10_setSquare_63 rfl rfl ?_
        refine n_icmp_ge (pc := 64) 83 dX10_setSquare_64 (by decide) (by omega) (by omega) (fun hz3 => ?_) (fun hz3 => ?_)
        · exact absurd hz3 (by omega)
        · refine g_aload_n (pc := 67) 4 dX10_setSquare_67 rfl rfl ?_
          refine g_get (pc := 68) dX10_setSquare_68 fk_X10_19 (lk_ne (Ne.symm hoa) ho) rfl ?_
          refine g_iconst (pc := 71) (v := nI 2) dX10_setSquare_71 (by decide) ?_
          refine g_iload_n (pc := 72) 2 dX10_setSquare_72 rfl rfl ?_
          refine n_imul (pc := 73) dX10_setSquare_73 ?_
          refine g_dup2 (pc := 74) dX10_setSquare_74 rfl rfl ?_
          refine g_lald (pc := 75) (2 * I) dX10_setSquare_75 (lk_eq ha) (IXn (by omega) (by omega)) ?_
          refine g_lload (pc := 76) 1 dX10_setSquare_76 rfl ?_
          refine g_lload (pc := 78) 1 dX10_setSquare_78 rfl ?_
          refine g_lmul (pc := 80) dX10_setSquare_80 ?_
          refine g_ladd (pc := 81) dX10_setSquare_81 ?_
          refine g_last (pc := 82) (2 * I) dX10_setSquare_82 (lk_eq ha) (IXn (by omega) (by omega)) ?_
          refine GP.weq (w.set a (aL N (vp_updL cur (2 * I) ((cur (2 * I)) + ((es I) * (es I)))))) (by rw [List.set_set]) ?_
          refine g_iload_n (pc := 83) 2 dX10_setSquare_83 rfl rfl ?_
          refine g_iconst (pc := 84) (v := nI 1) dX10_setSquare_84 (by decide) ?_
          refine n_iadd (pc := 85) dX10_setSquare_85 ?_
          refine g_istore (pc := 86) [(7, .int (nI (I + 1))), (6, .int (nI m)), (4, .long (es I)), (3, .int (nI I)), (2, .int (nI (2 * m))), (0, .ref o), (1, .ref p)] dX10_setSquare_86 (by decide) rfl ?_
          refine GP.lsub [(7, .int (nI (I + 1))), (6, .int (nI m)), (4, .long (es I)), (3, .int (nI I)), (2, .int (nI (2 * m))), (0, .ref o), (1, .ref p)] (by simp) ?_
          refine sq_inner ho ha hp hb hoa hap hab hN hM hmM hmk hm he (fun cur h => ?_) (m - I - 1) (I + 1) _ (by omega) (by omega) (sqI_0 (by omega) hm he h)
          refine n_iinc (pc := 127) (c := 1) [(3, .int (nI (I + 1))), (2, .int (nI (2 * m))), (0, .ref o), (1, .ref p)] 0 dX10_setSquare_127 rfl (by decide) (by decide) rfl ?_
          refine g_goto (pc := 130) 27 dX10_setSquare_130 (by decide) ?_
          exact GP.lsub _ (by simp) (ih (I + 1) cur (by omega) h)
theorem sp_setSquare (w : Wd) {o a N n0 p b M m : Nat} {ds es : Nat → Int64} (ho : w[o]? = some (oW a n0)) (ha : w[a]? = some (aL N ds)) (hp : w[p]? = some (oW b m)) (hb : w[b]? = some (aL M es)) (hoa : o ≠ a) (hap : a ≠ p) (hab : a ≠ b) (hN : N < 2147483648) (hM : M < 2147483648) (hmM : m ≤ M) (hmk : 2 * m ≤ N) (hm : m ≤ 64) (he : dgs es m) : EX10_setSquare [.ref o, .ref p] w (fun r w' => r = none ∧ ∃ ds' n', wf ds' n' ∧ vl ds' n' = vl es m * vl es m ∧ n' ≤ 2 * m ∧ w' = (w.set o (oW a n')).set a (aL N ds')) := by
  refine EP.of (plainFor_of_name (by decide)) [(0, .ref o), (1, .ref p)] rfl (Nat.le_of_ble_eq_true rfl) (fun r wf h => by obtain ⟨rfl, -⟩ := h; trivial) ?_
  show BX10_setSquare w _ w 0 [(0, .ref o), (1, .ref p)] []
  refine g_aload_n (pc := 0) 0 dX10_setSquare_0 rfl rfl ?_
  refine g_get (pc := 1) dX10_setSquare_1 fk_X10_19 ho rfl ?_
  refine g_alen (pc := 4) dX10_setSquare_4 ha (by decide) ?_
  refine g_iconst (pc := 5) (v := nI 2) dX10_setSquare_5 (by decide) ?_
  refine g_aload_n (pc := 6) 1 dX10_setSquare_6 rfl rfl ?_
  refine g_get (pc := 7) dX10_setSquare_7 fk_X10_9 hp rfl ?_
  refine n_imul (pc := 10) dX10_setSquare_10 ?_
  refine g_callS (pc := 11) [.int (nI N), .int (nI (2 * m))] dX10_setSquare_11 cs_X10_25.1 cs_X10_25.2 rfl rfl (Nat.le_of_ble_eq_true rfl) (by decide) (by decide) (sp_minI _ (nI N) (nI (2 * m))) ?_
  rintro _ w9 ⟨rfl, e9⟩
  refine GP.weq _ e9 ?_
  refine GP.ti (nI (2 * m)) (by rw [minN (by omega) (by omega)]; congr 1; omega) ?_
  refine g_istore_n (pc := 14) [(2, .int (nI (2 * m))), (0, .ref o), (1, .ref p)] dX10_setSquare_14 rfl (by decide) rfl ?_
  refine g_aload_n (pc := 15) 1 dX10_setSquare_15 rfl rfl ?_
  refine g_get (pc := 16) dX10_setSquare_16 fk_X10_19 ho rfl ?_
  refine g_iconst (pc := 19) (v := nI 0) dX10_setSquare_19 (by decide) ?_
  refine g_iload_n (pc := 20) 0 dX10_setSquare_20 rfl rfl ?_
  refine g_lconst (pc := 21) (v := 0) dX10_setSquare_21 (by decide) ?_
  refine g_callS (pc := 22) [.ref a, .int (nI 0), .int (nI (2 * m)), .long 0] dX10_setSquare_22 cs_X10_38.1 cs_X10_38.2 rfl rfl (Nat.le_of_ble_eq_true rfl) (by decide) (by decide) (sp_fill3 _ a N 0 (2 * m) ds 0 ha hN (by omega) (by omega)) ?_
  rintro _ w9 ⟨rfl, e9⟩
  refine GP.weq _ e9 ?_
  refine g_iconst (pc := 25) (v := nI 0) dX10_setSquare_25 (by decide) ?_
  refine g_istore_n (pc := 26) [(3, .int (nI 0)), (2, .int (nI (2 * m))), (0, .ref o), (1, .ref p)] dX10_setSquare_26 rfl (by decide) rfl ?_
  refine GP.lsub [(3, .int (nI 0)), (2, .int (nI (2 * m))), (0, .ref o), (1, .ref p)] (by simp) ?_
  refine sq_outer ho ha hp hb hoa hap hab hN hM hmM hmk hm he (fun cur h => ?_) m 0 _ (by omega) ?_
  · refine g_aload_n (pc := 133) 2 dX10_setSquare_133 rfl rfl ?_
    refine g_iload_n (pc := 134) 1 dX10_setSquare_134 rfl rfl ?_
    refine g_callV (pc := 135) [.int (nI (2 * m))] dX10_setSquare_135 cv_X10_28.1 cv_X10_28.2.1 cv_X10_28.2.2.1 cv_X10_28.2.2.2 (lk_ne (Ne.symm hoa) ho) rfl rfl (Nat.le_of_ble_eq_true rfl) (by decide) (by decide) (sp_carry _ o a N n0 (2 * m) cur (lk_ne (Ne.symm hoa) ho) (lk_eq ha) hoa hmk hN (fun i hi => ⟨(h.1 i hi).1, by have := (h.1 i hi).2; omega⟩)) ?_
    rintro _ w9 ⟨rfl, ds', n', hcd, e9⟩
    refine GP.weq _ e9 ?_
    have hl1 := vl_lt he
    have hn1 : 0 ≤ vl es m := vl_nn (fun j hj => (he j hj).1)
    have hv : vl cur (2 * m) = vl es m * vl es m := by have := h.2; rw [Int.sub_self] at this; omega
    have hlt : vl cur (2 * m) < 268435456 ^ (2 * m) := by
      rw [hv, Nat.two_mul, Int.pow_add]
      exact imul_lt hl1 hl1 hn1 hn1
    obtain ⟨c1, c2, c3, c4⟩ := carried_val hcd hlt
    exact g_vret (pc := 138) dX10_setSquare_138 ⟨rfl, ds', n', ⟨c2, c3⟩, by rw [c1, hv], c4, by rw [List.set_comm _ _ hoa, List.set_set, List.set_comm _ _ (Ne.symm hoa)]⟩
  · refine ⟨fun t ht => ?_, ?_⟩
    · simp only [fillF]; rw [if_pos (by omega)]; exact ⟨by decide, by show ((0 : Int64)).toInt ≤ _; simp⟩
    · have hz : vl (fillF ds 0 (2 * m) 0) (2 * m) = 0 := by
        rw [show 2 * m = 0 + 2 * m by omega, vl_zeros (fun j h1 h2 => by simp only [fillF]; rw [if_pos (by omega)]; decide)]; rfl
      rw [hz]
      show 0 + (vl es m - 0) * (vl es m - 0) = _
      simp
