/-! Whole: setProduct -/
theorem minN {a b : Nat} (ha : a < 2147483648) (hb : b < 2147483648) : (if nI b < nI a then nI b else nI a) = nI (min a b) := by
  by_cases h : nI b < nI a
  · rw [if_pos h]
    have := (nI_ltN hb ha).mp h
    congr 1
    omega
  · rw [if_neg h]
    have h2 : ¬ b < a := fun g => h ((nI_ltN hb ha).mpr g)
    congr 1
    omega
theorem maxN {a b : Nat} (ha : a < 2147483648) (hb : b < 2147483648) : (if nI a < nI b then nI b else nI a) = nI (max a b) := by
  by_cases h : nI a < nI b
  · rw [if_pos h]
    have := (nI_ltN ha hb).mp h
    congr 1
    omega
  · rw [if_neg h]
    have h2 : ¬ a < b := fun g => h ((nI_ltN ha hb).mpr g)
    congr 1
    omega
theorem imul_lt {a b c d : Int} (h1 : a < c) (h2 : b < d) (ha : 0 ≤ a) (hb : 0 ≤ b) : a * b < c * d := by
  have g1 : a * b ≤ a * d := Int.mul_le_mul_of_nonneg_left (Int.le_of_lt h2) ha
  have g2 : a * d < c * d := Int.mul_lt_mul_of_pos_right h1 (by omega)
  omega
def prO (es fs : Nat → Int64) (m k I : Nat) (cur : Nat → Int64) : Prop := (∀ t, t < m + k → 0 ≤ (cur t).toInt ∧ (cur t).toInt ≤ I * 72057594037927936) ∧ vl cur (m + k) = vl es I * vl fs k
def prI (es fs : Nat → Int64) (m k I J : Nat) (cur : Nat → Int64) : Prop := (∀ t, t < m + k → 0 ≤ (cur t).toInt ∧ (cur t).toInt ≤ (I + 1 : Nat) * 72057594037927936 ∧ (I + J ≤ t → (cur t).toInt ≤ I * 72057594037927936)) ∧ vl cur (m + k) = vl es I * vl fs k + (es I).toInt * 268435456 ^ I * vl fs J
theorem prI_0 {es fs cur : Nat → Int64} {m k I : Nat} (h : prO es fs m k I cur) : prI es fs m k I 0 cur := by
  refine ⟨fun t ht => ?_, ?_⟩
  · have := h.1 t ht
    refine ⟨this.1, ?_, fun _ => this.2⟩
    have h2 := this.2
    omega
  · rw [h.2]
    show _ = _ + _ * 0
    omega
theorem prI_end {es fs cur : Nat → Int64} {m k I : Nat} (h : prI es fs m k I k cur) : prO es fs m k (I + 1) cur := by
  refine ⟨fun t ht => ⟨(h.1 t ht).1, (h.1 t ht).2.1⟩, ?_⟩
  rw [h.2]
  show _ = (vl es I + (es I).toInt * 268435456 ^ I) * vl fs k
  rw [Int.add_mul]
theorem pr_mul {x y : Int64} (hx : 0 ≤ x.toInt ∧ x.toInt < 268435456) (hy : 0 ≤ y.toInt ∧ y.toInt < 268435456) : (x * y).toInt = x.toInt * y.toInt ∧ 0 ≤ x.toInt * y.toInt ∧ x.toInt * y.toInt ≤ 72057594037927936 := by
  have h0 : 0 ≤ x.toInt * y.toInt := Int.mul_nonneg hx.1 hy.1
  have h1 : x.toInt * y.toInt ≤ 268435456 * 268435456 := Int.mul_le_mul (by omega) (by omega) hy.1 (by decide)
  exact ⟨L_mul (by omega) (by omega), h0, by omega⟩
theorem prI_s {es fs cur : Nat → Int64} {m k I J : Nat} (hI : I < m) (hJ : J < k) (hm : m ≤ 100) (he : dgs es m) (hf : dgs fs k) (h : prI es fs m k I J cur) : prI es fs m k I (J + 1) (vp_updL cur (I + J) (cur (I + J) + es I * fs J)) := by
  have hp := h.1 (I + J) (by omega)
  have hq := pr_mul (he I hI) (hf J hJ)
  have hle := hp.2.2 (Nat.le_refl _)
  have hadd : (cur (I + J) + es I * fs J).toInt = (cur (I + J)).toInt + (es I).toInt * (fs J).toInt := by
    rw [L_add (by rw [hq.1]; omega) (by rw [hq.1]; omega), hq.1]
  refine ⟨fun t ht => ?_, ?_⟩
  · by_cases ht2 : t = I + J
    · subst ht2
      rw [upL_s, hadd]
      refine ⟨by omega, by omega, fun g => by omega⟩
    · rw [upL_n ht2]
      have := h.1 t ht
      exact ⟨this.1, this.2.1, fun g => this.2.2 (by omega)⟩
  · rw [vl_up (by omega), h.2, hadd]
    show _ = _ + _ * (vl fs J + (fs J).toInt * 268435456 ^ J)
    rw [Int.mul_add, Int.pow_add]
    have e : (es I).toInt * 268435456 ^ I * ((fs J).toInt * 268435456 ^ J) = (es I).toInt * (fs J).toInt * (268435456 ^ I * 268435456 ^ J) := by
      generalize (268435456 : Int) ^ I = A
      generalize (268435456 : Int) ^ J = C
      grind
    rw [e]
    have e2 : (cur (I + J)).toInt + (es I).toInt * (fs J).toInt - (cur (I + J)).toInt = (es I).toInt * (fs J).toInt := by omega
    rw [e2]
    omega
abbrev BX10_setProduct (w0 : Wd) (Post : Option Value → Wd → Prop) (w : Wd) (pc : Nat) (ls : List (Nat × Value)) (st : List Value) : Prop := GP "setProduct" RX10 cX10_setProduct 9 none 2 78 none w0 Post w pc ls st
abbrev EX10_setProduct (As : List Value) (w : Wd) (Post : Option Value → Wd → Prop) : Prop := EP yX10_setProduct cX10_setProduct 9 none 2 As w Post
theorem pr_inner {w0 w : Wd} {Post : Option Value → Wd → Prop} {o a N n0 p b M m q c K k : Nat} {ds es fs : Nat → Int64} (ho : w[o]? = some (oW a n0)) (ha : w[a]? = some (aL N ds)) (hp : w[p]? = some (oW b m)) (hb : w[b]? = some (aL M es)) (hq : w[q]? = some (oW c k)) (hc : w[c]? = some (aL K fs)) (hoa : o ≠ a) (hap : a ≠ p) (hab : a ≠ b) (haq : a ≠ q) (hac : a ≠ c) (hN : N < 2147483648) (hM : M < 2147483648) (hK : K < 2147483648) (hmM : m ≤ M) (hkK : k ≤ K) (hmk : m + k ≤ N) (hm : m ≤ 100) (he : dgs es m) (hf : dgs fs k) {I : Nat} (hI : I < m) (hx : ∀ cur, prO es fs m k (I + 1) cur → BX10_setProduct w0 Post (w.set a (aL N cur)) 107 [(4, .int (nI I)), (3, .int (nI (m + k))), (0, .ref o), (1, .ref p), (2, .ref q)] []) : ∀ (z J : Nat) (cur : Nat → Int64), k = J + z → prI es fs m k I J cur → BX10_setProduct w0 Post (w.set a (aL N cur)) 71 [(8, .int (nI J)), (7, .int (nI k)), (5, .long (es I)), (4, .int (nI I)), (3, .int (nI (m + k))), (0, .ref o), (1, .ref p), (2, .ref q)] [] := by
  intro z
  induction z with
  | zero =>
    intro J cur hJ h
    refine g_iload (pc := 71) 0 dX10_setProduct_71 rfl ?_
    refine g_iload (pc := 73) 1 dX10_setProduct_73 rfl ?_
    refine n_icmp_ge (pc := 75) 107 dX10_setProduct_75 (by decide) (by omega) (by omega) (fun hz => ?_) (fun hz => ?_)
    · refine GP.lsub [(4, .int (nI I)), (3, .int (nI (m + k))), (0, .ref o), (1, .ref p), (2, .ref q)] (by simp) ?_
      refine hx cur (prI_end ?_)
      rw [show k = J by omega] at h ⊢
      exact h
    · exact absurd hJ (by omega)
  | succ z ih =>
    intro J cur hJ h
    refine g_iload (pc := 71) 0 dX10_setProduct_71 rfl ?_
    refine g_iload (pc := 73) 1 dX10_setProduct_73 rfl ?_
    refine n_icmp_ge (pc := 75) 107 dX10_setProduct_75 (by decide) (by omega) (by omega) (fun hz => ?_) (fun hz => ?_)
    · exact absurd hJ (by omega)
    · refine g_aload_n (pc := 78) 5 dX10_setProduct_78 rfl rfl ?_
      refine g_get (pc := 79) dX10_setProduct_79 fk_X10_19 (lk_ne (Ne.symm hoa) ho) rfl ?_
      refine g_iload (pc := 82) 3 dX10_setProduct_82 rfl ?_
      refine g_iload (pc := 84) 0 dX10_setProduct_84 rfl ?_
      refine n_iadd (pc := 86) dX10_setProduct_86 ?_
      refine g_dup2 (pc := 87) dX10_setProduct_87 rfl rfl ?_
      refine g_lald (pc := 88) (I + J) dX10_setProduct_88 (lk_eq ha) (IXn (by omega) (by omega)) ?_
      refine g_lload (pc := 89) 2 dX10_setProduct_89 rfl ?_
      refine g_aload_n (pc := 91) 7 dX10_setProduct_91 rfl rfl ?_
      refine g_get (pc := 92) dX10_setProduct_92 fk_X10_19 (lk_ne haq hq) rfl ?_
      refine g_iload (pc := 95) 0 dX10_setProduct_95 rfl ?_
      refine g_lald (pc := 97) J dX10_setProduct_97 (lk_ne hac hc) (IXn (by omega) (by omega)) ?_
      refine g_lmul (pc := 98) dX10_setProduct_98 ?_
      refine g_ladd (pc := 99) dX10_setProduct_99 ?_
      refine g_last (pc := 100) (I + J) dX10_setProduct_100 (lk_eq ha) (IXn (by omega) (by omega)) ?_
      refine GP.weq (w.set a (aL N (vp_updL cur (I + J) ((cur (I + J)) + ((es I) * (fs J)))))) (by rw [List.set_set]) ?_
      refine n_iinc (pc := 101) (c := 1) [(8, .int (nI (J + 1))), (7, .int (nI k)), (5, .long (es I)), (4, .int (nI I)), (3, .int (nI (m + k))), (0, .ref o), (1, .ref p), (2, .ref q)] 0 dX10_setProduct_101 rfl (by decide) (by decide) rfl ?_
      refine g_goto (pc := 104) 71 dX10_setProduct_104 (by decide) ?_
      exact GP.lsub _ (by simp) (ih (J + 1) _ (by omega) (prI_s hI (by omega) hm he hf h))
theorem pr_outer {w0 w : Wd} {Post : Option Value → Wd → Prop} {o a N n0 p b M m q c K k : Nat} {ds es fs : Nat → Int64} (ho : w[o]? = some (oW a n0)) (ha : w[a]? = some (aL N ds)) (hp : w[p]? = some (oW b m)) (hb : w[b]? = some (aL M es)) (hq : w[q]? = some (oW c k)) (hc : w[c]? = some (aL K fs)) (hoa : o ≠ a) (hap : a ≠ p) (hab : a ≠ b) (haq : a ≠ q) (hac : a ≠ c) (hN : N < 2147483648) (hM : M < 2147483648) (hK : K < 2147483648) (hmM : m ≤ M) (hkK : k ≤ K) (hmk : m + k ≤ N) (hm : m ≤ 100) (he : dgs es m) (hf : dgs fs k) (hx : ∀ cur, prO es fs m k m cur → BX10_setProduct w0 Post (w.set a (aL N cur)) 113 [(4, .int (nI m)), (3, .int (nI (m + k))), (0, .ref o), (1, .ref p), (2, .ref q)] []) : ∀ (z I : Nat) (cur : Nat → Int64), m = I + z → prO es fs m k I cur → BX10_setProduct w0 Post (w.set a (aL N cur)) 31 [(4, .int (nI I)), (3, .int (nI (m + k))), (0, .ref o), (1, .ref p), (2, .ref q)] [] := by
  intro z
  induction z with
  | zero =>
    intro I cur hI h
    refine g_iload (pc := 31) 0 dX10_setProduct_31 rfl ?_
    refine g_aload_n (pc := 33) 3 dX10_setProduct_33 rfl rfl ?_
    refine g_get (pc := 34) dX10_setProduct_34 fk_X10_9 (lk_ne hap hp) rfl ?_
    refine n_icmp_ge (pc := 37) 113 dX10_setProduct_37 (by decide) (by omega) (by omega) (fun hz => ?_) (fun hz => ?_)
    · rw [show I = m by omega] at h ⊢
      exact hx cur h
    · exact absurd hI (by omega)
  | succ z ih =>
    intro I cur hI h
    refine g_iload (pc := 31) 0 dX10_setProduct_31 rfl ?_
    refine g_aload_n (pc := 33) 3 dX10_setProduct_33 rfl rfl ?_
    refine g_get (pc := 34) dX10_setProduct_34 fk_X10_9 (lk_ne hap hp) rfl ?_
    refine n_icmp_ge (pc := 37) 113 dX10_setProduct_37 (by decide) (by omega) (by omega) (fun hz => ?_) (fun hz => ?_)
    · exact absurd hI (by omega)
    · refine g_iload (pc := 40) 0 dX10_setProduct_40 rfl ?_
      refine g_iload_n (pc := 42) 1 dX10_setProduct_42 rfl rfl ?_
      refine n_icmp_ge (pc := 43) 113 dX10_setProduct_43 (by decide) (by omega) (by omega) (fun hz2 => ?_) (fun hz2 => ?_)
      · exact absurd hz2 (by omega)
      · refine g_aload_n (pc := 46) 3 dX10_setProduct_46 rfl rfl ?_
        refine g_get (pc := 47) dX10_setProduct_47 fk_X10_19 (lk_ne hap hp) rfl ?_
        refine g_iload (pc := 50) 0 dX10_setProduct_50 rfl ?_
        refine g_lald (pc := 52) I dX10_setProduct_52 (lk_ne hab hb) (IXn (by omega) (by omega)) ?_
        refine g_lstore (pc := 53) [(5, .long (es I)), (4, .int (nI I)), (3, .int (nI (m + k))), (0, .ref o), (1, .ref p), (2, .ref q)] dX10_setProduct_53 (by decide) rfl ?_
        refine g_aload_n (pc := 55) 5 dX10_setProduct_55 rfl rfl ?_
        refine g_get (pc := 56) dX10_setProduct_56 fk_X10_9 (lk_ne haq hq) rfl ?_
        refine g_iload_n (pc := 59) 2 dX10_setProduct_59 rfl rfl ?_
        refine g_iload (pc := 60) 1 dX10_setProduct_60 rfl ?_
        refine n_isub (pc := 62) dX10_setProduct_62 (by omega) ?_
        refine g_callS (pc := 63) [.int (nI k), .int (nI ((m + k) - I))] dX10_setProduct_63 cs_X10_25.1 cs_X10_25.2 rfl rfl (Nat.le_of_ble_eq_true rfl) (by decide) (by decide) (sp_minI _ (nI k) (nI (m + k - I))) ?_
        rintro _ w9 ⟨rfl, e9⟩
        refine GP.weq _ e9 ?_
        refine GP.ti (nI k) (by rw [if_neg (by rw [nI_ltN (by omega) (by omega)]; omega)]) ?_
        refine g_istore (pc := 66) [(7, .int (nI k)), (5, .long (es I)), (4, .int (nI I)), (3, .int (nI (m + k))), (0, .ref o), (1, .ref p), (2, .ref q)] dX10_setProduct_66 (by decide) rfl ?_
        refine g_iconst (pc := 68) (v := nI 0) dX10_setProduct_68 (by decide) ?_
        refine g_istore (pc := 69) [(8, .int (nI 0)), (7, .int (nI k)), (5, .long (es I)), (4, .int (nI I)), (3, .int (nI (m + k))), (0, .ref o), (1, .ref p), (2, .ref q)] dX10_setProduct_69 (by decide) rfl ?_
        refine GP.lsub [(8, .int (nI 0)), (7, .int (nI k)), (5, .long (es I)), (4, .int (nI I)), (3, .int (nI (m + k))), (0, .ref o), (1, .ref p), (2, .ref q)] (by simp) ?_
        refine pr_inner ho ha hp hb hq hc hoa hap hab haq hac hN hM hK hmM hkK hmk hm he hf (by omega) (fun cur h => ?_) k 0 cur (by omega) (prI_0 h)
        refine n_iinc (pc := 107) (c := 1) [(4, .int (nI (I + 1))), (3, .int (nI (m + k))), (0, .ref o), (1, .ref p), (2, .ref q)] 0 dX10_setProduct_107 rfl (by decide) (by decide) rfl ?_
        refine g_goto (pc := 110) 31 dX10_setProduct_110 (by decide) ?_
        exact GP.lsub _ (by simp) (ih (I + 1) cur (by omega) h)
theorem sp_setProduct (w : Wd) {o a N n0 p b M m q c K k : Nat} {ds es fs : Nat → Int64} (ho : w[o]? = some (oW a n0)) (ha : w[a]? = some (aL N ds)) (hp : w[p]? = some (oW b m)) (hb : w[b]? = some (aL M es)) (hq : w[q]? = some (oW c k)) (hc : w[c]? = some (aL K fs)) (hoa : o ≠ a) (hap : a ≠ p) (hab : a ≠ b) (haq : a ≠ q) (hac : a ≠ c) (hN : N < 2147483648) (hM : M < 2147483648) (hK : K < 2147483648) (hmM : m ≤ M) (hkK : k ≤ K) (hmk : m + k ≤ N) (hm : m ≤ 100) (he : dgs es m) (hf : dgs fs k) : EX10_setProduct [.ref o, .ref p, .ref q] w (fun r w' => r = none ∧ ∃ ds' n', wf ds' n' ∧ vl ds' n' = vl es m * vl fs k ∧ n' ≤ m + k ∧ w' = (w.set o (oW a n')).set a (aL N ds')) := by
  refine EP.of (plainFor_of_name (by decide)) [(0, .ref o), (1, .ref p), (2, .ref q)] rfl (Nat.le_of_ble_eq_true rfl) (fun r wf h => by obtain ⟨rfl, -⟩ := h; trivial) ?_
  show BX10_setProduct w _ w 0 [(0, .ref o), (1, .ref p), (2, .ref q)] []
  refine g_aload_n (pc := 0) 0 dX10_setProduct_0 rfl rfl ?_
  refine g_get (pc := 1) dX10_setProduct_1 fk_X10_19 ho rfl ?_
  refine g_alen (pc := 4) dX10_setProduct_4 ha (by decide) ?_
  refine g_aload_n (pc := 5) 1 dX10_setProduct_5 rfl rfl ?_
  refine g_get (pc := 6) dX10_setProduct_6 fk_X10_9 hp rfl ?_
  refine g_aload_n (pc := 9) 2 dX10_setProduct_9 rfl rfl ?_
  refine g_get (pc := 10) dX10_setProduct_10 fk_X10_9 hq rfl ?_
  refine n_iadd (pc := 13) dX10_setProduct_13 ?_
  refine g_callS (pc := 14) [.int (nI N), .int (nI (m + k))] dX10_setProduct_14 cs_X10_25.1 cs_X10_25.2 rfl rfl (Nat.le_of_ble_eq_true rfl) (by decide) (by decide) (sp_minI _ (nI N) (nI (m + k))) ?_
  rintro _ w9 ⟨rfl, e9⟩
  refine GP.weq _ e9 ?_
  refine GP.ti (nI (m + k)) (by rw [minN (by omega) (by omega)]; congr 1; omega) ?_
  refine g_istore_n (pc := 17) [(3, .int (nI (m + k))), (0, .ref o), (1, .ref p), (2, .ref q)] dX10_setProduct_17 rfl (by decide) rfl ?_
  refine g_aload_n (pc := 18) 1 dX10_setProduct_18 rfl rfl ?_
  refine g_get (pc := 19) dX10_setProduct_19 fk_X10_19 ho rfl ?_
  refine g_iconst (pc := 22) (v := nI 0) dX10_setProduct_22 (by decide) ?_
  refine g_iload_n (pc := 23) 0 dX10_setProduct_23 rfl rfl ?_
  refine g_lconst (pc := 24) (v := 0) dX10_setProduct_24 (by decide) ?_
  refine g_callS (pc := 25) [.ref a, .int (nI 0), .int (nI (m + k)), .long 0] dX10_setProduct_25 cs_X10_38.1 cs_X10_38.2 rfl rfl (Nat.le_of_ble_eq_true rfl) (by decide) (by decide) (sp_fill3 _ a N 0 (m + k) ds 0 ha hN (by omega) (by omega)) ?_
  rintro _ w9 ⟨rfl, e9⟩
  refine GP.weq _ e9 ?_
  refine g_iconst (pc := 28) (v := nI 0) dX10_setProduct_28 (by decide) ?_
  refine g_istore (pc := 29) [(4, .int (nI 0)), (3, .int (nI (m + k))), (0, .ref o), (1, .ref p), (2, .ref q)] dX10_setProduct_29 (by decide) rfl ?_
  refine GP.lsub [(4, .int (nI 0)), (3, .int (nI (m + k))), (0, .ref o), (1, .ref p), (2, .ref q)] (by simp) ?_
  refine pr_outer ho ha hp hb hq hc hoa hap hab haq hac hN hM hK hmM hkK hmk hm he hf (fun cur h => ?_) m 0 _ (by omega) ?_
  · refine g_aload_n (pc := 113) 2 dX10_setProduct_113 rfl rfl ?_
    refine g_iload_n (pc := 114) 1 dX10_setProduct_114 rfl rfl ?_
    refine g_callV (pc := 115) [.int (nI (m + k))] dX10_setProduct_115 cv_X10_28.1 cv_X10_28.2.1 cv_X10_28.2.2.1 cv_X10_28.2.2.2 (lk_ne (Ne.symm hoa) ho) rfl rfl (Nat.le_of_ble_eq_true rfl) (by decide) (by decide) (sp_carry _ o a N n0 (m + k) cur (lk_ne (Ne.symm hoa) ho) (lk_eq ha) hoa hmk hN (fun i hi => ⟨(h.1 i hi).1, by have := (h.1 i hi).2; omega⟩)) ?_
    rintro _ w9 ⟨rfl, ds', n', hcd, e9⟩
    refine GP.weq _ e9 ?_
    have hl1 := vl_lt he
    have hl2 := vl_lt hf
    have hn1 : 0 ≤ vl es m := vl_nn (fun j hj => (he j hj).1)
    have hn2 : 0 ≤ vl fs k := vl_nn (fun j hj => (hf j hj).1)
    have hlt : vl cur (m + k) < 268435456 ^ (m + k) := by
      rw [h.2, Int.pow_add]
      exact imul_lt hl1 hl2 hn1 hn2
    obtain ⟨c1, c2, c3, c4⟩ := carried_val hcd hlt
    exact g_vret (pc := 118) dX10_setProduct_118 ⟨rfl, ds', n', ⟨c2, c3⟩, by rw [c1, h.2], c4, by rw [List.set_comm _ _ hoa, List.set_set, List.set_comm _ _ (Ne.symm hoa)]⟩
  · refine ⟨fun t ht => ?_, ?_⟩
    · simp only [fillF]; rw [if_pos (by omega)]; exact ⟨by decide, by show ((0 : Int64)).toInt ≤ _; simp⟩
    · show vl _ (m + k) = 0 * _
      rw [show m + k = 0 + (m + k) by omega, vl_zeros (fun j h1 h2 => by simp only [fillF]; rw [if_pos (by omega)]; decide)]; simp [vl]
