/-! the reference: product, compareNumbers, add -/
def mpO (es fs : Nat → Int64) (n k I : Nat) (c : Nat → Int64) : Prop := dgs c (n + k) ∧ (∀ t, I + k ≤ t → t < n + k → (c t).toInt = 0) ∧ vl c (n + k) = vl es I * vl fs k
def mpI (es fs : Nat → Int64) (n k I J : Nat) (c : Nat → Int64) (cy : Int64) : Prop := dgs c (n + k) ∧ (∀ t, I + k ≤ t → t < n + k → (c t).toInt = 0) ∧ (0 ≤ cy.toInt ∧ cy.toInt < 268435456) ∧ vl c (n + k) + cy.toInt * 268435456 ^ (I + J) = vl es I * vl fs k + (es I).toInt * 268435456 ^ I * vl fs J
theorem mpI_0 {es fs c : Nat → Int64} {n k I : Nat} (h : mpO es fs n k I c) : mpI es fs n k I 0 c 0 := by
  refine ⟨h.1, h.2.1, by decide, ?_⟩
  rw [h.2.2]
  show _ + 0 * _ = _ + _ * 0
  omega
theorem mpI_s {es fs c : Nat → Int64} {n k I J : Nat} {cy : Int64} (h : mpI es fs n k I J c cy) (hI : I < n) (hJ : J < k) (he : 0 ≤ (es I).toInt ∧ (es I).toInt < 268435456) (hf : 0 ≤ (fs J).toInt ∧ (fs J).toInt < 268435456) {v : Int64} (hv : v = c (I + J) + es I * fs J + cy) : mpI es fs n k I (J + 1) (vp_updL c (I + J) (v &&& 268435455)) (v.toUInt64 >>> ((nI 28).toInt64.toUInt64 &&& Int64.toUInt64 63)).toInt64 := by
  obtain ⟨h1, h2, h3, h4⟩ := h
  have hq := pr_mul he hf
  have hq2 : (es I).toInt * (fs J).toInt ≤ 268435455 * 268435455 := Int.mul_le_mul (by omega) (by omega) hf.1 (by decide)
  have hc := h1 (I + J) (by omega)
  have ha : (c (I + J) + es I * fs J).toInt = (c (I + J)).toInt + (es I).toInt * (fs J).toInt := by rw [L_add (by rw [hq.1]; omega) (by rw [hq.1]; omega), hq.1]
  have hvI : v.toInt = (c (I + J)).toInt + (es I).toInt * (fs J).toInt + cy.toInt := by rw [hv, L_add (by rw [ha]; omega) (by rw [ha]; omega), ha]
  have hv0 : 0 ≤ v.toInt := by omega
  have em := L_mask hv0
  have eq := L_ushr (x := v) (k := 28) (s := nI 28) (by decide) (by decide) hv0
  rw [show (2 : Int) ^ 28 = 268435456 by decide] at eq
  generalize v &&& 268435455 = M at em ⊢
  generalize (v.toUInt64 >>> ((nI 28).toInt64.toUInt64 &&& Int64.toUInt64 63)).toInt64 = O at eq ⊢
  refine ⟨fun i hi => ?_, fun t a b => ?_, by omega, ?_⟩
  · by_cases e : i = I + J
    · rw [e, upL_s]; omega
    · rw [upL_n e]; exact h1 i hi
  · rw [upL_n (by omega)]; exact h2 t a b
  · rw [vl_up (by omega)]
    show _ = vl es I * vl fs k + (es I).toInt * 268435456 ^ I * (vl fs J + (fs J).toInt * 268435456 ^ J)
    rw [Int.mul_add]
    have e : (es I).toInt * 268435456 ^ I * ((fs J).toInt * 268435456 ^ J) = (es I).toInt * (fs J).toInt * 268435456 ^ (I + J) := by
      rw [Int.pow_add]
      generalize (268435456 : Int) ^ I = A
      generalize (268435456 : Int) ^ J = C
      grind
    rw [e, show I + (J + 1) = I + J + 1 by omega, Int.pow_succ]
    generalize (268435456 : Int) ^ (I + J) = P at *
    generalize (es I).toInt * (fs J).toInt = ef at *
    have h9 : M.toInt + O.toInt * 268435456 = (c (I + J)).toInt + ef + cy.toInt := by omega
    have h10 : (M.toInt + O.toInt * 268435456) * P = ((c (I + J)).toInt + ef + cy.toInt) * P := by rw [h9]
    rw [Int.add_mul, Int.add_mul, Int.add_mul] at h10
    have h11 : O.toInt * 268435456 * P = O.toInt * (P * 268435456) := by rw [Int.mul_assoc, Int.mul_comm 268435456 P]
    rw [Int.sub_mul]
    omega
theorem mpI_end {es fs c : Nat → Int64} {n k I : Nat} {cy : Int64} (h : mpI es fs n k I k c cy) (hI : I < n) : mpO es fs n k (I + 1) (vp_updL c (I + k) (c (I + k) + cy)) := by
  obtain ⟨h1, h2, h3, h4⟩ := h
  have hz := h2 (I + k) (by omega) (by omega)
  have ha : (c (I + k) + cy).toInt = cy.toInt := by rw [L_add (by omega) (by omega), hz]; omega
  refine ⟨fun i hi => ?_, fun t a b => ?_, ?_⟩
  · by_cases e : i = I + k
    · rw [e, upL_s, ha]; exact h3
    · rw [upL_n e]; exact h1 i hi
  · rw [upL_n (by omega)]; exact h2 t (by omega) b
  · rw [vl_up (by omega), ha, hz, Int.sub_zero]
    show _ = (vl es I + (es I).toInt * 268435456 ^ I) * vl fs k
    rw [Int.add_mul, ← h4]
abbrev BX12_product (w0 : Wd) (Post : Option Value → Wd → Prop) (w : Wd) (pc : Nat) (ls : List (Nat × Value)) (st : List Value) : Prop := GP "product" RX12 cX12_product 12 none 0 0 none w0 Post w pc ls st
abbrev EX12_product (As : List Value) (w : Wd) (Post : Option Value → Wd → Prop) : Prop := EP yX12_product cX12_product 12 none 0 As w Post
theorem pd_its {w0 w : Wd} {Y : Nat} {th st nu dg dd ld be ib ta fa re ig : Int32} {dg9 : Nat → Int64} {m9 : Nat → Int32} (hY : w[Y]? = some (oM Y th st nu dg dd ld be ib ta fa re ig)) (hN : nuC w Y dg9 m9) {a b t n k va vb : Nat} (ha : a < 5) (hb : b < 5) (ht : t < 5) (hat : a ≠ t) (hbt : b ≠ t) (hva : nuV dg9 m9 a n va) (hvb : nuV dg9 m9 b k vb) (hnk : n + k ≤ 90) {cur : Nat → Int64} (hF : nuF dg9 cur t) (hd : dgs (sl cur t) (n + k)) (hv : vl (sl cur t) (n + k) = ((va * vb : Nat) : Int)) : ∀ c : Nat, c ≤ n + k → vl (sl cur t) c = vl (sl cur t) (n + k) → BX12_product w0 (fun r w' => r = none ∧ ∃ dg' m', nuC w' Y dg' m' ∧ (∃ n', n' ≤ n + k ∧ nuV dg' m' t n' (va * vb)) ∧ nuF dg9 dg' t ∧ nuM m9 m' t ∧ FR (nuS Y) w w') (w.set (Y + 13) (aL 450 cur)) 172 [(6, .int (nI c)), (5, .int (nI k)), (4, .int (nI n)), (3, .int (nI (90 * t))), (2, .int (nI (90 * b))), (1, .int (nI (90 * a))), (0, .ref Y)] [] := by
  intro c
  induction c with
  | zero =>
    intro hc hvc
    refine g_iload (pc := 172) 0 dX12_product_172 rfl ?_
    refine n_if_le (pc := 174) 199 dX12_product_174 (by decide) (by omega) (fun hb9 => ?_) (fun hb9 => ?_)
    · obtain ⟨c, hc0⟩ : ∃ c, c = 0 := ⟨0, rfl⟩
      rw [← hc0] at hc hvc
      refine g_aload_n (pc := 199) 6 dX12_product_199 rfl rfl ?_
      refine g_get (pc := 200) dX12_product_200 fk_X12_51 (lk_ne (show (Y + 13) ≠ Y by omega) hY) rfl ?_
      refine g_iload_n (pc := 203) 3 dX12_product_203 rfl rfl ?_
      refine g_bipush (pc := 204) (v := nI 90) dX12_product_204 (by decide) ?_
      refine n_idiv (pc := 206) dX12_product_206 (by omega) (by omega) (by omega) ?_
      refine GP.ti (nI t) (by rw [show 90 * t / 90 = t by omega]) ?_
      refine g_iload (pc := 207) 0 dX12_product_207 rfl ?_
      refine g_iast (pc := 209) t dX12_product_209 (lk_ne (show (Y + 13) ≠ (Y + 14) by omega) hN.2) (IXn (by omega) (by omega)) ?_
      exact g_vret (pc := 210) dX12_product_210 ⟨rfl, cur, _, ⟨(lk_ne (show (Y + 14) ≠ (Y + 13) by omega) (lk_eq hN.1)), (lk_eq (lk_ne (show (Y + 13) ≠ (Y + 14) by omega) hN.2))⟩, ⟨0, by omega, upd_s, by omega, ⟨fun i hi => absurd hi (by omega), Or.inl rfl⟩, by rw [← hc0, hvc, hv]⟩, hF, fun j hj => upd_n hj, (FR.st (c' := aI 0 5 (upd m9 t (nI 0))) (FR.st (c' := aL 450 cur) FR.rf hN.1 rfl (by unfold nuS; omega)) (lk_ne (show (Y + 13) ≠ (Y + 14) by omega) hN.2) rfl (by unfold nuS; omega))⟩
    · exact absurd rfl hb9
  | succ c ih =>
    intro hc hvc
    refine g_iload (pc := 172) 0 dX12_product_172 rfl ?_
    refine n_if_le (pc := 174) 199 dX12_product_174 (by decide) (by omega) (fun hb9 => ?_) (fun hb9 => ?_)
    · exact absurd hb9 (by omega)
    · refine g_aload_n (pc := 177) 6 dX12_product_177 rfl rfl ?_
      refine g_get (pc := 178) dX12_product_178 fk_X12_48 (lk_ne (show (Y + 13) ≠ Y by omega) hY) rfl ?_
      refine g_iload_n (pc := 181) 3 dX12_product_181 rfl rfl ?_
      refine g_iload (pc := 182) 0 dX12_product_182 rfl ?_
      refine n_iadd (pc := 184) dX12_product_184 ?_
      refine g_iconst (pc := 185) (v := nI 1) dX12_product_185 (by decide) ?_
      refine n_isub (pc := 186) dX12_product_186 (by omega) ?_
      refine g_lald (pc := 187) (((90 * t) + (c + 1)) - 1) dX12_product_187 (lk_eq hN.1) (IXn (by omega) (by omega)) ?_
      refine g_lconst (pc := 188) (v := 0) dX12_product_188 (by decide) ?_
      refine g_lcmp_ne (pc := 189) 199 dX12_product_189 dX12_product_190 (by decide) (fun hz9 => ?_) (fun hz9 => ?_)
      · rw [show 90 * t + (c + 1) - 1 = 90 * t + c by omega] at hz9
        refine g_aload_n (pc := 199) 6 dX12_product_199 rfl rfl ?_
        refine g_get (pc := 200) dX12_product_200 fk_X12_51 (lk_ne (show (Y + 13) ≠ Y by omega) hY) rfl ?_
        refine g_iload_n (pc := 203) 3 dX12_product_203 rfl rfl ?_
        refine g_bipush (pc := 204) (v := nI 90) dX12_product_204 (by decide) ?_
        refine n_idiv (pc := 206) dX12_product_206 (by omega) (by omega) (by omega) ?_
        refine GP.ti (nI t) (by rw [show 90 * t / 90 = t by omega]) ?_
        refine g_iload (pc := 207) 0 dX12_product_207 rfl ?_
        refine g_iast (pc := 209) t dX12_product_209 (lk_ne (show (Y + 13) ≠ (Y + 14) by omega) hN.2) (IXn (by omega) (by omega)) ?_
        exact g_vret (pc := 210) dX12_product_210 ⟨rfl, cur, _, ⟨(lk_ne (show (Y + 14) ≠ (Y + 13) by omega) (lk_eq hN.1)), (lk_eq (lk_ne (show (Y + 13) ≠ (Y + 14) by omega) hN.2))⟩, ⟨c + 1, by omega, upd_s, by omega, ⟨fun i hi => hd i (by omega), Or.inr (fun g => hz9 (L0.mp g))⟩, by rw [hvc, hv]⟩, hF, fun j hj => upd_n hj, (FR.st (c' := aI 0 5 (upd m9 t (nI (c + 1)))) (FR.st (c' := aL 450 cur) FR.rf hN.1 rfl (by unfold nuS; omega)) (lk_ne (show (Y + 13) ≠ (Y + 14) by omega) hN.2) rfl (by unfold nuS; omega))⟩
      · rw [show 90 * t + (c + 1) - 1 = 90 * t + c by omega, Classical.not_not] at hz9
        refine n_idec (pc := 193) (c := 1) [(6, .int (nI ((c + 1) - 1))), (5, .int (nI k)), (4, .int (nI n)), (3, .int (nI (90 * t))), (2, .int (nI (90 * b))), (1, .int (nI (90 * a))), (0, .ref Y)] 0 dX12_product_193 rfl (by decide) (by omega) (by decide) rfl ?_
        refine g_goto (pc := 196) 172 dX12_product_196 (by decide) ?_
        refine GP.lsub _ (by simp) (ih (by omega) ?_)
        rw [← hvc]
        show _ = vl (sl cur t) c + (sl cur t c).toInt * _
        rw [show (sl cur t c).toInt = 0 from L0.mpr hz9]
        omega
theorem pd_in {w0 w : Wd} {Y : Nat} {th st nu dg dd ld be ib ta fa re ig : Int32} {dg9 : Nat → Int64} {m9 : Nat → Int32} (hY : w[Y]? = some (oM Y th st nu dg dd ld be ib ta fa re ig)) (hN : nuC w Y dg9 m9) {a b t n k va vb : Nat} (ha : a < 5) (hb : b < 5) (ht : t < 5) (hat : a ≠ t) (hbt : b ≠ t) (hva : nuV dg9 m9 a n va) (hvb : nuV dg9 m9 b k vb) (hnk : n + k ≤ 90) {I : Nat} (hI : I < n) (K : ∀ cur, nuF dg9 cur t → mpO (sl dg9 a) (sl dg9 b) n k (I + 1) (sl cur t) → BX12_product w0 (fun r w' => r = none ∧ ∃ dg' m', nuC w' Y dg' m' ∧ (∃ n', n' ≤ n + k ∧ nuV dg' m' t n' (va * vb)) ∧ nuF dg9 dg' t ∧ nuM m9 m' t ∧ FR (nuS Y) w w') (w.set (Y + 13) (aL 450 cur)) 159 [(6, .int (nI I)), (5, .int (nI k)), (4, .int (nI n)), (3, .int (nI (90 * t))), (2, .int (nI (90 * b))), (1, .int (nI (90 * a))), (0, .ref Y)] []) : ∀ (z J : Nat) (cur : Nat → Int64) (cy : Int64), k = J + z → nuF dg9 cur t → mpI (sl dg9 a) (sl dg9 b) n k I J (sl cur t) cy → BX12_product w0 (fun r w' => r = none ∧ ∃ dg' m', nuC w' Y dg' m' ∧ (∃ n', n' ≤ n + k ∧ nuV dg' m' t n' (va * vb)) ∧ nuF dg9 dg' t ∧ nuM m9 m' t ∧ FR (nuS Y) w w') (w.set (Y + 13) (aL 450 cur)) 67 [(9, .int (nI J)), (7, .long cy), (6, .int (nI I)), (5, .int (nI k)), (4, .int (nI n)), (3, .int (nI (90 * t))), (2, .int (nI (90 * b))), (1, .int (nI (90 * a))), (0, .ref Y)] [] := by
  intro z
  induction z with
  | zero =>
    intro J cur cy hz hF h
    refine g_iload (pc := 67) 0 dX12_product_67 rfl ?_
    refine g_iload (pc := 69) 3 dX12_product_69 rfl ?_
    refine n_icmp_ge (pc := 71) 142 dX12_product_71 (by decide) (by omega) (by omega) (fun hb9 => ?_) (fun hb9 => ?_)
    · have e9 : k = J := by omega
      subst e9
      refine g_aload_n (pc := 142) 8 dX12_product_142 rfl rfl ?_
      refine g_get (pc := 143) dX12_product_143 fk_X12_48 (lk_ne (show (Y + 13) ≠ Y by omega) hY) rfl ?_
      refine g_iload_n (pc := 146) 5 dX12_product_146 rfl rfl ?_
      refine g_iload (pc := 147) 2 dX12_product_147 rfl ?_
      refine n_iadd (pc := 149) dX12_product_149 ?_
      refine g_iload (pc := 150) 3 dX12_product_150 rfl ?_
      refine n_iadd (pc := 152) dX12_product_152 ?_
      refine g_dup2 (pc := 153) dX12_product_153 rfl rfl ?_
      refine g_lald (pc := 154) (((90 * t) + I) + k) dX12_product_154 (lk_eq hN.1) (IXn (by omega) (by omega)) ?_
      refine g_lload (pc := 155) 1 dX12_product_155 rfl ?_
      refine g_ladd (pc := 157) dX12_product_157 ?_
      refine g_last (pc := 158) (((90 * t) + I) + k) dX12_product_158 (lk_eq hN.1) (IXn (by omega) (by omega)) ?_
      refine GP.weq (w.set (Y + 13) (aL 450 (vp_updL cur (((90 * t) + I) + k) ((cur (((90 * t) + I) + k)) + cy)))) (by rw [List.set_set]) ?_
      rw [Nat.add_assoc]
      refine GP.lsub _ (by simp) (K _ (hF.st (by omega)) ?_)
      rw [sl_up]
      exact mpI_end h hI
    · exact absurd hb9 (by omega)
  | succ z ih =>
    intro J cur cy hz hF h
    refine g_iload (pc := 67) 0 dX12_product_67 rfl ?_
    refine g_iload (pc := 69) 3 dX12_product_69 rfl ?_
    refine n_icmp_ge (pc := 71) 142 dX12_product_71 (by decide) (by omega) (by omega) (fun hb9 => ?_) (fun hb9 => ?_)
    · exact absurd hb9 (by omega)
    · have hn9 := hva.2.1
      have hk9 := hvb.2.1
      have ea : cur (90 * a + I) = sl dg9 a I := hF _ (by omega)
      have eb : cur (90 * b + J) = sl dg9 b J := hF _ (by omega)
      refine g_aload_n (pc := 74) 8 dX12_product_74 rfl rfl ?_
      refine g_get (pc := 75) dX12_product_75 fk_X12_48 (lk_ne (show (Y + 13) ≠ Y by omega) hY) rfl ?_
      refine g_iload_n (pc := 78) 5 dX12_product_78 rfl rfl ?_
      refine g_iload (pc := 79) 2 dX12_product_79 rfl ?_
      refine n_iadd (pc := 81) dX12_product_81 ?_
      refine g_iload (pc := 82) 0 dX12_product_82 rfl ?_
      refine n_iadd (pc := 84) dX12_product_84 ?_
      refine g_lald (pc := 85) (((90 * t) + I) + J) dX12_product_85 (lk_eq hN.1) (IXn (by omega) (by omega)) ?_
      refine g_aload_n (pc := 86) 8 dX12_product_86 rfl rfl ?_
      refine g_get (pc := 87) dX12_product_87 fk_X12_48 (lk_ne (show (Y + 13) ≠ Y by omega) hY) rfl ?_
      refine g_iload_n (pc := 90) 7 dX12_product_90 rfl rfl ?_
      refine g_iload (pc := 91) 2 dX12_product_91 rfl ?_
      refine n_iadd (pc := 93) dX12_product_93 ?_
      refine g_lald (pc := 94) ((90 * a) + I) dX12_product_94 (lk_eq hN.1) (IXn (by omega) (by omega)) ?_
      refine g_aload_n (pc := 95) 8 dX12_product_95 rfl rfl ?_
      refine g_get (pc := 96) dX12_product_96 fk_X12_48 (lk_ne (show (Y + 13) ≠ Y by omega) hY) rfl ?_
      refine g_iload_n (pc := 99) 6 dX12_product_99 rfl rfl ?_
      refine g_iload (pc := 100) 0 dX12_product_100 rfl ?_
      refine n_iadd (pc := 102) dX12_product_102 ?_
      refine g_lald (pc := 103) ((90 * b) + J) dX12_product_103 (lk_eq hN.1) (IXn (by omega) (by omega)) ?_
      refine g_lmul (pc := 104) dX12_product_104 ?_
      refine g_ladd (pc := 105) dX12_product_105 ?_
      refine g_lload (pc := 106) 1 dX12_product_106 rfl ?_
      refine g_ladd (pc := 108) dX12_product_108 ?_
      refine g_lstore (pc := 109) [(10, .long (((cur (((90 * t) + I) + J)) + ((cur ((90 * a) + I)) * (cur ((90 * b) + J)))) + cy)), (9, .int (nI J)), (7, .long cy), (6, .int (nI I)), (5, .int (nI k)), (4, .int (nI n)), (3, .int (nI (90 * t))), (2, .int (nI (90 * b))), (1, .int (nI (90 * a))), (0, .ref Y)] dX12_product_109 (by decide) rfl ?_
      refine g_aload_n (pc := 111) 9 dX12_product_111 rfl rfl ?_
      refine g_get (pc := 112) dX12_product_112 fk_X12_48 (lk_ne (show (Y + 13) ≠ Y by omega) hY) rfl ?_
      refine g_iload_n (pc := 115) 6 dX12_product_115 rfl rfl ?_
      refine g_iload (pc := 116) 3 dX12_product_116 rfl ?_
      refine n_iadd (pc := 118) dX12_product_118 ?_
      refine g_iload (pc := 119) 1 dX12_product_119 rfl ?_
      refine n_iadd (pc := 121) dX12_product_121 ?_
      refine g_lload (pc := 122) 0 dX12_product_122 rfl ?_
      refine g_ldc2 (pc := 124) kc_X12_202 dX12_product_124 ?_
      refine g_land (pc := 127) dX12_product_127 ?_
      refine g_last (pc := 128) (((90 * t) + I) + J) dX12_product_128 (lk_eq hN.1) (IXn (by omega) (by omega)) ?_
      refine GP.weq (w.set (Y + 13) (aL 450 (vp_updL cur (((90 * t) + I) + J) ((((cur (((90 * t) + I) + J)) + ((cur ((90 * a) + I)) * (cur ((90 * b) + J)))) + cy) &&& (268435455))))) (by rw [List.set_set]) ?_
      refine g_lload (pc := 129) 0 dX12_product_129 rfl ?_
      refine g_bipush (pc := 131) (v := nI 28) dX12_product_131 (by decide) ?_
      refine g_lushr (pc := 133) dX12_product_133 ?_
      refine g_lstore (pc := 134) [(7, .long (((((cur (((90 * t) + I) + J)) + ((cur ((90 * a) + I)) * (cur ((90 * b) + J)))) + cy).toUInt64 >>> ((nI 28).toInt64.toUInt64 &&& Int64.toUInt64 63)).toInt64)), (10, .long (((cur (((90 * t) + I) + J)) + ((cur ((90 * a) + I)) * (cur ((90 * b) + J)))) + cy)), (9, .int (nI J)), (6, .int (nI I)), (5, .int (nI k)), (4, .int (nI n)), (3, .int (nI (90 * t))), (2, .int (nI (90 * b))), (1, .int (nI (90 * a))), (0, .ref Y)] dX12_product_134 (by decide) rfl ?_
      refine n_iinc (pc := 136) (c := 1) [(9, .int (nI (J + 1))), (7, .long (((((cur (((90 * t) + I) + J)) + ((cur ((90 * a) + I)) * (cur ((90 * b) + J)))) + cy).toUInt64 >>> ((nI 28).toInt64.toUInt64 &&& Int64.toUInt64 63)).toInt64)), (10, .long (((cur (((90 * t) + I) + J)) + ((cur ((90 * a) + I)) * (cur ((90 * b) + J)))) + cy)), (6, .int (nI I)), (5, .int (nI k)), (4, .int (nI n)), (3, .int (nI (90 * t))), (2, .int (nI (90 * b))), (1, .int (nI (90 * a))), (0, .ref Y)] 2 dX12_product_136 rfl (by decide) (by decide) rfl ?_
      refine g_goto (pc := 139) 67 dX12_product_139 (by decide) ?_
      rw [ea, eb, Nat.add_assoc]
      generalize hv9 : cur (90 * t + (I + J)) + sl dg9 a I * sl dg9 b J + cy = v9
      refine GP.lsub _ (by simp) (ih (J + 1) _ (v9.toUInt64 >>> ((nI 28).toInt64.toUInt64 &&& Int64.toUInt64 63)).toInt64 (by omega) (hF.st (by omega)) ?_)
      rw [sl_up]
      exact mpI_s h hI (by omega) (hva.2.2.1.1 I (by omega)) (hvb.2.2.1.1 J (by omega)) hv9.symm
theorem pd_out {w0 w : Wd} {Y : Nat} {th st nu dg dd ld be ib ta fa re ig : Int32} {dg9 : Nat → Int64} {m9 : Nat → Int32} (hY : w[Y]? = some (oM Y th st nu dg dd ld be ib ta fa re ig)) (hN : nuC w Y dg9 m9) {a b t n k va vb : Nat} (ha : a < 5) (hb : b < 5) (ht : t < 5) (hat : a ≠ t) (hbt : b ≠ t) (hva : nuV dg9 m9 a n va) (hvb : nuV dg9 m9 b k vb) (hnk : n + k ≤ 90) : ∀ (z I : Nat) (cur : Nat → Int64), n = I + z → nuF dg9 cur t → mpO (sl dg9 a) (sl dg9 b) n k I (sl cur t) → BX12_product w0 (fun r w' => r = none ∧ ∃ dg' m', nuC w' Y dg' m' ∧ (∃ n', n' ≤ n + k ∧ nuV dg' m' t n' (va * vb)) ∧ nuF dg9 dg' t ∧ nuM m9 m' t ∧ FR (nuS Y) w w') (w.set (Y + 13) (aL 450 cur)) 54 [(6, .int (nI I)), (5, .int (nI k)), (4, .int (nI n)), (3, .int (nI (90 * t))), (2, .int (nI (90 * b))), (1, .int (nI (90 * a))), (0, .ref Y)] [] := by
  intro z
  induction z with
  | zero =>
    intro I cur hz hF h
    refine g_iload (pc := 54) 0 dX12_product_54 rfl ?_
    refine g_iload (pc := 56) 2 dX12_product_56 rfl ?_
    refine n_icmp_ge (pc := 58) 165 dX12_product_58 (by decide) (by omega) (by omega) (fun hb9 => ?_) (fun hb9 => ?_)
    · refine g_iload (pc := 165) 2 dX12_product_165 rfl ?_
      refine g_iload (pc := 167) 1 dX12_product_167 rfl ?_
      refine n_iadd (pc := 169) dX12_product_169 ?_
      refine g_istore (pc := 170) [(6, .int (nI (n + k))), (5, .int (nI k)), (4, .int (nI n)), (3, .int (nI (90 * t))), (2, .int (nI (90 * b))), (1, .int (nI (90 * a))), (0, .ref Y)] dX12_product_170 (by decide) rfl ?_
      have e9 : n = I := by omega
      subst e9
      exact GP.lsub _ (by simp) (pd_its hY hN ha hb ht hat hbt hva hvb hnk hF h.1 (by rw [h.2.2, hva.2.2.2, hvb.2.2.2]; exact (Int.natCast_mul _ _).symm) (n + k) (Nat.le_refl _) rfl)
    · exact absurd hb9 (by omega)
  | succ z ih =>
    intro I cur hz hF h
    refine g_iload (pc := 54) 0 dX12_product_54 rfl ?_
    refine g_iload (pc := 56) 2 dX12_product_56 rfl ?_
    refine n_icmp_ge (pc := 58) 165 dX12_product_58 (by decide) (by omega) (by omega) (fun hb9 => ?_) (fun hb9 => ?_)
    · exact absurd hb9 (by omega)
    · refine g_lconst (pc := 61) (v := 0) dX12_product_61 (by decide) ?_
      refine g_lstore (pc := 62) [(7, .long 0), (6, .int (nI I)), (5, .int (nI k)), (4, .int (nI n)), (3, .int (nI (90 * t))), (2, .int (nI (90 * b))), (1, .int (nI (90 * a))), (0, .ref Y)] dX12_product_62 (by decide) rfl ?_
      refine g_iconst (pc := 64) (v := nI 0) dX12_product_64 (by decide) ?_
      refine g_istore (pc := 65) [(9, .int (nI 0)), (7, .long 0), (6, .int (nI I)), (5, .int (nI k)), (4, .int (nI n)), (3, .int (nI (90 * t))), (2, .int (nI (90 * b))), (1, .int (nI (90 * a))), (0, .ref Y)] dX12_product_65 (by decide) rfl ?_
      refine GP.lsub _ (by simp) (pd_in hY hN ha hb ht hat hbt hva hvb hnk (I := I) (by omega) (fun cur hF h => ?_) k 0 cur 0 (by omega) hF (mpI_0 h))
      refine n_iinc (pc := 159) (c := 1) [(6, .int (nI (I + 1))), (5, .int (nI k)), (4, .int (nI n)), (3, .int (nI (90 * t))), (2, .int (nI (90 * b))), (1, .int (nI (90 * a))), (0, .ref Y)] 0 dX12_product_159 rfl (by decide) (by decide) rfl ?_
      refine g_goto (pc := 162) 54 dX12_product_162 (by decide) ?_
      exact GP.lsub _ (by simp) (ih (I + 1) cur (by omega) hF h)
theorem pd_zr {w0 w : Wd} {Y : Nat} {th st nu dg dd ld be ib ta fa re ig : Int32} {dg9 : Nat → Int64} {m9 : Nat → Int32} (hY : w[Y]? = some (oM Y th st nu dg dd ld be ib ta fa re ig)) (hN : nuC w Y dg9 m9) {a b t n k va vb : Nat} (ha : a < 5) (hb : b < 5) (ht : t < 5) (hat : a ≠ t) (hbt : b ≠ t) (hva : nuV dg9 m9 a n va) (hvb : nuV dg9 m9 b k vb) (hnk : n + k ≤ 90) : ∀ (z c : Nat), n + k = c + z → BX12_product w0 (fun r w' => r = none ∧ ∃ dg' m', nuC w' Y dg' m' ∧ (∃ n', n' ≤ n + k ∧ nuV dg' m' t n' (va * vb)) ∧ nuF dg9 dg' t ∧ nuM m9 m' t ∧ FR (nuS Y) w w') (w.set (Y + 13) (aL 450 (zrL dg9 (90 * t) c))) 25 [(6, .int (nI c)), (5, .int (nI k)), (4, .int (nI n)), (3, .int (nI (90 * t))), (2, .int (nI (90 * b))), (1, .int (nI (90 * a))), (0, .ref Y)] [] := by
  intro z
  induction z with
  | zero =>
    intro c hz
    refine g_iload (pc := 25) 0 dX12_product_25 rfl ?_
    refine g_iload (pc := 27) 2 dX12_product_27 rfl ?_
    refine g_iload (pc := 29) 1 dX12_product_29 rfl ?_
    refine n_iadd (pc := 31) dX12_product_31 ?_
    refine n_icmp_ge (pc := 32) 51 dX12_product_32 (by decide) (by omega) (by omega) (fun hb9 => ?_) (fun hb9 => ?_)
    · refine g_iconst (pc := 51) (v := nI 0) dX12_product_51 (by decide) ?_
      refine g_istore (pc := 52) [(6, .int (nI 0)), (5, .int (nI k)), (4, .int (nI n)), (3, .int (nI (90 * t))), (2, .int (nI (90 * b))), (1, .int (nI (90 * a))), (0, .ref Y)] dX12_product_52 (by decide) rfl ?_
      have e9 : c = n + k := by omega
      rw [e9]
      have z9 : ∀ j, j < n + k → sl (zrL dg9 (90 * t) (n + k)) t j = 0 := fun j hj => if_pos (by omega)
      refine GP.lsub _ (by simp) (pd_out hY hN ha hb ht hat hbt hva hvb hnk n 0 _ (by omega) (fun i hi => if_neg (by omega)) ⟨fun i hi => by rw [z9 i hi]; decide, fun t _ hb9 => by rw [z9 t hb9]; rfl, ?_⟩)
      have := vl_zeros (f := sl (zrL dg9 (90 * t) (n + k)) t) (n := 0) (m := n + k) (fun j _ hj => by rw [z9 j (by omega)]; rfl)
      rw [Nat.zero_add] at this
      rw [this]
      show (0 : Int) = 0 * _
      omega
    · exact absurd hb9 (by omega)
  | succ z ih =>
    intro c hz
    refine g_iload (pc := 25) 0 dX12_product_25 rfl ?_
    refine g_iload (pc := 27) 2 dX12_product_27 rfl ?_
    refine g_iload (pc := 29) 1 dX12_product_29 rfl ?_
    refine n_iadd (pc := 31) dX12_product_31 ?_
    refine n_icmp_ge (pc := 32) 51 dX12_product_32 (by decide) (by omega) (by omega) (fun hb9 => ?_) (fun hb9 => ?_)
    · exact absurd hb9 (by omega)
    · refine g_aload_n (pc := 35) 6 dX12_product_35 rfl rfl ?_
      refine g_get (pc := 36) dX12_product_36 fk_X12_48 (lk_ne (show (Y + 13) ≠ Y by omega) hY) rfl ?_
      refine g_iload_n (pc := 39) 3 dX12_product_39 rfl rfl ?_
      refine g_iload (pc := 40) 0 dX12_product_40 rfl ?_
      refine n_iadd (pc := 42) dX12_product_42 ?_
      refine g_lconst (pc := 43) (v := 0) dX12_product_43 (by decide) ?_
      refine g_last (pc := 44) ((90 * t) + c) dX12_product_44 (lk_eq hN.1) (IXn (by omega) (by omega)) ?_
      refine GP.weq (w.set (Y + 13) (aL 450 (vp_updL (zrL dg9 (90 * t) c) ((90 * t) + c) 0))) (by rw [List.set_set]) ?_
      refine n_iinc (pc := 45) (c := 1) [(6, .int (nI (c + 1))), (5, .int (nI k)), (4, .int (nI n)), (3, .int (nI (90 * t))), (2, .int (nI (90 * b))), (1, .int (nI (90 * a))), (0, .ref Y)] 0 dX12_product_45 rfl (by decide) (by decide) rfl ?_
      refine g_goto (pc := 48) 25 dX12_product_48 (by decide) ?_
      rw [zrL_s]
      exact GP.lsub _ (by simp) (ih (c + 1) (by omega))
theorem mp_product (w : Wd) {Y : Nat} {th st nu dg dd ld be ib ta fa re ig : Int32} {dg9 : Nat → Int64} {m9 : Nat → Int32} (hY : w[Y]? = some (oM Y th st nu dg dd ld be ib ta fa re ig)) (hN : nuC w Y dg9 m9) {a b t n k va vb : Nat} (ha : a < 5) (hb : b < 5) (ht : t < 5) (hat : a ≠ t) (hbt : b ≠ t) (hva : nuV dg9 m9 a n va) (hvb : nuV dg9 m9 b k vb) (hnk : n + k ≤ 90) : EX12_product [.ref Y, .int (nI (90 * a)), .int (nI (90 * b)), .int (nI (90 * t))] w (fun r w' => r = none ∧ ∃ dg' m', nuC w' Y dg' m' ∧ (∃ n', n' ≤ n + k ∧ nuV dg' m' t n' (va * vb)) ∧ nuF dg9 dg' t ∧ nuM m9 m' t ∧ FR (nuS Y) w w') := by
  refine EP.of (plainFor_of_name (by decide)) [(0, .ref Y), (1, .int (nI (90 * a))), (2, .int (nI (90 * b))), (3, .int (nI (90 * t)))] rfl (Nat.le_of_ble_eq_true rfl) (fun r wf h => by obtain ⟨rfl, -⟩ := h; trivial) ?_
  show BX12_product w _ w 0 [(0, .ref Y), (1, .int (nI (90 * a))), (2, .int (nI (90 * b))), (3, .int (nI (90 * t)))] []
  refine g_aload_n (pc := 0) 0 dX12_product_0 rfl rfl ?_
  refine g_get (pc := 1) dX12_product_1 fk_X12_51 hY rfl ?_
  refine g_iload_n (pc := 4) 1 dX12_product_4 rfl rfl ?_
  refine g_bipush (pc := 5) (v := nI 90) dX12_product_5 (by decide) ?_
  refine n_idiv (pc := 7) dX12_product_7 (by omega) (by omega) (by omega) ?_
  refine GP.ti (nI a) (by rw [show 90 * a / 90 = a by omega]) ?_
  refine g_iald (pc := 8) a dX12_product_8 hN.2 (IXn (by omega) (by omega)) ?_
  refine GP.ti (nI n) hva.1 ?_
  refine g_istore (pc := 9) [(4, .int (nI n)), (0, .ref Y), (1, .int (nI (90 * a))), (2, .int (nI (90 * b))), (3, .int (nI (90 * t)))] dX12_product_9 (by decide) rfl ?_
  refine g_aload_n (pc := 11) 1 dX12_product_11 rfl rfl ?_
  refine g_get (pc := 12) dX12_product_12 fk_X12_51 hY rfl ?_
  refine g_iload_n (pc := 15) 3 dX12_product_15 rfl rfl ?_
  refine g_bipush (pc := 16) (v := nI 90) dX12_product_16 (by decide) ?_
  refine n_idiv (pc := 18) dX12_product_18 (by omega) (by omega) (by omega) ?_
  refine GP.ti (nI b) (by rw [show 90 * b / 90 = b by omega]) ?_
  refine g_iald (pc := 19) b dX12_product_19 hN.2 (IXn (by omega) (by omega)) ?_
  refine GP.ti (nI k) hvb.1 ?_
  refine g_istore (pc := 20) [(5, .int (nI k)), (4, .int (nI n)), (0, .ref Y), (1, .int (nI (90 * a))), (2, .int (nI (90 * b))), (3, .int (nI (90 * t)))] dX12_product_20 (by decide) rfl ?_
  refine g_iconst (pc := 22) (v := nI 0) dX12_product_22 (by decide) ?_
  refine g_istore (pc := 23) [(6, .int (nI 0)), (5, .int (nI k)), (4, .int (nI n)), (0, .ref Y), (1, .int (nI (90 * a))), (2, .int (nI (90 * b))), (3, .int (nI (90 * t)))] dX12_product_23 (by decide) rfl ?_
  refine GP.weq (w.set (Y + 13) (aL 450 (zrL dg9 (90 * t) 0))) (by rw [zrL_0]; exact (set_same hN.1).symm) ?_
  exact GP.lsub _ (by simp) (pd_zr hY hN ha hb ht hat hbt hva hvb hnk (n + k) 0 (by omega))
abbrev BX12_compareNumbers (w0 : Wd) (Post : Option Value → Wd → Prop) (w : Wd) (pc : Nat) (ls : List (Nat × Value)) (st : List Value) : Prop := GP "compareNumbers" RX12 cX12_compareNumbers 6 (some .int) 0 0 none w0 Post w pc ls st
abbrev EX12_compareNumbers (As : List Value) (w : Wd) (Post : Option Value → Wd → Prop) : Prop := EP yX12_compareNumbers cX12_compareNumbers 6 (some .int) 0 As w Post
theorem cmp_loop {w0 w : Wd} {Y : Nat} {th st nu dg dd ld be ib ta fa re ig : Int32} {dg9 : Nat → Int64} {m9 : Nat → Int32} (hY : w[Y]? = some (oM Y th st nu dg dd ld be ib ta fa re ig)) (hN : nuC w Y dg9 m9) {a b n k va vb : Nat} (ha : a < 5) (hb : b < 5) (hva : nuV dg9 m9 a n va) (hvb : nuV dg9 m9 b k vb) (hk : k = n) : ∀ c : Nat, c ≤ n → (∀ j, c ≤ j → j < n → sl dg9 a j = sl dg9 b j) → BX12_compareNumbers w0 (fun r w' => (va < vb ∧ r = some (.int (-1)) ∧ w' = w) ∨ (va = vb ∧ r = some (.int (nI 0)) ∧ w' = w) ∨ (vb < va ∧ r = some (.int (nI 1)) ∧ w' = w)) w 44 [(5, .int (nI c - 1)), (4, .int (nI k)), (3, .int (nI n)), (2, .int (nI (90 * b))), (1, .int (nI (90 * a))), (0, .ref Y)] [] := by
  have hn9 := hva.2.1
  subst hk
  intro c
  induction c with
  | zero =>
    intro hc hj
    rw [nI_dec0]
    refine g_iload (pc := 44) 0 dX12_compareNumbers_44 rfl ?_
    refine g_if_lt (pc := 46) 105 dX12_compareNumbers_46 (by decide) (fun hb9 => ?_) (fun hb9 => ?_)
    · refine g_iconst (pc := 105) (v := nI 0) dX12_compareNumbers_105 (by decide) ?_
      exact g_iret (pc := 106) dX12_compareNumbers_106 (Or.inr (Or.inl ⟨by have h1 := hva.2.2.2; have h2 := hvb.2.2.2; have h3 := vl_congr (fun j hj9 => hj j (by omega) hj9); omega, rfl, rfl⟩))
    · exact absurd (by decide) hb9
  | succ c ih =>
    intro hc hj
    rw [nI_pred]
    refine g_iload (pc := 44) 0 dX12_compareNumbers_44 rfl ?_
    refine n_if_lt (pc := 46) 105 dX12_compareNumbers_46 (by decide) (by omega) ?_
    refine g_aload_n (pc := 49) 5 dX12_compareNumbers_49 rfl rfl ?_
    refine g_get (pc := 50) dX12_compareNumbers_50 fk_X12_48 hY rfl ?_
    refine g_iload_n (pc := 53) 4 dX12_compareNumbers_53 rfl rfl ?_
    refine g_iload (pc := 54) 0 dX12_compareNumbers_54 rfl ?_
    refine n_iadd (pc := 56) dX12_compareNumbers_56 ?_
    refine g_lald (pc := 57) ((90 * a) + c) dX12_compareNumbers_57 hN.1 (IXn (by omega) (by omega)) ?_
    refine g_aload_n (pc := 58) 5 dX12_compareNumbers_58 rfl rfl ?_
    refine g_get (pc := 59) dX12_compareNumbers_59 fk_X12_48 hY rfl ?_
    refine g_iload_n (pc := 62) 3 dX12_compareNumbers_62 rfl rfl ?_
    refine g_iload (pc := 63) 0 dX12_compareNumbers_63 rfl ?_
    refine n_iadd (pc := 65) dX12_compareNumbers_65 ?_
    refine g_lald (pc := 66) ((90 * b) + c) dX12_compareNumbers_66 hN.1 (IXn (by omega) (by omega)) ?_
    refine g_lcmp_eq (pc := 67) 99 dX12_compareNumbers_67 dX12_compareNumbers_68 (by decide) (fun he9 => ?_) (fun he9 => ?_)
    · have he9 : sl dg9 a c = sl dg9 b c := he9
      refine g_iinc (pc := 99) [(5, .int (nI c - 1)), (4, .int (nI k)), (3, .int (nI k)), (2, .int (nI (90 * b))), (1, .int (nI (90 * a))), (0, .ref Y)] 0 dX12_compareNumbers_99 rfl (dec1 _) (by decide) rfl ?_
      refine g_goto (pc := 102) 44 dX12_compareNumbers_102 (by decide) ?_
      refine GP.lsub _ (by simp) (ih (by omega) (fun j h1 h2 => ?_))
      by_cases e : j = c
      · rw [e]; exact he9
      · exact hj j (by omega) h2
    · refine g_aload_n (pc := 71) 5 dX12_compareNumbers_71 rfl rfl ?_
      refine g_get (pc := 72) dX12_compareNumbers_72 fk_X12_48 hY rfl ?_
      refine g_iload_n (pc := 75) 4 dX12_compareNumbers_75 rfl rfl ?_
      refine g_iload (pc := 76) 0 dX12_compareNumbers_76 rfl ?_
      refine n_iadd (pc := 78) dX12_compareNumbers_78 ?_
      refine g_lald (pc := 79) ((90 * a) + c) dX12_compareNumbers_79 hN.1 (IXn (by omega) (by omega)) ?_
      refine g_aload_n (pc := 80) 5 dX12_compareNumbers_80 rfl rfl ?_
      refine g_get (pc := 81) dX12_compareNumbers_81 fk_X12_48 hY rfl ?_
      refine g_iload_n (pc := 84) 3 dX12_compareNumbers_84 rfl rfl ?_
      refine g_iload (pc := 85) 0 dX12_compareNumbers_85 rfl ?_
      refine n_iadd (pc := 87) dX12_compareNumbers_87 ?_
      refine g_lald (pc := 88) ((90 * b) + c) dX12_compareNumbers_88 hN.1 (IXn (by omega) (by omega)) ?_
      refine g_lcmp_ge (pc := 89) 97 dX12_compareNumbers_89 dX12_compareNumbers_90 (by decide) (fun hl9 => ?_) (fun hl9 => ?_)
      · have hl9 : (sl dg9 b c).toInt ≤ (sl dg9 a c).toInt := Int64.le_iff_toInt_le.mp hl9
        have he8 : (sl dg9 a c).toInt ≠ (sl dg9 b c).toInt := fun g => he9 (Int64.toInt_inj.mp g)
        have hlt := vl_cmp (f := sl dg9 b) (g := sl dg9 a) hvb.2.2.1.1 hva.2.2.1.1 (by omega) (fun j h1 h2 => (hj j h1 h2).symm) (by omega)
        rw [hva.2.2.2, hvb.2.2.2] at hlt
        refine g_iconst (pc := 97) (v := nI 1) dX12_compareNumbers_97 (by decide) ?_
        exact g_iret (pc := 98) dX12_compareNumbers_98 (Or.inr (Or.inr ⟨by omega, rfl, rfl⟩))
      · have hl9 : (sl dg9 a c).toInt < (sl dg9 b c).toInt := Int.not_le.mp (fun g => hl9 (Int64.le_iff_toInt_le.mpr g))
        have hlt := vl_cmp (f := sl dg9 a) (g := sl dg9 b) hva.2.2.1.1 hvb.2.2.1.1 (by omega) (fun j h1 h2 => hj j h1 h2) hl9
        rw [hva.2.2.2, hvb.2.2.2] at hlt
        refine g_iconst (pc := 93) (v := -1) dX12_compareNumbers_93 (by decide) ?_
        refine g_goto (pc := 94) 98 dX12_compareNumbers_94 (by decide) ?_
        exact g_iret (pc := 98) dX12_compareNumbers_98 (Or.inl ⟨by omega, rfl, rfl⟩)
theorem mp_compareNumbers (w : Wd) {Y : Nat} {th st nu dg dd ld be ib ta fa re ig : Int32} {dg9 : Nat → Int64} {m9 : Nat → Int32} (hY : w[Y]? = some (oM Y th st nu dg dd ld be ib ta fa re ig)) (hN : nuC w Y dg9 m9) {a b n k va vb : Nat} (ha : a < 5) (hb : b < 5) (hva : nuV dg9 m9 a n va) (hvb : nuV dg9 m9 b k vb) : EX12_compareNumbers [.ref Y, .int (nI (90 * a)), .int (nI (90 * b))] w (fun r w' => (va < vb ∧ r = some (.int (-1)) ∧ w' = w) ∨ (va = vb ∧ r = some (.int (nI 0)) ∧ w' = w) ∨ (vb < va ∧ r = some (.int (nI 1)) ∧ w' = w)) := by
  refine EP.of (plainFor_of_name (by decide)) [(0, .ref Y), (1, .int (nI (90 * a))), (2, .int (nI (90 * b)))] rfl (Nat.le_of_ble_eq_true rfl) (fun r wf h => by rcases h with ⟨-, rfl, -⟩ | ⟨-, rfl, -⟩ | ⟨-, rfl, -⟩ <;> trivial) ?_
  show BX12_compareNumbers w _ w 0 [(0, .ref Y), (1, .int (nI (90 * a))), (2, .int (nI (90 * b)))] []
  have hn9 := hva.2.1
  have hk9 := hvb.2.1
  refine g_aload_n (pc := 0) 0 dX12_compareNumbers_0 rfl rfl ?_
  refine g_get (pc := 1) dX12_compareNumbers_1 fk_X12_51 hY rfl ?_
  refine g_iload_n (pc := 4) 1 dX12_compareNumbers_4 rfl rfl ?_
  refine g_bipush (pc := 5) (v := nI 90) dX12_compareNumbers_5 (by decide) ?_
  refine n_idiv (pc := 7) dX12_compareNumbers_7 (by omega) (by omega) (by omega) ?_
  refine GP.ti (nI a) (by rw [show 90 * a / 90 = a by omega]) ?_
  refine g_iald (pc := 8) a dX12_compareNumbers_8 hN.2 (IXn (by omega) (by omega)) ?_
  refine GP.ti (nI n) hva.1 ?_
  refine g_istore_n (pc := 9) [(3, .int (nI n)), (0, .ref Y), (1, .int (nI (90 * a))), (2, .int (nI (90 * b)))] dX12_compareNumbers_9 rfl (by decide) rfl ?_
  refine g_aload_n (pc := 10) 1 dX12_compareNumbers_10 rfl rfl ?_
  refine g_get (pc := 11) dX12_compareNumbers_11 fk_X12_51 hY rfl ?_
  refine g_iload_n (pc := 14) 3 dX12_compareNumbers_14 rfl rfl ?_
  refine g_bipush (pc := 15) (v := nI 90) dX12_compareNumbers_15 (by decide) ?_
  refine n_idiv (pc := 17) dX12_compareNumbers_17 (by omega) (by omega) (by omega) ?_
  refine GP.ti (nI b) (by rw [show 90 * b / 90 = b by omega]) ?_
  refine g_iald (pc := 18) b dX12_compareNumbers_18 hN.2 (IXn (by omega) (by omega)) ?_
  refine GP.ti (nI k) hvb.1 ?_
  refine g_istore (pc := 19) [(4, .int (nI k)), (3, .int (nI n)), (0, .ref Y), (1, .int (nI (90 * a))), (2, .int (nI (90 * b)))] dX12_compareNumbers_19 (by decide) rfl ?_
  refine g_iload_n (pc := 21) 1 dX12_compareNumbers_21 rfl rfl ?_
  refine g_iload (pc := 22) 0 dX12_compareNumbers_22 rfl ?_
  refine n_icmp_eq (pc := 24) 39 dX12_compareNumbers_24 (by decide) (by omega) (by omega) (fun h1 => ?_) (fun h1 => ?_)
  · refine g_iload_n (pc := 39) 1 dX12_compareNumbers_39 rfl rfl ?_
    refine g_iconst (pc := 40) (v := nI 1) dX12_compareNumbers_40 (by decide) ?_
    refine g_isub (pc := 41) dX12_compareNumbers_41 ?_
    refine g_istore (pc := 42) [(5, .int ((nI n) - (nI 1))), (4, .int (nI k)), (3, .int (nI n)), (0, .ref Y), (1, .int (nI (90 * a))), (2, .int (nI (90 * b)))] dX12_compareNumbers_42 (by decide) rfl ?_
    exact GP.lsub _ (by simp; rfl) (cmp_loop hY hN ha hb hva hvb h1.symm n (Nat.le_refl _) (fun j h1 h2 => absurd h2 (by omega)))
  · refine g_iload_n (pc := 27) 1 dX12_compareNumbers_27 rfl rfl ?_
    refine g_iload (pc := 28) 0 dX12_compareNumbers_28 rfl ?_
    refine n_icmp_ge (pc := 30) 37 dX12_compareNumbers_30 (by decide) (by omega) (by omega) (fun h2 => ?_) (fun h2 => ?_)
    · refine g_iconst (pc := 37) (v := nI 1) dX12_compareNumbers_37 (by decide) ?_
      exact g_iret (pc := 38) dX12_compareNumbers_38 (Or.inr (Or.inr ⟨by have := vl_shorter hvb.2.2.1 hva.2.2.1 (by omega); rw [hva.2.2.2, hvb.2.2.2] at this; omega, rfl, rfl⟩))
    · refine g_iconst (pc := 33) (v := -1) dX12_compareNumbers_33 (by decide) ?_
      refine g_goto (pc := 34) 38 dX12_compareNumbers_34 (by decide) ?_
      exact g_iret (pc := 38) dX12_compareNumbers_38 (Or.inl ⟨by have := vl_shorter hva.2.2.1 hvb.2.2.1 (by omega); rw [hva.2.2.2, hvb.2.2.2] at this; omega, rfl, rfl⟩)
