/-! Text: one term -/
def atC (f : Nat → Int32) (ln p c : Nat) : Prop := p < ln ∧ ub (f p) = c
/-- behind x and blanks -/
def pTx (f : Nat → Int32) (ln sz p : Nat) : Nat ⊕ (Nat × Nat × Nat) :=
  if p < ln ∧ ub (f p) = 94 then
    (if skB f ln (p + 1) < ln ∧ 48 ≤ ub (f (skB f ln (p + 1))) ∧ ub (f (skB f ln (p + 1))) ≤ 57 then
      (if (tkN f ln (skB f ln (p + 1)) 0).1 ≤ 12 then .inr ((tkN f ln (skB f ln (p + 1)) 0).1, sz, skB f ln (tkN f ln (skB f ln (p + 1)) 0).2) else .inl (skB f ln (p + 1)))
    else .inl (skB f ln (p + 1)))
  else .inr (1, sz, p)
/-- behind the number, if there is one -/
def pTn (f : Nat → Int32) (ln num st sz p : Nat) : Nat ⊕ (Nat × Nat × Nat) :=
  if 9999 < sz then .inl st
  else if skB f ln p < ln ∧ ub (f (skB f ln p)) = 120 then pTx f ln sz (skB f ln (skB f ln p + 1))
  else if num = 0 then .inl (skB f ln p) else .inr (0, sz, skB f ln p)
def pTerm (f : Nat → Int32) (ln p : Nat) : Nat ⊕ (Nat × Nat × Nat) :=
  if skB f ln p < ln ∧ 48 ≤ ub (f (skB f ln p)) ∧ ub (f (skB f ln p)) ≤ 57 then pTn f ln 1 (skB f ln p) (tkN f ln (skB f ln p) 0).1 (tkN f ln (skB f ln p) 0).2
  else pTn f ln 0 (skB f ln p) 1 (skB f ln p)
theorem tkN_le {f : Nat → Int32} {ln p : Nat} (h : p ≤ ln) : p ≤ (tkN f ln p 0).2 ∧ (tkN f ln p 0).2 ≤ ln ∧ (tkN f ln p 0).1 ≤ 10000 := tkn_le _ _ _ h (by omega)
/-- what a term's reading may come to -/
def pOk (ln p : Nat) : Nat ⊕ (Nat × Nat × Nat) → Prop
  | .inl e => e ≤ ln
  | .inr (pw, sz, q) => p ≤ q ∧ q ≤ ln ∧ pw ≤ 12 ∧ sz ≤ 9999
theorem pOk_mono {ln p q : Nat} (h : q ≤ p) : ∀ x, pOk ln p x → pOk ln q x
  | .inl _, g => g
  | .inr (_, _, _), g => ⟨Nat.le_trans h g.1, g.2⟩
theorem pTx_ok {f : Nat → Int32} {ln sz p : Nat} (hp : p ≤ ln) (hs : sz ≤ 9999) : pOk ln p (pTx f ln sz p) := by
  unfold pTx
  by_cases h1 : p < ln ∧ ub (f p) = 94
  · rw [if_pos h1]
    have h2 := skB_le (f := f) (ln := ln) (p := p + 1) (by omega)
    generalize skB f ln (p + 1) = q at h2 ⊢
    have h3 := tkN_le (f := f) (ln := ln) (p := q) h2.2
    have h4 := skB_le (f := f) (ln := ln) (p := (tkN f ln q 0).2) h3.2.1
    split
    · split
      · rename_i h5; exact ⟨by omega, h4.2, h5, hs⟩
      · exact h2.2
    · exact h2.2
  · rw [if_neg h1]
    exact ⟨Nat.le_refl _, hp, by omega, hs⟩
theorem pTn_ok {f : Nat → Int32} {ln num st sz p : Nat} (hp : p ≤ ln) (hst : st ≤ ln) : pOk ln p (pTn f ln num st sz p) := by
  have h2 := skB_le (f := f) (ln := ln) (p := p) hp
  unfold pTn
  by_cases h1 : 9999 < sz
  · rw [if_pos h1]; exact hst
  · rw [if_neg h1]
    generalize skB f ln p = q at h2 ⊢
    by_cases h3 : q < ln ∧ ub (f q) = 120
    · rw [if_pos h3]
      have h4 := skB_le (f := f) (ln := ln) (p := q + 1) (by omega)
      exact pOk_mono (by omega) _ (pTx_ok h4.2 (by omega))
    · rw [if_neg h3]
      split
      · exact h2.2
      · exact ⟨h2.1, h2.2, by omega, by omega⟩
theorem pTerm_ok {f : Nat → Int32} {ln p : Nat} (hp : p ≤ ln) : pOk ln p (pTerm f ln p) := by
  have h2 := skB_le (f := f) (ln := ln) (p := p) hp
  unfold pTerm
  generalize skB f ln p = q at h2 ⊢
  have h3 := tkN_le (f := f) (ln := ln) (p := q) h2.2
  split
  · exact pOk_mono (by omega) _ (pTn_ok h3.2.1 h2.2)
  · exact pOk_mono h2.1 _ (pTn_ok h2.2 h2.2)
abbrev BX9_parseTerm (w0 : Wd) (Post : Option Value → Wd → Prop) (w : Wd) (pc : Nat) (ls : List (Nat × Value)) (st : List Value) : Prop := GP "parseTerm" RX9 cX9_parseTerm 7 (some .int) 3 117 none w0 Post w pc ls st
abbrev EX9_parseTerm (As : List Value) (w : Wd) (Post : Option Value → Wd → Prop) : Prop := EP yX9_parseTerm cX9_parseTerm 7 (some .int) 3 As w Post
theorem pt_end {w0 w : Wd} {o b q ln pl mi : Nat} {f : Nat → Int32} {g : Nat → Int64} (ho : w[o]? = some (oT b ln pl)) (hb : w[b]? = some (aI 2 400 f)) (hq : w[q]? = some (aL 25 g)) (hob : o ≠ b) (hoq : o ≠ q) (hln : ln ≤ 400) (hmi : mi ≤ 1) (hg : ∀ j, j < 25 → -1000000000 ≤ (g j).toInt ∧ (g j).toInt ≤ 1000000000) {pw sz st p : Nat} {res : Nat ⊕ (Nat × Nat × Nat)} (hpw : pw ≤ 12) (hsz : sz ≤ 9999) (hres : res = .inr (pw, sz, p)) : BX9_parseTerm w0 (fun r w' => (∃ e, res = .inl e ∧ r = some (.int (nI e)) ∧ ∃ pl', w' = w.set o (oT b ln pl')) ∨ (∃ (pW sZ p' : Nat) (g' : Nat → Int64), res = .inr (pW, sZ, p') ∧ r = some (.int (-1)) ∧ (∀ j, j < 25 → (g' j : Int64).toInt = (g j).toInt + if j = pW then (if mi = 0 then (sZ : Int) else -sZ) else 0) ∧ w' = (w.set o (oT b ln p')).set q (aL 25 g'))) (w.set o (.inr (8, [.ref b, .int (nI ln), .int (nI p)]))) 136 [(6, .int (nI pw)), (5, .int (nI sz)), (3, .int (nI st)), (0, .ref o), (1, .int (nI mi)), (2, .ref q)] [] := by
  have hgp := hg pw (by omega)
  have e1 : (nI sz).toInt = (sz : Int) := nI_toInt (by omega)
  refine g_aload_n (pc := 136) 5 dX9_parseTerm_136 rfl rfl ?_
  refine g_iload (pc := 137) 0 dX9_parseTerm_137 rfl ?_
  refine g_dup2 (pc := 139) dX9_parseTerm_139 rfl rfl ?_
  refine g_lald (pc := 140) pw dX9_parseTerm_140 (lk_ne hoq hq) (IXn (by omega) (by omega)) ?_
  refine g_iload_n (pc := 141) 4 dX9_parseTerm_141 rfl rfl ?_
  refine n_if_eq (pc := 142) 152 dX9_parseTerm_142 (by decide) (by omega) (fun h1 => ?_) (fun h1 => ?_)
  · refine g_iload (pc := 152) 1 dX9_parseTerm_152 rfl ?_
    refine g_i2l (pc := 154) dX9_parseTerm_154 ?_
    refine g_ladd (pc := 155) dX9_parseTerm_155 ?_
    refine g_last (pc := 156) pw dX9_parseTerm_156 (lk_ne hoq hq) (IXn (by omega) (by omega)) ?_
    refine g_iconst (pc := 157) (v := -1) dX9_parseTerm_157 (by decide) ?_
    have e3 : (nI sz).toInt64.toInt = (sz : Int) := by rw [IL, e1]
    have e4 : (g pw + (nI sz).toInt64).toInt = (g pw).toInt + (sz : Int) := by rw [L_add (by rw [e3]; omega) (by rw [e3]; omega), e3]
    exact g_iret (pc := 158) dX9_parseTerm_158 (Or.inr ⟨pw, sz, p, _, hres, rfl, fun j hj => by by_cases hjp : j = pw; · { subst hjp; rw [upL_s, if_pos rfl, if_pos h1, e4] }; · { rw [upL_n hjp, if_neg hjp]; omega }, rfl⟩)
  · refine g_iload (pc := 145) 1 dX9_parseTerm_145 rfl ?_
    refine g_ineg (pc := 147) dX9_parseTerm_147 ?_
    refine g_i2l (pc := 148) dX9_parseTerm_148 ?_
    refine g_goto (pc := 149) 155 dX9_parseTerm_149 (by decide) ?_
    refine g_ladd (pc := 155) dX9_parseTerm_155 ?_
    refine g_last (pc := 156) pw dX9_parseTerm_156 (lk_ne hoq hq) (IXn (by omega) (by omega)) ?_
    refine g_iconst (pc := 157) (v := -1) dX9_parseTerm_157 (by decide) ?_
    have e3 : (-(nI sz)).toInt64.toInt = (-sz : Int) := by rw [IL, I_neg (by rw [e1]; omega), e1]
    have e4 : (g pw + (-(nI sz)).toInt64).toInt = (g pw).toInt + (-sz : Int) := by rw [L_add (by rw [e3]; omega) (by rw [e3]; omega), e3]
    exact g_iret (pc := 158) dX9_parseTerm_158 (Or.inr ⟨pw, sz, p, _, hres, rfl, fun j hj => by by_cases hjp : j = pw; · { subst hjp; rw [upL_s, if_pos rfl, if_neg h1, e4] }; · { rw [upL_n hjp, if_neg hjp]; omega }, rfl⟩)
theorem pt_115 {w0 w : Wd} {o b q ln pl mi : Nat} {f : Nat → Int32} {g : Nat → Int64} (ho : w[o]? = some (oT b ln pl)) (hb : w[b]? = some (aI 2 400 f)) (hq : w[q]? = some (aL 25 g)) (hob : o ≠ b) (hoq : o ≠ q) (hln : ln ≤ 400) (hmi : mi ≤ 1) (hg : ∀ j, j < 25 → -1000000000 ≤ (g j).toInt ∧ (g j).toInt ≤ 1000000000) {pw sz st p : Nat} {res : Nat ⊕ (Nat × Nat × Nat)} (hpw : pw ≤ 10000) (hsz : sz ≤ 9999) (hres : res = if pw ≤ 12 then .inr (pw, sz, p) else .inl st) : BX9_parseTerm w0 (fun r w' => (∃ e, res = .inl e ∧ r = some (.int (nI e)) ∧ ∃ pl', w' = w.set o (oT b ln pl')) ∨ (∃ (pW sZ p' : Nat) (g' : Nat → Int64), res = .inr (pW, sZ, p') ∧ r = some (.int (-1)) ∧ (∀ j, j < 25 → (g' j : Int64).toInt = (g j).toInt + if j = pW then (if mi = 0 then (sZ : Int) else -sZ) else 0) ∧ w' = (w.set o (oT b ln p')).set q (aL 25 g'))) (w.set o (.inr (8, [.ref b, .int (nI ln), .int (nI p)]))) 115 [(6, .int (nI pw)), (5, .int (nI sz)), (3, .int (nI st)), (0, .ref o), (1, .int (nI mi)), (2, .ref q)] [] := by
  refine g_iload (pc := 115) 0 dX9_parseTerm_115 rfl ?_
  refine n_if_lt (pc := 117) 134 dX9_parseTerm_117 (by decide) (by omega) ?_
  refine g_iload (pc := 120) 0 dX9_parseTerm_120 rfl ?_
  refine g_bipush (pc := 122) (v := nI 12) dX9_parseTerm_122 (by decide) ?_
  refine n_icmp_gt (pc := 124) 134 dX9_parseTerm_124 (by decide) (by omega) (by omega) (fun h1 => ?_) (fun h1 => ?_)
  · refine g_iload_n (pc := 134) 2 dX9_parseTerm_134 rfl rfl ?_
    exact g_iret (pc := 135) dX9_parseTerm_135 (Or.inl ⟨st, by rw [hres, if_neg (by omega)], rfl, p, rfl⟩)
  · refine g_iload (pc := 127) 0 dX9_parseTerm_127 rfl ?_
    refine g_aload_n (pc := 129) 5 dX9_parseTerm_129 rfl rfl ?_
    refine g_alen (pc := 130) dX9_parseTerm_130 (lk_ne hoq hq) (by decide) ?_
    refine n_icmp_lt (pc := 131) 136 dX9_parseTerm_131 (by decide) (by omega) (by omega) (fun h2 => ?_) (fun h2 => ?_)
    · exact GP.lsub _ (by intro y hy; exact hy) (pt_end ho hb hq hob hoq hln hmi hg (by omega) hsz (by rw [hres, if_pos (by omega)]))
    · exact absurd (by omega) h2
theorem pt_40 {w0 w : Wd} {o b q ln pl mi : Nat} {f : Nat → Int32} {g : Nat → Int64} (ho : w[o]? = some (oT b ln pl)) (hb : w[b]? = some (aI 2 400 f)) (hq : w[q]? = some (aL 25 g)) (hob : o ≠ b) (hoq : o ≠ q) (hln : ln ≤ 400) (hmi : mi ≤ 1) (hg : ∀ j, j < 25 → -1000000000 ≤ (g j).toInt ∧ (g j).toInt ≤ 1000000000) {sz nu st p : Nat} (hp : p ≤ ln) (hsz : sz ≤ 9999) (hnu : nu ≤ 1) : BX9_parseTerm w0 (fun r w' => (∃ e, pTn f ln nu st sz p = .inl e ∧ r = some (.int (nI e)) ∧ ∃ pl', w' = w.set o (oT b ln pl')) ∨ (∃ (pW sZ p' : Nat) (g' : Nat → Int64), pTn f ln nu st sz p = .inr (pW, sZ, p') ∧ r = some (.int (-1)) ∧ (∀ j, j < 25 → (g' j : Int64).toInt = (g j).toInt + if j = pW then (if mi = 0 then (sZ : Int) else -sZ) else 0) ∧ w' = (w.set o (oT b ln p')).set q (aL 25 g'))) (w.set o (.inr (8, [.ref b, .int (nI ln), .int (nI p)]))) 40 [(5, .int (nI sz)), (4, .int (nI nu)), (3, .int (nI st)), (0, .ref o), (1, .int (nI mi)), (2, .ref q)] [] := by
  unfold pTn
  rw [if_neg (by omega)]
  refine g_aload_n (pc := 40) 3 dX9_parseTerm_40 rfl rfl ?_
  obtain ⟨p3, h3⟩ : ∃ z, skB f ln p = z := ⟨_, rfl⟩
  have h3b := skB_le (f := f) (ln := ln) (p := p) hp
  rw [h3] at h3b
  refine g_callV (pc := 41) [] dX9_parseTerm_41 cv_X9_21.1 cv_X9_21.2.1 cv_X9_21.2.2.1 cv_X9_21.2.2.2 (lk_eq ho) rfl rfl (Nat.le_of_ble_eq_true rfl) (by decide) (by decide) (sp_skipBlanks _ (lk_eq ho) (lk_ne hob hb) hob hln hp) ?_
  rintro _ w9 ⟨rfl, e9⟩
  rw [h3] at e9
  refine GP.weq _ e9 ?_
  refine GP.weq (w.set o (.inr (8, [.ref b, .int (nI ln), .int (nI p3)]))) (by rw [List.set_set]) ?_
  rw [h3]
  refine g_iconst (pc := 44) (v := nI 0) dX9_parseTerm_44 (by decide) ?_
  refine g_istore (pc := 45) [(6, .int (nI 0)), (5, .int (nI sz)), (4, .int (nI nu)), (3, .int (nI st)), (0, .ref o), (1, .int (nI mi)), (2, .ref q)] dX9_parseTerm_45 (by decide) rfl ?_
  refine g_aload_n (pc := 47) 4 dX9_parseTerm_47 rfl rfl ?_
  refine g_bipush (pc := 48) (v := nI 120) dX9_parseTerm_48 (by decide) ?_
  refine g_callV (pc := 50) [.int (nI 120)] dX9_parseTerm_50 cv_X9_24.1 cv_X9_24.2.1 cv_X9_24.2.2.1 cv_X9_24.2.2.2 (lk_eq ho) rfl rfl (Nat.le_of_ble_eq_true rfl) (by decide) (by decide) (sp_skips _ (lk_eq ho) (lk_ne hob hb) hob hln (c := 120) (by decide) (by omega)) ?_
  rintro _ w9 (⟨rfl, hx, e9⟩ | ⟨rfl, hx, e9⟩)
  · refine GP.weq _ e9 ?_
    refine GP.weq (w.set o (.inr (8, [.ref b, .int (nI ln), .int (nI (p3 + 1))]))) (by rw [List.set_set]) ?_
    rw [if_pos hx]
    refine n_if_eq (pc := 53) 105 dX9_parseTerm_53 (by decide) (by omega) (fun h4 => ?_) (fun h4 => ?_)
    · exact absurd h4 (by decide)
    · refine g_aload_n (pc := 56) 4 dX9_parseTerm_56 rfl rfl ?_
      obtain ⟨p4, h5⟩ : ∃ z, skB f ln (p3 + 1) = z := ⟨_, rfl⟩
      have h5b := skB_le (f := f) (ln := ln) (p := p3 + 1) (by omega)
      rw [h5] at h5b
      refine g_callV (pc := 57) [] dX9_parseTerm_57 cv_X9_21.1 cv_X9_21.2.1 cv_X9_21.2.2.1 cv_X9_21.2.2.2 (lk_eq ho) rfl rfl (Nat.le_of_ble_eq_true rfl) (by decide) (by decide) (sp_skipBlanks _ (lk_eq ho) (lk_ne hob hb) hob hln (by omega)) ?_
      rintro _ w9 ⟨rfl, e9⟩
      rw [h5] at e9
      refine GP.weq _ e9 ?_
      refine GP.weq (w.set o (.inr (8, [.ref b, .int (nI ln), .int (nI p4)]))) (by rw [List.set_set]) ?_
      rw [h5]
      unfold pTx
      refine g_iconst (pc := 60) (v := nI 1) dX9_parseTerm_60 (by decide) ?_
      refine g_istore (pc := 61) [(6, .int (nI 1)), (5, .int (nI sz)), (4, .int (nI nu)), (3, .int (nI st)), (0, .ref o), (1, .int (nI mi)), (2, .ref q)] dX9_parseTerm_61 (by decide) rfl ?_
      refine g_aload_n (pc := 63) 4 dX9_parseTerm_63 rfl rfl ?_
      refine g_bipush (pc := 64) (v := nI 94) dX9_parseTerm_64 (by decide) ?_
      refine g_callV (pc := 66) [.int (nI 94)] dX9_parseTerm_66 cv_X9_24.1 cv_X9_24.2.1 cv_X9_24.2.2.1 cv_X9_24.2.2.2 (lk_eq ho) rfl rfl (Nat.le_of_ble_eq_true rfl) (by decide) (by decide) (sp_skips _ (lk_eq ho) (lk_ne hob hb) hob hln (c := 94) (by decide) (by omega)) ?_
      rintro _ w9 (⟨rfl, hy, e9⟩ | ⟨rfl, hy, e9⟩)
      · refine GP.weq _ e9 ?_
        refine GP.weq (w.set o (.inr (8, [.ref b, .int (nI ln), .int (nI (p4 + 1))]))) (by rw [List.set_set]) ?_
        rw [if_pos hy]
        refine n_if_eq (pc := 69) 115 dX9_parseTerm_69 (by decide) (by omega) (fun h6 => ?_) (fun h6 => ?_)
        · exact absurd h6 (by decide)
        · refine g_aload_n (pc := 72) 4 dX9_parseTerm_72 rfl rfl ?_
          obtain ⟨p5, h7⟩ : ∃ z, skB f ln (p4 + 1) = z := ⟨_, rfl⟩
          have h7b := skB_le (f := f) (ln := ln) (p := p4 + 1) (by omega)
          rw [h7] at h7b
          refine g_callV (pc := 73) [] dX9_parseTerm_73 cv_X9_21.1 cv_X9_21.2.1 cv_X9_21.2.2.1 cv_X9_21.2.2.2 (lk_eq ho) rfl rfl (Nat.le_of_ble_eq_true rfl) (by decide) (by decide) (sp_skipBlanks _ (lk_eq ho) (lk_ne hob hb) hob hln (by omega)) ?_
          rintro _ w9 ⟨rfl, e9⟩
          rw [h7] at e9
          refine GP.weq _ e9 ?_
          refine GP.weq (w.set o (.inr (8, [.ref b, .int (nI ln), .int (nI p5)]))) (by rw [List.set_set]) ?_
          rw [h7]
          refine g_aload_n (pc := 76) 4 dX9_parseTerm_76 rfl rfl ?_
          refine g_get (pc := 77) dX9_parseTerm_77 fk_X9_15 (lk_eq ho) rfl ?_
          refine g_istore_n (pc := 80) [(3, .int (nI p5)), (6, .int (nI 1)), (5, .int (nI sz)), (4, .int (nI nu)), (0, .ref o), (1, .int (nI mi)), (2, .ref q)] dX9_parseTerm_80 rfl (by decide) rfl ?_
          refine g_aload_n (pc := 81) 4 dX9_parseTerm_81 rfl rfl ?_
          refine g_callV (pc := 82) [] dX9_parseTerm_82 cv_X9_47.1 cv_X9_47.2.1 cv_X9_47.2.2.1 cv_X9_47.2.2.2 (lk_eq ho) rfl rfl (Nat.le_of_ble_eq_true rfl) (by decide) (by decide) (sp_isAtDigit _ (lk_eq ho) (lk_ne hob hb) hob hln (by omega)) ?_
          rintro _ w9 (⟨rfl, hd, e9⟩ | ⟨rfl, hd, e9⟩)
          · refine GP.weq _ e9 ?_
            rw [if_pos hd]
            refine n_if_eq (pc := 85) 95 dX9_parseTerm_85 (by decide) (by omega) (fun h8 => ?_) (fun h8 => ?_)
            · exact absurd h8 (by decide)
            · refine g_aload_n (pc := 88) 4 dX9_parseTerm_88 rfl rfl ?_
              have h9 := tkN_le (f := f) (ln := ln) (p := p5) (by omega)
              obtain ⟨⟨pw, p6⟩, h10⟩ : ∃ z, tkN f ln p5 0 = z := ⟨_, rfl⟩
              rw [h10] at h9 ⊢
              simp only at h9
              refine g_callV (pc := 89) [] dX9_parseTerm_89 cv_X9_51.1 cv_X9_51.2.1 cv_X9_51.2.2.1 cv_X9_51.2.2.2 (lk_eq ho) rfl rfl (Nat.le_of_ble_eq_true rfl) (by decide) (by decide) (sp_takeNumber _ (lk_eq ho) (lk_ne hob hb) hob hln (by omega)) ?_
              rintro _ w9 ⟨rfl, e9⟩
              rw [h10] at e9 ⊢
              refine GP.weq _ e9 ?_
              refine GP.weq (w.set o (.inr (8, [.ref b, .int (nI ln), .int (nI p6)]))) (by rw [List.set_set]) ?_
              refine g_goto (pc := 92) 96 dX9_parseTerm_92 (by decide) ?_
              refine g_istore (pc := 96) [(6, .int (nI pw)), (3, .int (nI p5)), (5, .int (nI sz)), (4, .int (nI nu)), (0, .ref o), (1, .int (nI mi)), (2, .ref q)] dX9_parseTerm_96 (by decide) rfl ?_
              refine g_aload_n (pc := 98) 4 dX9_parseTerm_98 rfl rfl ?_
              obtain ⟨p7, h11⟩ : ∃ z, skB f ln p6 = z := ⟨_, rfl⟩
              have h11b := skB_le (f := f) (ln := ln) (p := p6) h9.2.1
              rw [h11] at h11b
              refine g_callV (pc := 99) [] dX9_parseTerm_99 cv_X9_21.1 cv_X9_21.2.1 cv_X9_21.2.2.1 cv_X9_21.2.2.2 (lk_eq ho) rfl rfl (Nat.le_of_ble_eq_true rfl) (by decide) (by decide) (sp_skipBlanks _ (lk_eq ho) (lk_ne hob hb) hob hln h9.2.1) ?_
              rintro _ w9 ⟨rfl, e9⟩
              rw [h11] at e9
              refine GP.weq _ e9 ?_
              refine GP.weq (w.set o (.inr (8, [.ref b, .int (nI ln), .int (nI p7)]))) (by rw [List.set_set]) ?_
              refine g_goto (pc := 102) 115 dX9_parseTerm_102 (by decide) ?_
              refine GP.lsub [(6, .int (nI pw)), (5, .int (nI sz)), (3, .int (nI p5)), (0, .ref o), (1, .int (nI mi)), (2, .ref q)] (by simp) (pt_115 ho hb hq hob hoq hln hmi hg h9.2.2 hsz ?_)
              rw [h11]
          · refine GP.weq _ e9 ?_
            rw [if_neg hd]
            refine n_if_eq (pc := 85) 95 dX9_parseTerm_85 (by decide) (by omega) (fun h8 => ?_) (fun h8 => ?_)
            · refine g_iconst (pc := 95) (v := -1) dX9_parseTerm_95 (by decide) ?_
              refine g_istore (pc := 96) [(6, .int (-1)), (3, .int (nI p5)), (5, .int (nI sz)), (4, .int (nI nu)), (0, .ref o), (1, .int (nI mi)), (2, .ref q)] dX9_parseTerm_96 (by decide) rfl ?_
              refine g_aload_n (pc := 98) 4 dX9_parseTerm_98 rfl rfl ?_
              obtain ⟨p7, h11⟩ : ∃ z, skB f ln p5 = z := ⟨_, rfl⟩
              have h11b := skB_le (f := f) (ln := ln) (p := p5) (by omega)
              rw [h11] at h11b
              refine g_callV (pc := 99) [] dX9_parseTerm_99 cv_X9_21.1 cv_X9_21.2.1 cv_X9_21.2.2.1 cv_X9_21.2.2.2 (lk_eq ho) rfl rfl (Nat.le_of_ble_eq_true rfl) (by decide) (by decide) (sp_skipBlanks _ (lk_eq ho) (lk_ne hob hb) hob hln (by omega)) ?_
              rintro _ w9 ⟨rfl, e9⟩
              rw [h11] at e9
              refine GP.weq _ e9 ?_
              refine GP.weq (w.set o (.inr (8, [.ref b, .int (nI ln), .int (nI p7)]))) (by rw [List.set_set]) ?_
              refine g_goto (pc := 102) 115 dX9_parseTerm_102 (by decide) ?_
              refine g_iload (pc := 115) 0 dX9_parseTerm_115 rfl ?_
              refine g_if_lt (pc := 117) 134 dX9_parseTerm_117 (by decide) (fun h12 => ?_) (fun h12 => ?_)
              · refine g_iload_n (pc := 134) 1 dX9_parseTerm_134 rfl rfl ?_
                exact g_iret (pc := 135) dX9_parseTerm_135 (Or.inl ⟨p5, rfl, rfl, p7, rfl⟩)
              · exact absurd (by decide) h12
            · exact absurd rfl h8
      · refine GP.weq _ e9 ?_
        rw [if_neg hy]
        refine n_if_eq (pc := 69) 115 dX9_parseTerm_69 (by decide) (by omega) (fun h6 => ?_) (fun h6 => ?_)
        · refine GP.lsub [(6, .int (nI 1)), (5, .int (nI sz)), (3, .int (nI st)), (0, .ref o), (1, .int (nI mi)), (2, .ref q)] (by simp) (pt_115 ho hb hq hob hoq hln hmi hg (pw := 1) (by omega) hsz ?_)
          rw [if_pos (by omega)]
        · exact absurd rfl h6
  · refine GP.weq _ e9 ?_
    rw [if_neg hx]
    refine n_if_eq (pc := 53) 105 dX9_parseTerm_53 (by decide) (by omega) (fun h4 => ?_) (fun h4 => ?_)
    · refine g_iload (pc := 105) 2 dX9_parseTerm_105 rfl ?_
      refine n_if_ne (pc := 107) 115 dX9_parseTerm_107 (by decide) (by omega) (fun h13 => ?_) (fun h13 => ?_)
      · refine GP.lsub [(6, .int (nI 0)), (5, .int (nI sz)), (3, .int (nI st)), (0, .ref o), (1, .int (nI mi)), (2, .ref q)] (by simp) (pt_115 ho hb hq hob hoq hln hmi hg (pw := 0) (by omega) hsz ?_)
        rw [if_neg h13, if_pos (by omega)]
      · refine g_aload_n (pc := 110) 4 dX9_parseTerm_110 rfl rfl ?_
        refine g_get (pc := 111) dX9_parseTerm_111 fk_X9_15 (lk_eq ho) rfl ?_
        exact g_iret (pc := 114) dX9_parseTerm_114 (Or.inl ⟨p3, by rw [if_pos (by omega)], rfl, p3, rfl⟩)
    · exact absurd rfl h4
theorem sp_parseTerm (w : Wd) {o b q ln pl mi : Nat} {f : Nat → Int32} {g : Nat → Int64} (ho : w[o]? = some (oT b ln pl)) (hb : w[b]? = some (aI 2 400 f)) (hq : w[q]? = some (aL 25 g)) (hob : o ≠ b) (hoq : o ≠ q) (hln : ln ≤ 400) (hmi : mi ≤ 1) (hg : ∀ j, j < 25 → -1000000000 ≤ (g j).toInt ∧ (g j).toInt ≤ 1000000000) (hp : pl ≤ ln) : EX9_parseTerm [.ref o, .int (nI mi), .ref q] w (fun r w' => (∃ e, pTerm f ln pl = .inl e ∧ r = some (.int (nI e)) ∧ ∃ pl', w' = w.set o (oT b ln pl')) ∨ (∃ (pW sZ p' : Nat) (g' : Nat → Int64), pTerm f ln pl = .inr (pW, sZ, p') ∧ r = some (.int (-1)) ∧ (∀ j, j < 25 → (g' j : Int64).toInt = (g j).toInt + if j = pW then (if mi = 0 then (sZ : Int) else -sZ) else 0) ∧ w' = (w.set o (oT b ln p')).set q (aL 25 g'))) := by
  refine EP.of (plainFor_of_name (by decide)) [(0, .ref o), (1, .int (nI mi)), (2, .ref q)] rfl (Nat.le_of_ble_eq_true rfl) (fun r wf h => by rcases h with ⟨e, -, rfl, -⟩ | ⟨pw, sz, p', g', -, rfl, -⟩ <;> trivial) ?_
  show BX9_parseTerm w _ w 0 [(0, .ref o), (1, .int (nI mi)), (2, .ref q)] []
  refine GP.weq _ (set_same ho).symm ?_
  unfold pTerm
  refine g_aload_n (pc := 0) 0 dX9_parseTerm_0 rfl rfl ?_
  obtain ⟨p1, h1⟩ : ∃ z, skB f ln pl = z := ⟨_, rfl⟩
  have h1b := skB_le (f := f) (ln := ln) (p := pl) hp
  rw [h1] at h1b
  refine g_callV (pc := 1) [] dX9_parseTerm_1 cv_X9_21.1 cv_X9_21.2.1 cv_X9_21.2.2.1 cv_X9_21.2.2.2 (lk_eq ho) rfl rfl (Nat.le_of_ble_eq_true rfl) (by decide) (by decide) (sp_skipBlanks _ (lk_eq ho) (lk_ne hob hb) hob hln hp) ?_
  rintro _ w9 ⟨rfl, e9⟩
  rw [h1] at e9
  refine GP.weq _ e9 ?_
  refine GP.weq (w.set o (.inr (8, [.ref b, .int (nI ln), .int (nI p1)]))) (by rw [List.set_set]) ?_
  rw [h1]
  refine g_aload_n (pc := 4) 0 dX9_parseTerm_4 rfl rfl ?_
  refine g_get (pc := 5) dX9_parseTerm_5 fk_X9_15 (lk_eq ho) rfl ?_
  refine g_istore_n (pc := 8) [(3, .int (nI p1)), (0, .ref o), (1, .int (nI mi)), (2, .ref q)] dX9_parseTerm_8 rfl (by decide) rfl ?_
  refine g_aload_n (pc := 9) 1 dX9_parseTerm_9 rfl rfl ?_
  refine g_callV (pc := 10) [] dX9_parseTerm_10 cv_X9_47.1 cv_X9_47.2.1 cv_X9_47.2.2.1 cv_X9_47.2.2.2 (lk_eq ho) rfl rfl (Nat.le_of_ble_eq_true rfl) (by decide) (by decide) (sp_isAtDigit _ (lk_eq ho) (lk_ne hob hb) hob hln (by omega)) ?_
  rintro _ w9 (⟨rfl, hd, e9⟩ | ⟨rfl, hd, e9⟩)
  · refine GP.weq _ e9 ?_
    rw [if_pos hd]
    refine g_istore (pc := 13) [(4, .int (nI 1)), (3, .int (nI p1)), (0, .ref o), (1, .int (nI mi)), (2, .ref q)] dX9_parseTerm_13 (by decide) rfl ?_
    refine g_iload (pc := 15) 0 dX9_parseTerm_15 rfl ?_
    refine n_if_eq (pc := 17) 27 dX9_parseTerm_17 (by decide) (by omega) (fun h2 => ?_) (fun h2 => ?_)
    · exact absurd h2 (by decide)
    · refine g_aload_n (pc := 20) 2 dX9_parseTerm_20 rfl rfl ?_
      have h9 := tkN_le (f := f) (ln := ln) (p := p1) (by omega)
      obtain ⟨⟨sz, p2⟩, h10⟩ : ∃ z, tkN f ln p1 0 = z := ⟨_, rfl⟩
      rw [h10] at h9 ⊢
      simp only at h9 ⊢
      refine g_callV (pc := 21) [] dX9_parseTerm_21 cv_X9_51.1 cv_X9_51.2.1 cv_X9_51.2.2.1 cv_X9_51.2.2.2 (lk_eq ho) rfl rfl (Nat.le_of_ble_eq_true rfl) (by decide) (by decide) (sp_takeNumber _ (lk_eq ho) (lk_ne hob hb) hob hln (by omega)) ?_
      rintro _ w9 ⟨rfl, e9⟩
      rw [h10] at e9 ⊢
      refine GP.weq _ e9 ?_
      refine GP.weq (w.set o (.inr (8, [.ref b, .int (nI ln), .int (nI p2)]))) (by rw [List.set_set]) ?_
      refine g_goto (pc := 24) 28 dX9_parseTerm_24 (by decide) ?_
      refine g_istore (pc := 28) [(5, .int (nI sz)), (4, .int (nI 1)), (3, .int (nI p1)), (0, .ref o), (1, .int (nI mi)), (2, .ref q)] dX9_parseTerm_28 (by decide) rfl ?_
      refine g_iload (pc := 30) 0 dX9_parseTerm_30 rfl ?_
      refine g_sipush (pc := 32) (v := nI 9999) dX9_parseTerm_32 (by decide) ?_
      refine n_icmp_le (pc := 35) 40 dX9_parseTerm_35 (by decide) (by omega) (by omega) (fun h3 => ?_) (fun h3 => ?_)
      · exact GP.lsub [(5, .int (nI sz)), (4, .int (nI 1)), (3, .int (nI p1)), (0, .ref o), (1, .int (nI mi)), (2, .ref q)] (by simp) (pt_40 ho hb hq hob hoq hln hmi hg (nu := 1) h9.2.1 h3 (by omega))
      · refine g_iload_n (pc := 38) 2 dX9_parseTerm_38 rfl rfl ?_
        exact g_iret (pc := 39) dX9_parseTerm_39 (Or.inl ⟨p1, by unfold pTn; rw [if_pos (by omega)], rfl, p2, rfl⟩)
  · refine GP.weq _ e9 ?_
    rw [if_neg hd]
    refine g_istore (pc := 13) [(4, .int (nI 0)), (3, .int (nI p1)), (0, .ref o), (1, .int (nI mi)), (2, .ref q)] dX9_parseTerm_13 (by decide) rfl ?_
    refine g_iload (pc := 15) 0 dX9_parseTerm_15 rfl ?_
    refine n_if_eq (pc := 17) 27 dX9_parseTerm_17 (by decide) (by omega) (fun h2 => ?_) (fun h2 => ?_)
    · refine g_iconst (pc := 27) (v := nI 1) dX9_parseTerm_27 (by decide) ?_
      refine g_istore (pc := 28) [(5, .int (nI 1)), (4, .int (nI 0)), (3, .int (nI p1)), (0, .ref o), (1, .int (nI mi)), (2, .ref q)] dX9_parseTerm_28 (by decide) rfl ?_
      refine g_iload (pc := 30) 0 dX9_parseTerm_30 rfl ?_
      refine g_sipush (pc := 32) (v := nI 9999) dX9_parseTerm_32 (by decide) ?_
      refine n_icmp_le (pc := 35) 40 dX9_parseTerm_35 (by decide) (by omega) (by omega) (fun h3 => ?_) (fun h3 => ?_)
      · exact GP.lsub [(5, .int (nI 1)), (4, .int (nI 0)), (3, .int (nI p1)), (0, .ref o), (1, .int (nI mi)), (2, .ref q)] (by simp) (pt_40 ho hb hq hob hoq hln hmi hg (sz := 1) (nu := 0) h1b.2 (by omega) (by omega))
      · exact absurd (by decide) h3
    · exact absurd rfl h2
