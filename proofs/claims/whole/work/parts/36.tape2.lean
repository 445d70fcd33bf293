/-! Tape: what is read -/
theorem bAt_toInt {f : Nat → Int32} {ln i : Nat} : (bAt f ln i).toInt = if i < ln then (ub (f i) : Int) else -1 := by
  have := ub_lt (f i)
  unfold bAt
  split
  · exact nI_toInt (by omega)
  · decide
theorem bAt_eq {f : Nat → Int32} {ln i c : Nat} (hc : c < 65536) : bAt f ln i = nI c ↔ i < ln ∧ ub (f i) = c := by
  rw [← Int32.toInt_inj, bAt_toInt, nI_toInt (by omega)]
  split <;> omega
theorem skB_y {f : Nat → Int32} {ln p : Nat} (h : p < ln ∧ ub (f p) = 32) : skB f ln p = skB f ln (p + 1) := by
  unfold skB
  rw [show ln - p = ln - (p + 1) + 1 by omega]
  show (if p < ln ∧ ub (f p) = 32 then _ else _) = _
  rw [if_pos h]
theorem skB_n {f : Nat → Int32} {ln p : Nat} (h : ¬ (p < ln ∧ ub (f p) = 32)) : skB f ln p = p := by
  unfold skB
  rcases Nat.eq_zero_or_pos (ln - p) with h0 | h0
  · rw [h0]; rfl
  · rw [show ln - p = ln - (p + 1) + 1 by omega]
    show (if p < ln ∧ ub (f p) = 32 then _ else _) = _
    rw [if_neg h]
def tkN (f : Nat → Int32) (ln p v : Nat) : Nat × Nat := tkn f ln (ln - p) p v
theorem tkN_y {f : Nat → Int32} {ln p v : Nat} (h : p < ln ∧ 48 ≤ ub (f p) ∧ ub (f p) ≤ 57) : tkN f ln p v = tkN f ln (p + 1) (min (v * 10 + ub (f p) - 48) 10000) := by
  unfold tkN
  rw [show ln - p = ln - (p + 1) + 1 by omega]
  show (if p < ln ∧ 48 ≤ ub (f p) ∧ ub (f p) ≤ 57 then _ else _) = _
  rw [if_pos h]
theorem tkN_n {f : Nat → Int32} {ln p v : Nat} (h : ¬ (p < ln ∧ 48 ≤ ub (f p) ∧ ub (f p) ≤ 57)) : tkN f ln p v = (v, p) := by
  unfold tkN
  rcases Nat.eq_zero_or_pos (ln - p) with h0 | h0
  · rw [h0]; rfl
  · rw [show ln - p = ln - (p + 1) + 1 by omega]
    show (if p < ln ∧ 48 ≤ ub (f p) ∧ ub (f p) ≤ 57 then _ else _) = _
    rw [if_neg h]
abbrev BX8_isAt (w0 : Wd) (Post : Option Value → Wd → Prop) (w : Wd) (pc : Nat) (ls : List (Nat × Value)) (st : List Value) : Prop := GP "isAt" RX8 cX8_isAt 2 (some .boolean) 1 39 none w0 Post w pc ls st
abbrev EX8_isAt (As : List Value) (w : Wd) (Post : Option Value → Wd → Prop) : Prop := EP yX8_isAt cX8_isAt 2 (some .boolean) 1 As w Post
theorem sp_isAt (w : Wd) {o b ln pl : Nat} {f : Nat → Int32} (ho : w[o]? = some (oT b ln pl)) (hb : w[b]? = some (aI 2 400 f)) (hob : o ≠ b) (hln : ln ≤ 400) {c : Nat} (hc : c < 65536) (hp : pl ≤ 400) : EX8_isAt [.ref o, .int (nI c)] w (fun r w' => (r = some (.int (nI 1)) ∧ (pl < ln ∧ ub (f pl) = c) ∧ w' = w) ∨ (r = some (.int (nI 0)) ∧ ¬ ((pl < ln ∧ ub (f pl) = c)) ∧ w' = w)) := by
  refine EP.of (plainFor_of_name (by decide)) [(0, .ref o), (1, .int (nI c))] rfl (Nat.le_of_ble_eq_true rfl) (fun r wf h => by rcases h with ⟨rfl, -⟩ | ⟨rfl, -⟩; exact Or.inr rfl; exact Or.inl rfl) ?_
  show BX8_isAt w _ w 0 [(0, .ref o), (1, .int (nI c))] []
  refine g_aload_n (pc := 0) 0 dX8_isAt_0 rfl rfl ?_
  refine g_aload_n (pc := 1) 0 dX8_isAt_1 rfl rfl ?_
  refine g_get (pc := 2) dX8_isAt_2 fk_X8_19 ho rfl ?_
  refine g_callV (pc := 5) [.int (nI pl)] dX8_isAt_5 cv_X8_26.1 cv_X8_26.2.1 cv_X8_26.2.2.1 cv_X8_26.2.2.2 ho rfl rfl (Nat.le_of_ble_eq_true rfl) (by decide) (by decide) (sp_byteAt _ (x := pl) ho hb hob hln (by omega)) ?_
  rintro _ w9 ⟨rfl, e9⟩
  refine GP.weq _ e9 ?_
  refine g_iload_n (pc := 8) 1 dX8_isAt_8 rfl rfl ?_
  refine g_icmp_ne (pc := 9) 16 dX8_isAt_9 (by decide) (fun h1 => ?_) (fun h1 => ?_)
  · refine g_iconst (pc := 16) (v := nI 0) dX8_isAt_16 (by decide) ?_
    exact g_iret (pc := 17) dX8_isAt_17 (Or.inr ⟨rfl, fun g => h1 ((bAt_eq hc).mpr g), rfl⟩)
  · refine g_iconst (pc := 12) (v := nI 1) dX8_isAt_12 (by decide) ?_
    refine g_goto (pc := 13) 17 dX8_isAt_13 (by decide) ?_
    exact g_iret (pc := 17) dX8_isAt_17 (Or.inl ⟨rfl, (bAt_eq hc).mp (Classical.not_not.mp h1), rfl⟩)
abbrev BX8_isAtDigit (w0 : Wd) (Post : Option Value → Wd → Prop) (w : Wd) (pc : Nat) (ls : List (Nat × Value)) (st : List Value) : Prop := GP "isAtDigit" RX8 cX8_isAtDigit 1 (some .boolean) 1 39 none w0 Post w pc ls st
abbrev EX8_isAtDigit (As : List Value) (w : Wd) (Post : Option Value → Wd → Prop) : Prop := EP yX8_isAtDigit cX8_isAtDigit 1 (some .boolean) 1 As w Post
theorem sp_isAtDigit (w : Wd) {o b ln pl : Nat} {f : Nat → Int32} (ho : w[o]? = some (oT b ln pl)) (hb : w[b]? = some (aI 2 400 f)) (hob : o ≠ b) (hln : ln ≤ 400) (hp : pl ≤ 400) : EX8_isAtDigit [.ref o] w (fun r w' => (r = some (.int (nI 1)) ∧ (pl < ln ∧ 48 ≤ ub (f pl) ∧ ub (f pl) ≤ 57) ∧ w' = w) ∨ (r = some (.int (nI 0)) ∧ ¬ ((pl < ln ∧ 48 ≤ ub (f pl) ∧ ub (f pl) ≤ 57)) ∧ w' = w)) := by
  refine EP.of (plainFor_of_name (by decide)) [(0, .ref o)] rfl (Nat.le_of_ble_eq_true rfl) (fun r wf h => by rcases h with ⟨rfl, -⟩ | ⟨rfl, -⟩; exact Or.inr rfl; exact Or.inl rfl) ?_
  show BX8_isAtDigit w _ w 0 [(0, .ref o)] []
  have e1 := bAt_toInt (f := f) (ln := ln) (i := pl)
  have k1 : (nI 48).toInt = 48 := by decide
  have k2 : (nI 57).toInt = 57 := by decide
  refine g_aload_n (pc := 0) 0 dX8_isAtDigit_0 rfl rfl ?_
  refine g_aload_n (pc := 1) 0 dX8_isAtDigit_1 rfl rfl ?_
  refine g_get (pc := 2) dX8_isAtDigit_2 fk_X8_19 ho rfl ?_
  refine g_callV (pc := 5) [.int (nI pl)] dX8_isAtDigit_5 cv_X8_26.1 cv_X8_26.2.1 cv_X8_26.2.2.1 cv_X8_26.2.2.2 ho rfl rfl (Nat.le_of_ble_eq_true rfl) (by decide) (by decide) (sp_byteAt _ (x := pl) ho hb hob hln (by omega)) ?_
  rintro _ w9 ⟨rfl, e9⟩
  refine GP.weq _ e9 ?_
  refine g_bipush (pc := 8) (v := nI 48) dX8_isAtDigit_8 (by decide) ?_
  refine g_icmp_lt (pc := 10) 30 dX8_isAtDigit_10 (by decide) (fun h1 => ?_) (fun h1 => ?_)
  · rw [Int32.lt_iff_toInt_lt, e1, k1] at h1
    refine g_iconst (pc := 30) (v := nI 0) dX8_isAtDigit_30 (by decide) ?_
    exact g_iret (pc := 31) dX8_isAtDigit_31 (Or.inr ⟨rfl, fun g => by rw [if_pos g.1] at h1; omega, rfl⟩)
  · rw [Int32.lt_iff_toInt_lt, e1, k1] at h1
    refine g_aload_n (pc := 13) 0 dX8_isAtDigit_13 rfl rfl ?_
    refine g_aload_n (pc := 14) 0 dX8_isAtDigit_14 rfl rfl ?_
    refine g_get (pc := 15) dX8_isAtDigit_15 fk_X8_19 ho rfl ?_
    refine g_callV (pc := 18) [.int (nI pl)] dX8_isAtDigit_18 cv_X8_26.1 cv_X8_26.2.1 cv_X8_26.2.2.1 cv_X8_26.2.2.2 ho rfl rfl (Nat.le_of_ble_eq_true rfl) (by decide) (by decide) (sp_byteAt _ (x := pl) ho hb hob hln (by omega)) ?_
    rintro _ w9 ⟨rfl, e9⟩
    refine GP.weq _ e9 ?_
    refine g_bipush (pc := 21) (v := nI 57) dX8_isAtDigit_21 (by decide) ?_
    refine g_icmp_gt (pc := 23) 30 dX8_isAtDigit_23 (by decide) (fun h2 => ?_) (fun h2 => ?_)
    · rw [Int32.lt_iff_toInt_lt, e1, k2] at h2
      refine g_iconst (pc := 30) (v := nI 0) dX8_isAtDigit_30 (by decide) ?_
      exact g_iret (pc := 31) dX8_isAtDigit_31 (Or.inr ⟨rfl, fun g => by rw [if_pos g.1] at h2; omega, rfl⟩)
    · rw [Int32.lt_iff_toInt_lt, e1, k2] at h2
      refine g_iconst (pc := 26) (v := nI 1) dX8_isAtDigit_26 (by decide) ?_
      refine g_goto (pc := 27) 31 dX8_isAtDigit_27 (by decide) ?_
      exact g_iret (pc := 31) dX8_isAtDigit_31 (Or.inl ⟨rfl, by split at h1 <;> omega, rfl⟩)
abbrev BX8_skipBlanks (w0 : Wd) (Post : Option Value → Wd → Prop) (w : Wd) (pc : Nat) (ls : List (Nat × Value)) (st : List Value) : Prop := GP "skipBlanks" RX8 cX8_skipBlanks 1 none 2 78 none w0 Post w pc ls st
abbrev EX8_skipBlanks (As : List Value) (w : Wd) (Post : Option Value → Wd → Prop) : Prop := EP yX8_skipBlanks cX8_skipBlanks 1 none 2 As w Post
theorem sk_loop {w0 w : Wd} {o b ln pl : Nat} {f : Nat → Int32} (ho : w[o]? = some (oT b ln pl)) (hb : w[b]? = some (aI 2 400 f)) (hob : o ≠ b) (hln : ln ≤ 400) : ∀ (k p : Nat), ln = p + k → skB f ln p = skB f ln pl → BX8_skipBlanks w0 (fun r w' => r = none ∧ w' = w.set o (oT b ln (skB f ln pl))) (w.set o (.inr (8, [.ref b, .int (nI ln), .int (nI p)]))) 0 [(0, .ref o)] [] := by
  intro k
  induction k with
  | zero =>
    intro p hp h
    refine g_aload_n (pc := 0) 0 dX8_skipBlanks_0 rfl rfl ?_
    refine g_get (pc := 1) dX8_skipBlanks_1 fk_X8_19 (lk_eq ho) rfl ?_
    refine g_aload_n (pc := 4) 0 dX8_skipBlanks_4 rfl rfl ?_
    refine g_get (pc := 5) dX8_skipBlanks_5 fk_X8_15 (lk_eq ho) rfl ?_
    refine n_icmp_ge (pc := 8) 33 dX8_skipBlanks_8 (by decide) (by omega) (by omega) (fun h1 => ?_) (fun h1 => ?_)
    · exact g_vret (pc := 33) dX8_skipBlanks_33 ⟨rfl, by rw [← h, skB_n (by omega)]⟩
    · exact absurd h1 (by omega)
  | succ k ih =>
    intro p hp h
    refine g_aload_n (pc := 0) 0 dX8_skipBlanks_0 rfl rfl ?_
    refine g_get (pc := 1) dX8_skipBlanks_1 fk_X8_19 (lk_eq ho) rfl ?_
    refine g_aload_n (pc := 4) 0 dX8_skipBlanks_4 rfl rfl ?_
    refine g_get (pc := 5) dX8_skipBlanks_5 fk_X8_15 (lk_eq ho) rfl ?_
    refine n_icmp_ge (pc := 8) 33 dX8_skipBlanks_8 (by decide) (by omega) (by omega) (fun h1 => ?_) (fun h1 => ?_)
    · exact absurd h1 (by omega)
    · refine g_aload_n (pc := 11) 0 dX8_skipBlanks_11 rfl rfl ?_
      refine g_bipush (pc := 12) (v := nI 32) dX8_skipBlanks_12 (by decide) ?_
      refine g_callV (pc := 14) [.int (nI 32)] dX8_skipBlanks_14 cv_X8_30.1 cv_X8_30.2.1 cv_X8_30.2.2.1 cv_X8_30.2.2.2 (lk_eq ho) rfl rfl (Nat.le_of_ble_eq_true rfl) (by decide) (by decide) (sp_isAt _ (lk_eq ho) (lk_ne hob hb) hob hln (c := 32) (by decide) (by omega)) ?_
      rintro _ w9 (⟨rfl, hc, e9⟩ | ⟨rfl, hc, e9⟩)
      · refine GP.weq _ e9 ?_
        refine n_if_eq (pc := 17) 33 dX8_skipBlanks_17 (by decide) (by omega) (fun h2 => ?_) (fun h2 => ?_)
        · exact absurd h2 (by decide)
        · refine g_aload_n (pc := 20) 0 dX8_skipBlanks_20 rfl rfl ?_
          refine g_dup (pc := 21) dX8_skipBlanks_21 rfl ?_
          refine g_get (pc := 22) dX8_skipBlanks_22 fk_X8_19 (lk_eq ho) rfl ?_
          refine g_iconst (pc := 25) (v := nI 1) dX8_skipBlanks_25 (by decide) ?_
          refine n_iadd (pc := 26) dX8_skipBlanks_26 ?_
          refine g_put (pc := 27) [.ref b, .int (nI ln), .int (nI (p + 1))] dX8_skipBlanks_27 fk_X8_19 (lk_eq ho) (Nat.le_of_ble_eq_true rfl) rfl rfl ?_
          refine GP.weq (w.set o (.inr (8, [.ref b, .int (nI ln), .int (nI (p + 1))]))) (by rw [List.set_set]) ?_
          refine g_goto (pc := 30) 0 dX8_skipBlanks_30 (by decide) ?_
          exact ih (p + 1) (by omega) (by rw [← skB_y hc, h])
      · refine GP.weq _ e9 ?_
        refine n_if_eq (pc := 17) 33 dX8_skipBlanks_17 (by decide) (by omega) (fun h2 => ?_) (fun h2 => ?_)
        · exact g_vret (pc := 33) dX8_skipBlanks_33 ⟨rfl, by rw [← h, skB_n hc]⟩
        · exact absurd rfl h2
theorem sp_skipBlanks (w : Wd) {o b ln pl : Nat} {f : Nat → Int32} (ho : w[o]? = some (oT b ln pl)) (hb : w[b]? = some (aI 2 400 f)) (hob : o ≠ b) (hln : ln ≤ 400) (hp : pl ≤ ln) : EX8_skipBlanks [.ref o] w (fun r w' => r = none ∧ w' = w.set o (oT b ln (skB f ln pl))) := by
  refine EP.of (plainFor_of_name (by decide)) [(0, .ref o)] rfl (Nat.le_of_ble_eq_true rfl) (fun r wf h => by obtain ⟨rfl, -⟩ := h; trivial) ?_
  show BX8_skipBlanks w _ w 0 [(0, .ref o)] []
  refine GP.weq _ (set_same ho).symm ?_
  exact sk_loop ho hb hob hln (ln - pl) pl (by omega) rfl
abbrev BX8_skips (w0 : Wd) (Post : Option Value → Wd → Prop) (w : Wd) (pc : Nat) (ls : List (Nat × Value)) (st : List Value) : Prop := GP "skips" RX8 cX8_skips 3 (some .boolean) 2 78 none w0 Post w pc ls st
abbrev EX8_skips (As : List Value) (w : Wd) (Post : Option Value → Wd → Prop) : Prop := EP yX8_skips cX8_skips 3 (some .boolean) 2 As w Post
theorem sp_skips (w : Wd) {o b ln pl : Nat} {f : Nat → Int32} (ho : w[o]? = some (oT b ln pl)) (hb : w[b]? = some (aI 2 400 f)) (hob : o ≠ b) (hln : ln ≤ 400) {c : Nat} (hc : c < 65536) (hp : pl ≤ 400) : EX8_skips [.ref o, .int (nI c)] w (fun r w' => (r = some (.int (nI 1)) ∧ (pl < ln ∧ ub (f pl) = c) ∧ w' = w.set o (oT b ln (pl + 1))) ∨ (r = some (.int (nI 0)) ∧ ¬ ((pl < ln ∧ ub (f pl) = c)) ∧ w' = w)) := by
  refine EP.of (plainFor_of_name (by decide)) [(0, .ref o), (1, .int (nI c))] rfl (Nat.le_of_ble_eq_true rfl) (fun r wf h => by rcases h with ⟨rfl, -⟩ | ⟨rfl, -⟩; exact Or.inr rfl; exact Or.inl rfl) ?_
  show BX8_skips w _ w 0 [(0, .ref o), (1, .int (nI c))] []
  refine g_aload_n (pc := 0) 0 dX8_skips_0 rfl rfl ?_
  refine g_iload_n (pc := 1) 1 dX8_skips_1 rfl rfl ?_
  refine g_callV (pc := 2) [.int (nI c)] dX8_skips_2 cv_X8_30.1 cv_X8_30.2.1 cv_X8_30.2.2.1 cv_X8_30.2.2.2 ho rfl rfl (Nat.le_of_ble_eq_true rfl) (by decide) (by decide) (sp_isAt _ ho hb hob hln hc (by omega)) ?_
  rintro _ w9 (⟨rfl, hC, e9⟩ | ⟨rfl, hC, e9⟩)
  · refine GP.weq _ e9 ?_
    refine g_istore_n (pc := 5) [(2, .int (nI 1)), (0, .ref o), (1, .int (nI c))] dX8_skips_5 rfl (by decide) rfl ?_
    refine g_aload_n (pc := 6) 1 dX8_skips_6 rfl rfl ?_
    refine g_dup (pc := 7) dX8_skips_7 rfl ?_
    refine g_get (pc := 8) dX8_skips_8 fk_X8_19 ho rfl ?_
    refine g_iload_n (pc := 11) 0 dX8_skips_11 rfl rfl ?_
    refine n_if_eq (pc := 12) 19 dX8_skips_12 (by decide) (by omega) (fun h2 => ?_) (fun h2 => ?_)
    · exact absurd h2 (by decide)
    · refine g_iconst (pc := 15) (v := nI 1) dX8_skips_15 (by decide) ?_
      refine g_goto (pc := 16) 20 dX8_skips_16 (by decide) ?_
      refine n_iadd (pc := 20) dX8_skips_20 ?_
      refine g_put (pc := 21) [.ref b, .int (nI ln), .int (nI (pl + 1))] dX8_skips_21 fk_X8_19 ho (Nat.le_of_ble_eq_true rfl) rfl rfl ?_
      refine g_iload_n (pc := 24) 0 dX8_skips_24 rfl rfl ?_
      exact g_iret (pc := 25) dX8_skips_25 (Or.inl ⟨rfl, hC, rfl⟩)
  · refine GP.weq _ e9 ?_
    refine g_istore_n (pc := 5) [(2, .int (nI 0)), (0, .ref o), (1, .int (nI c))] dX8_skips_5 rfl (by decide) rfl ?_
    refine g_aload_n (pc := 6) 1 dX8_skips_6 rfl rfl ?_
    refine g_dup (pc := 7) dX8_skips_7 rfl ?_
    refine g_get (pc := 8) dX8_skips_8 fk_X8_19 ho rfl ?_
    refine g_iload_n (pc := 11) 0 dX8_skips_11 rfl rfl ?_
    refine n_if_eq (pc := 12) 19 dX8_skips_12 (by decide) (by omega) (fun h2 => ?_) (fun h2 => ?_)
    · refine g_iconst (pc := 19) (v := nI 0) dX8_skips_19 (by decide) ?_
      refine n_iadd (pc := 20) dX8_skips_20 ?_
      refine g_put (pc := 21) [.ref b, .int (nI ln), .int (nI (pl + 0))] dX8_skips_21 fk_X8_19 ho (Nat.le_of_ble_eq_true rfl) rfl rfl ?_
      refine g_iload_n (pc := 24) 0 dX8_skips_24 rfl rfl ?_
      exact g_iret (pc := 25) dX8_skips_25 (Or.inr ⟨rfl, hC, by rw [Nat.add_zero, set_same ho]⟩)
    · exact absurd rfl h2
abbrev BX8_takeNumber (w0 : Wd) (Post : Option Value → Wd → Prop) (w : Wd) (pc : Nat) (ls : List (Nat × Value)) (st : List Value) : Prop := GP "takeNumber" RX8 cX8_takeNumber 2 (some .int) 2 78 none w0 Post w pc ls st
abbrev EX8_takeNumber (As : List Value) (w : Wd) (Post : Option Value → Wd → Prop) : Prop := EP yX8_takeNumber cX8_takeNumber 2 (some .int) 2 As w Post
theorem tk_loop {w0 w : Wd} {o b ln pl : Nat} {f : Nat → Int32} (ho : w[o]? = some (oT b ln pl)) (hb : w[b]? = some (aI 2 400 f)) (hob : o ≠ b) (hln : ln ≤ 400) : ∀ (k p v : Nat), ln = p + k → v ≤ 10000 → tkN f ln p v = tkN f ln pl 0 → BX8_takeNumber w0 (fun r w' => r = some (.int (nI (tkN f ln pl 0).1)) ∧ w' = w.set o (oT b ln (tkN f ln pl 0).2)) (w.set o (.inr (8, [.ref b, .int (nI ln), .int (nI p)]))) 2 [(1, .int (nI v)), (0, .ref o)] [] := by
  intro k
  induction k with
  | zero =>
    intro p v hp hv h
    refine g_aload_n (pc := 2) 1 dX8_takeNumber_2 rfl rfl ?_
    refine g_get (pc := 3) dX8_takeNumber_3 fk_X8_19 (lk_eq ho) rfl ?_
    refine g_aload_n (pc := 6) 1 dX8_takeNumber_6 rfl rfl ?_
    refine g_get (pc := 7) dX8_takeNumber_7 fk_X8_15 (lk_eq ho) rfl ?_
    refine n_icmp_ge (pc := 10) 56 dX8_takeNumber_10 (by decide) (by omega) (by omega) (fun h1 => ?_) (fun h1 => ?_)
    · rw [tkN_n (by omega)] at h
      refine g_iload_n (pc := 56) 0 dX8_takeNumber_56 rfl rfl ?_
      exact g_iret (pc := 57) dX8_takeNumber_57 ⟨by rw [← h], by rw [← h]⟩
    · exact absurd h1 (by omega)
  | succ k ih =>
    intro p v hp hv h
    refine g_aload_n (pc := 2) 1 dX8_takeNumber_2 rfl rfl ?_
    refine g_get (pc := 3) dX8_takeNumber_3 fk_X8_19 (lk_eq ho) rfl ?_
    refine g_aload_n (pc := 6) 1 dX8_takeNumber_6 rfl rfl ?_
    refine g_get (pc := 7) dX8_takeNumber_7 fk_X8_15 (lk_eq ho) rfl ?_
    refine n_icmp_ge (pc := 10) 56 dX8_takeNumber_10 (by decide) (by omega) (by omega) (fun h1 => ?_) (fun h1 => ?_)
    · exact absurd h1 (by omega)
    · refine g_aload_n (pc := 13) 1 dX8_takeNumber_13 rfl rfl ?_
      refine g_callV (pc := 14) [] dX8_takeNumber_14 cv_X8_34.1 cv_X8_34.2.1 cv_X8_34.2.2.1 cv_X8_34.2.2.2 (lk_eq ho) rfl rfl (Nat.le_of_ble_eq_true rfl) (by decide) (by decide) (sp_isAtDigit _ (lk_eq ho) (lk_ne hob hb) hob hln (by omega)) ?_
      rintro _ w9 (⟨rfl, hc, e9⟩ | ⟨rfl, hc, e9⟩)
      · refine GP.weq _ e9 ?_
        refine n_if_eq (pc := 17) 56 dX8_takeNumber_17 (by decide) (by omega) (fun h2 => ?_) (fun h2 => ?_)
        · exact absurd h2 (by decide)
        · refine g_iload_n (pc := 20) 0 dX8_takeNumber_20 rfl rfl ?_
          refine g_bipush (pc := 21) (v := nI 10) dX8_takeNumber_21 (by decide) ?_
          refine n_imul (pc := 23) dX8_takeNumber_23 ?_
          refine g_aload_n (pc := 24) 1 dX8_takeNumber_24 rfl rfl ?_
          refine g_aload_n (pc := 25) 1 dX8_takeNumber_25 rfl rfl ?_
          refine g_get (pc := 26) dX8_takeNumber_26 fk_X8_19 (lk_eq ho) rfl ?_
          refine g_callV (pc := 29) [.int (nI p)] dX8_takeNumber_29 cv_X8_26.1 cv_X8_26.2.1 cv_X8_26.2.2.1 cv_X8_26.2.2.2 (lk_eq ho) rfl rfl (Nat.le_of_ble_eq_true rfl) (by decide) (by decide) (sp_byteAt _ (x := p) (lk_eq ho) (lk_ne hob hb) hob hln (by omega)) ?_
          rintro _ w9 ⟨rfl, e9⟩
          refine GP.weq _ e9 ?_
          refine GP.ti (nI (ub (f p))) (by rw [bAt, if_pos hc.1]) ?_
          refine n_iadd (pc := 32) dX8_takeNumber_32 ?_
          refine g_bipush (pc := 33) (v := nI 48) dX8_takeNumber_33 (by decide) ?_
          refine n_isub (pc := 35) dX8_takeNumber_35 (by omega) ?_
          refine g_sipush (pc := 36) (v := nI 10000) dX8_takeNumber_36 (by decide) ?_
          refine g_callS (pc := 39) [.int (nI (((v * 10) + (ub (f p))) - 48)), .int (nI 10000)] dX8_takeNumber_39 cs_X8_38.1 cs_X8_38.2 rfl rfl (Nat.le_of_ble_eq_true rfl) (by decide) (by decide) (sp_minI _ (nI (v * 10 + ub (f p) - 48)) (nI 10000)) ?_
          rintro _ w9 ⟨rfl, e9⟩
          refine GP.weq _ e9 ?_
          refine GP.ti (nI (min (v * 10 + ub (f p) - 48) 10000)) (minN (by omega) (by omega)) ?_
          refine g_istore_n (pc := 42) [(1, .int (nI (min (v * 10 + ub (f p) - 48) 10000))), (0, .ref o)] dX8_takeNumber_42 rfl (by decide) rfl ?_
          refine g_aload_n (pc := 43) 1 dX8_takeNumber_43 rfl rfl ?_
          refine g_dup (pc := 44) dX8_takeNumber_44 rfl ?_
          refine g_get (pc := 45) dX8_takeNumber_45 fk_X8_19 (lk_eq ho) rfl ?_
          refine g_iconst (pc := 48) (v := nI 1) dX8_takeNumber_48 (by decide) ?_
          refine n_iadd (pc := 49) dX8_takeNumber_49 ?_
          refine g_put (pc := 50) [.ref b, .int (nI ln), .int (nI (p + 1))] dX8_takeNumber_50 fk_X8_19 (lk_eq ho) (Nat.le_of_ble_eq_true rfl) rfl rfl ?_
          refine GP.weq (w.set o (.inr (8, [.ref b, .int (nI ln), .int (nI (p + 1))]))) (by rw [List.set_set]) ?_
          refine g_goto (pc := 53) 2 dX8_takeNumber_53 (by decide) ?_
          exact GP.lsub _ (by simp) (ih (p + 1) (min (v * 10 + ub (f p) - 48) 10000) (by omega) (by omega) (by rw [← tkN_y hc, h]))
      · refine GP.weq _ e9 ?_
        rw [tkN_n hc] at h
        refine n_if_eq (pc := 17) 56 dX8_takeNumber_17 (by decide) (by omega) (fun h2 => ?_) (fun h2 => ?_)
        · refine g_iload_n (pc := 56) 0 dX8_takeNumber_56 rfl rfl ?_
          exact g_iret (pc := 57) dX8_takeNumber_57 ⟨by rw [← h], by rw [← h]⟩
        · exact absurd rfl h2
theorem sp_takeNumber (w : Wd) {o b ln pl : Nat} {f : Nat → Int32} (ho : w[o]? = some (oT b ln pl)) (hb : w[b]? = some (aI 2 400 f)) (hob : o ≠ b) (hln : ln ≤ 400) (hp : pl ≤ ln) : EX8_takeNumber [.ref o] w (fun r w' => r = some (.int (nI (tkN f ln pl 0).1)) ∧ w' = w.set o (oT b ln (tkN f ln pl 0).2)) := by
  refine EP.of (plainFor_of_name (by decide)) [(0, .ref o)] rfl (Nat.le_of_ble_eq_true rfl) (fun r wf h => by obtain ⟨rfl, -⟩ := h; trivial) ?_
  show BX8_takeNumber w _ w 0 [(0, .ref o)] []
  refine GP.weq _ (set_same ho).symm ?_
  refine g_iconst (pc := 0) (v := nI 0) dX8_takeNumber_0 (by decide) ?_
  refine g_istore_n (pc := 1) [(1, .int (nI 0)), (0, .ref o)] dX8_takeNumber_1 rfl (by decide) rfl ?_
  exact GP.lsub _ (by simp) (tk_loop ho hb hob hln (ln - pl) pl 0 (by omega) (by omega) rfl)
abbrev BX8_init (w0 : Wd) (Post : Option Value → Wd → Prop) (w : Wd) (pc : Nat) (ls : List (Nat × Value)) (st : List Value) : Prop := GP "<init>" RX8 cX8_init 1 none 1 39 none w0 Post w pc ls st
abbrev EX8_init (As : List Value) (w : Wd) (Post : Option Value → Wd → Prop) : Prop := EP yX8_init cX8_init 1 none 1 As w Post
theorem sp_newTape (w : Wd) {o : Nat} (ho : w[o]? = some (.inr (8, [.null, .int 0, .int 0]))) : EX8_init [.ref o] w (fun r w' => r = none ∧ w' = w.set o (oT w.length 0 0) ++ [aI 2 400 (fun _ => 0)]) := by
  refine EP.of (plainFor_of_name (by decide)) [(0, .ref o)] rfl (Nat.le_of_ble_eq_true rfl) (fun r wf h => by obtain ⟨rfl, -⟩ := h; trivial) ?_
  show BX8_init w _ w 0 [(0, .ref o)] []
  refine g_aload_n (pc := 0) 0 dX8_init_0 rfl rfl ?_
  refine g_oinit (pc := 1) dX8_init_1 ol_X8_3 oi_in oi_co (by decide) (Nat.le_of_ble_eq_true rfl) (by decide) ?_
  refine g_aload_n (pc := 4) 0 dX8_init_4 rfl rfl ?_
  refine g_sipush (pc := 5) (v := nI 400) dX8_init_5 (by decide) ?_
  refine g_newaB (pc := 8) 400 dX8_init_8 acB (by decide) (by decide) ?_
  have ho2 : (w ++ [aI 2 400 (fun _ => 0)])[o]? = some (.inr (8, [.null, .int 0, .int 0])) := lk_app ho
  refine g_putF (pc := 10) [.ref w.length, .int 0, .int 0] dX8_init_10 fk_X8_11 (fun _ _ _ h => by cases h; rfl) rfl ho2 (Nat.le_of_ble_eq_true rfl) rfl rfl ?_
  refine g_aload_n (pc := 13) 0 dX8_init_13 rfl rfl ?_
  refine g_iconst (pc := 14) (v := nI 0) dX8_init_14 (by decide) ?_
  refine g_put (pc := 15) [.ref w.length, .int (nI 0), .int 0] dX8_init_15 fk_X8_15 (lk_eq ho2) (Nat.le_of_ble_eq_true rfl) rfl rfl ?_
  refine GP.weq ((w ++ [aI 2 400 (fun _ => 0)]).set o (.inr (8, [.ref w.length, .int (nI 0), .int 0]))) (by rw [List.set_set]) ?_
  refine g_aload_n (pc := 18) 0 dX8_init_18 rfl rfl ?_
  refine g_iconst (pc := 19) (v := nI 0) dX8_init_19 (by decide) ?_
  refine g_put (pc := 20) [.ref w.length, .int (nI 0), .int (nI 0)] dX8_init_20 fk_X8_19 (lk_eq ho2) (Nat.le_of_ble_eq_true rfl) rfl rfl ?_
  refine GP.weq ((w ++ [aI 2 400 (fun _ => 0)]).set o (.inr (8, [.ref w.length, .int (nI 0), .int (nI 0)]))) (by rw [List.set_set]) ?_
  exact g_vret (pc := 23) dX8_init_23 ⟨rfl, by rw [set_app ho]⟩
