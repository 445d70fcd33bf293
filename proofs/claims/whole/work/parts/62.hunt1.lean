/-! Hunt: the box, its numbers as digits; putBoth, boxSize, begin, goOn -/
abbrev oH (H n h lv ia lk on : Nat) : Ce := .inr (3, [.ref (H + 1), .ref (H + 2), .ref (H + 4), .ref (H + 5), .int (nI n), .int (nI h), .int (nI lv), .int (nI ia), .int (nI lk), .int (nI on)])
def dgt (B k i : Nat) : Nat := i / B ^ k % B
/-- number i of the box of degree d and height h, at power p -/
def bxc (d h i p : Nat) : Int := if d < p then 0 else if p = 0 ∨ p = d then 1 else (dgt (2 * h + 1) (d / 2 - min p (d - p)) i : Int) - h
theorem dgt_lt {B k i : Nat} (hB : 0 < B) : dgt B k i < B := Nat.mod_lt _ hB
theorem dgt_0 {B k i : Nat} (hB : 0 < B) (h : ∃ q, i = q * B ^ k) {j : Nat} (hj : j < k) : dgt B j i = 0 := by
  obtain ⟨q, rfl⟩ := h
  unfold dgt
  obtain ⟨z, rfl⟩ : ∃ z, k = j + (z + 1) := ⟨k - j - 1, by omega⟩
  have e : q * B ^ (j + (z + 1)) = (q * B ^ z * B) * B ^ j := by
    rw [Nat.pow_add, Nat.pow_succ, Nat.mul_comm (B ^ j), ← Nat.mul_assoc, ← Nat.mul_assoc]
  rw [e, Nat.mul_div_cancel _ (Nat.pow_pos hB), Nat.mul_mod_left]
theorem div_low {a b q r : Nat} (hb : 0 < b) (hr : r < b) (h : a = q * b + r) : a / b = q := by
  rw [h, Nat.mul_comm, Nat.mul_add_div hb, Nat.div_eq_of_lt hr, Nat.add_zero]
/-- the next number: where nothing is carried -/
theorem dgt_next {B k i : Nat} (hB : 1 < B) (h : ∃ q, i + 1 = q * B ^ k) (hd : dgt B k i < B - 1) : dgt B k (i + 1) = dgt B k i + 1 ∧ ∀ j, k < j → dgt B j (i + 1) = dgt B j i := by
  obtain ⟨q, hq⟩ := h
  have hp : 0 < B ^ k := Nat.pow_pos (by omega)
  have hq0 : 0 < q := by
    rcases Nat.eq_zero_or_pos q with e | e
    · rw [e, Nat.zero_mul] at hq; omega
    · exact e
  obtain ⟨c, rfl⟩ : ∃ c, q = c + 1 := ⟨q - 1, by omega⟩
  have hi : i = c * B ^ k + (B ^ k - 1) := by rw [Nat.add_mul, Nat.one_mul] at hq; omega
  have e1 : i / B ^ k = c := div_low hp (by omega) hi
  have e2 : (i + 1) / B ^ k = c + 1 := by rw [hq, Nat.mul_div_cancel _ hp]
  unfold dgt at hd ⊢
  rw [e1] at hd
  have hdm := Nat.div_add_mod c B
  generalize c % B = r at *
  generalize c / B = s at *
  have e3 : c / B = s := div_low (by omega) (show r < B by omega) (by rw [Nat.mul_comm]; exact hdm.symm)
  have e4 : (c + 1) / B = s := div_low (by omega) (show r + 1 < B by omega) (by rw [Nat.mul_comm, ← hdm]; omega)
  have e5 : (c + 1) % B = r + 1 := by
    rw [← hdm, Nat.add_assoc, Nat.mul_add_mod, Nat.mod_eq_of_lt (by omega)]
  have e6 : c % B = r := by
    rw [← hdm, Nat.mul_add_mod, Nat.mod_eq_of_lt (by omega)]
  refine ⟨by rw [e2, e1, e5, e6], fun j hj => ?_⟩
  obtain ⟨z, rfl⟩ : ∃ z, j = k + 1 + z := ⟨j - k - 1, by omega⟩
  rw [Nat.pow_add, Nat.pow_succ, ← Nat.div_div_eq_div_mul, ← Nat.div_div_eq_div_mul, e2, e4, ← Nat.div_div_eq_div_mul, ← Nat.div_div_eq_div_mul, e1, e3]
theorem dgt_carry {B k i : Nat} (hB : 1 < B) (h : ∃ q, i + 1 = q * B ^ k) (hd : dgt B k i = B - 1) : ∃ q, i + 1 = q * B ^ (k + 1) := by
  obtain ⟨q, hq⟩ := h
  have hp : 0 < B ^ k := Nat.pow_pos (by omega)
  have hq0 : 0 < q := by
    rcases Nat.eq_zero_or_pos q with e | e
    · rw [e, Nat.zero_mul] at hq; omega
    · exact e
  obtain ⟨c, rfl⟩ : ∃ c, q = c + 1 := ⟨q - 1, by omega⟩
  have hi : i = c * B ^ k + (B ^ k - 1) := by rw [Nat.add_mul, Nat.one_mul] at hq; omega
  have e1 : i / B ^ k = c := div_low hp (by omega) hi
  unfold dgt at hd
  rw [e1] at hd
  have hdm := Nat.div_add_mod c B
  rw [hd] at hdm
  generalize c / B = s at hdm
  subst hdm
  refine ⟨s + 1, ?_⟩
  rw [hq, Nat.pow_succ]
  have e : B * s + (B - 1) + 1 = B * (s + 1) := by rw [Nat.mul_add, Nat.mul_one]; omega
  rw [e, Nat.mul_comm (B ^ k) B, ← Nat.mul_assoc, Nat.mul_comm B]
abbrev BX3_putBoth (w0 : Wd) (Post : Option Value → Wd → Prop) (w : Wd) (pc : Nat) (ls : List (Nat × Value)) (st : List Value) : Prop := GP "putBoth" RX3 cX3_putBoth 4 none 0 0 none w0 Post w pc ls st
abbrev EX3_putBoth (As : List Value) (w : Wd) (Post : Option Value → Wd → Prop) : Prop := EP yX3_putBoth cX3_putBoth 4 none 0 As w Post
theorem sp_putBoth (w : Wd) {H n h lv ia lk on : Nat} {rw9 : Nat → Int64} (hH : w[H]? = some (oH H n h lv ia lk on)) (hr : w[H + 4]? = some (aL 13 rw9)) (hn : n ≤ 12) {i : Nat} {x : Int64} (hi : i ≤ n) : EX3_putBoth [.ref H, .int (nI i), .long x] w (fun r w' => r = none ∧ w' = w.set (H + 4) (aL 13 (vp_updL (vp_updL rw9 i x) (n - i) x))) := by
  refine EP.of (plainFor_of_name (by decide)) [(0, .ref H), (1, .int (nI i)), (2, .long x)] rfl (Nat.le_of_ble_eq_true rfl) (fun r wf h => by obtain ⟨rfl, -⟩ := h; trivial) ?_
  show BX3_putBoth w _ w 0 [(0, .ref H), (1, .int (nI i)), (2, .long x)] []
  refine g_aload_n (pc := 0) 0 dX3_putBoth_0 rfl rfl ?_
  refine g_get (pc := 1) dX3_putBoth_1 fk_X3_24 hH rfl ?_
  refine g_iload_n (pc := 4) 1 dX3_putBoth_4 rfl rfl ?_
  refine g_lload_n (pc := 5) 2 dX3_putBoth_5 rfl rfl ?_
  refine g_last (pc := 6) i dX3_putBoth_6 hr (IXn (by omega) (by omega)) ?_
  refine g_aload_n (pc := 7) 0 dX3_putBoth_7 rfl rfl ?_
  refine g_get (pc := 8) dX3_putBoth_8 fk_X3_24 (lk_ne (by omega) hH) rfl ?_
  refine g_aload_n (pc := 11) 0 dX3_putBoth_11 rfl rfl ?_
  refine g_get (pc := 12) dX3_putBoth_12 fk_X3_34 (lk_ne (by omega) hH) rfl ?_
  refine g_iload_n (pc := 15) 1 dX3_putBoth_15 rfl rfl ?_
  refine n_isub (pc := 16) dX3_putBoth_16 (by omega) ?_
  refine g_lload_n (pc := 17) 2 dX3_putBoth_17 rfl rfl ?_
  refine g_last (pc := 18) (n - i) dX3_putBoth_18 (lk_eq hr) (IXn (by omega) (by omega)) ?_
  refine GP.weq (w.set (H + 4) (aL 13 (vp_updL (vp_updL rw9 i x) (n - i) x))) (by rw [List.set_set]) ?_
  exact g_vret (pc := 19) dX3_putBoth_19 ⟨rfl, rfl⟩
abbrev BX3_boxSize (w0 : Wd) (Post : Option Value → Wd → Prop) (w : Wd) (pc : Nat) (ls : List (Nat × Value)) (st : List Value) : Prop := GP "boxSize" RX3 cX3_boxSize 4 (some .int) 0 0 none w0 Post w pc ls st
abbrev EX3_boxSize (As : List Value) (w : Wd) (Post : Option Value → Wd → Prop) : Prop := EP yX3_boxSize cX3_boxSize 4 (some .int) 0 As w Post
theorem bs_loop {w0 w : Wd} {n h : Nat} (hn : n ≤ 12) (hh : h ≤ 3) : ∀ (z i : Nat), n / 2 = i + z → BX3_boxSize w0 (fun r w' => r = some (.int (nI ((2 * h + 1) ^ (n / 2)))) ∧ w' = w) w 4 [(3, .int (nI (i + 1))), (2, .int (nI ((2 * h + 1) ^ i))), (0, .int (nI n)), (1, .int (nI h))] [] := by
  intro z
  induction z with
  | zero =>
    intro i hz
    refine g_iload_n (pc := 4) 0 dX3_boxSize_4 rfl rfl ?_
    refine g_iload_n (pc := 5) 2 dX3_boxSize_5 rfl rfl ?_
    refine g_iconst (pc := 6) (v := nI 2) dX3_boxSize_6 (by decide) ?_
    refine n_idiv (pc := 7) dX3_boxSize_7 (by omega) (by omega) (by omega) ?_
    refine n_icmp_gt (pc := 8) 31 dX3_boxSize_8 (by decide) (by omega) (by omega) (fun hb => ?_) (fun hb => ?_)
    · refine g_iload_n (pc := 31) 1 dX3_boxSize_31 rfl rfl ?_
      exact g_iret (pc := 32) dX3_boxSize_32 ⟨by rw [show n / 2 = i by omega], rfl⟩
    · exact absurd hb (by omega)
  | succ z ih =>
    intro i hz
    refine g_iload_n (pc := 4) 0 dX3_boxSize_4 rfl rfl ?_
    refine g_iload_n (pc := 5) 2 dX3_boxSize_5 rfl rfl ?_
    refine g_iconst (pc := 6) (v := nI 2) dX3_boxSize_6 (by decide) ?_
    refine n_idiv (pc := 7) dX3_boxSize_7 (by omega) (by omega) (by omega) ?_
    refine n_icmp_gt (pc := 8) 31 dX3_boxSize_8 (by decide) (by omega) (by omega) (fun hb => ?_) (fun hb => ?_)
    · exact absurd hb (by omega)
    · refine g_iload_n (pc := 11) 0 dX3_boxSize_11 rfl rfl ?_
      refine g_bipush (pc := 12) (v := nI 13) dX3_boxSize_12 (by decide) ?_
      refine n_icmp_ge (pc := 14) 31 dX3_boxSize_14 (by decide) (by omega) (by omega) (fun hb2 => ?_) (fun hb2 => ?_)
      · exact absurd hb2 (by omega)
      · refine g_iload_n (pc := 17) 1 dX3_boxSize_17 rfl rfl ?_
        refine g_iconst (pc := 18) (v := nI 2) dX3_boxSize_18 (by decide) ?_
        refine g_iload_n (pc := 19) 3 dX3_boxSize_19 rfl rfl ?_
        refine n_imul (pc := 20) dX3_boxSize_20 ?_
        refine g_iconst (pc := 21) (v := nI 1) dX3_boxSize_21 (by decide) ?_
        refine n_iadd (pc := 22) dX3_boxSize_22 ?_
        refine n_imul (pc := 23) dX3_boxSize_23 ?_
        refine GP.ti (nI ((2 * h + 1) ^ (i + 1))) (by rw [Nat.pow_succ]) ?_
        refine g_istore_n (pc := 24) [(2, .int (nI ((2 * h + 1) ^ (i + 1)))), (3, .int (nI (i + 1))), (0, .int (nI n)), (1, .int (nI h))] dX3_boxSize_24 rfl (by decide) rfl ?_
        refine n_iinc (pc := 25) (c := 1) [(3, .int (nI ((i + 1) + 1))), (2, .int (nI ((2 * h + 1) ^ (i + 1)))), (0, .int (nI n)), (1, .int (nI h))] 1 dX3_boxSize_25 rfl (by decide) (by decide) rfl ?_
        refine g_goto (pc := 28) 4 dX3_boxSize_28 (by decide) ?_
        exact GP.lsub _ (by simp) (ih (i + 1) (by omega))
theorem sp_boxSize (w : Wd) {n h : Nat} (hn : n ≤ 12) (hh : h ≤ 3) : EX3_boxSize [.int (nI n), .int (nI h)] w (fun r w' => r = some (.int (nI ((2 * h + 1) ^ (n / 2)))) ∧ w' = w) := by
  refine EP.of (plainFor_of_name (by decide)) [(0, .int (nI n)), (1, .int (nI h))] rfl (Nat.le_of_ble_eq_true rfl) (fun r wf h => by obtain ⟨rfl, -⟩ := h; trivial) ?_
  show BX3_boxSize w _ w 0 [(0, .int (nI n)), (1, .int (nI h))] []
  refine g_iconst (pc := 0) (v := nI 1) dX3_boxSize_0 (by decide) ?_
  refine g_istore_n (pc := 1) [(2, .int (nI 1)), (0, .int (nI n)), (1, .int (nI h))] dX3_boxSize_1 rfl (by decide) rfl ?_
  refine g_iconst (pc := 2) (v := nI 1) dX3_boxSize_2 (by decide) ?_
  refine g_istore_n (pc := 3) [(3, .int (nI 1)), (2, .int (nI 1)), (0, .int (nI n)), (1, .int (nI h))] dX3_boxSize_3 rfl (by decide) rfl ?_
  exact GP.lsub _ (by simp) (bs_loop hn hh (n / 2) 0 (by omega))
abbrev BX3_begin (w0 : Wd) (Post : Option Value → Wd → Prop) (w : Wd) (pc : Nat) (ls : List (Nat × Value)) (st : List Value) : Prop := GP "begin" RX3 cX3_begin 3 none 2 78 none w0 Post w pc ls st
abbrev EX3_begin (As : List Value) (w : Wd) (Post : Option Value → Wd → Prop) : Prop := EP yX3_begin cX3_begin 3 none 2 As w Post
theorem sp_hbegin (w : Wd) {H n h lv ia lk on : Nat} {rw9 : Nat → Int64} (hH : w[H]? = some (oH H n h lv ia lk on)) (hr : w[H + 4]? = some (aL 13 rw9)) {d e : Nat} (hd : d ≤ 12) (he : e ≤ 3) : EX3_begin [.ref H, .int (nI d), .int (nI e)] w (fun r w' => r = none ∧ ∃ rw' : Nat → Int64, (∀ p, p < 13 → (rw' p).toInt = bxc d e 0 p) ∧ w' = (w.set H (oH H d e lv 0 0 0)).set (H + 4) (aL 13 rw')) := by
  refine EP.of (plainFor_of_name (by decide)) [(0, .ref H), (1, .int (nI d)), (2, .int (nI e))] rfl (Nat.le_of_ble_eq_true rfl) (fun r wf h => by obtain ⟨rfl, -⟩ := h; trivial) ?_
  show BX3_begin w _ w 0 [(0, .ref H), (1, .int (nI d)), (2, .int (nI e))] []
  refine g_aload_n (pc := 0) 0 dX3_begin_0 rfl rfl ?_
  refine g_iconst (pc := 1) (v := nI 0) dX3_begin_1 (by decide) ?_
  refine g_iload_n (pc := 2) 1 dX3_begin_2 rfl rfl ?_
  refine g_bipush (pc := 3) (v := nI 12) dX3_begin_3 (by decide) ?_
  refine g_callS (pc := 5) [.int (nI d), .int (nI 12)] dX3_begin_5 cs_X3_53.1 cs_X3_53.2 rfl rfl (Nat.le_of_ble_eq_true rfl) (by decide) (by decide) (sp_minI _ (nI d) (nI 12)) ?_
  rintro _ w9 ⟨rfl, e9⟩
  refine GP.weq _ e9 ?_
  refine GP.ti (nI d) (by rw [minN (by omega) (by omega)]; congr 1; omega) ?_
  refine g_callS (pc := 8) [.int (nI 0), .int (nI d)] dX3_begin_8 cs_X3_59.1 cs_X3_59.2 rfl rfl (Nat.le_of_ble_eq_true rfl) (by decide) (by decide) (sp_maxI _ (nI 0) (nI d)) ?_
  rintro _ w9 ⟨rfl, e9⟩
  refine GP.weq _ e9 ?_
  refine GP.ti (nI d) (by rw [maxN (by omega) (by omega), Nat.zero_max]) ?_
  refine g_put (pc := 11) [.ref (H + 1), .ref (H + 2), .ref (H + 4), .ref (H + 5), .int (nI d), .int (nI h), .int (nI lv), .int (nI ia), .int (nI lk), .int (nI on)] dX3_begin_11 fk_X3_34 hH (Nat.le_of_ble_eq_true rfl) rfl rfl ?_
  refine g_aload_n (pc := 14) 0 dX3_begin_14 rfl rfl ?_
  refine g_iload_n (pc := 15) 2 dX3_begin_15 rfl rfl ?_
  refine g_put (pc := 16) [.ref (H + 1), .ref (H + 2), .ref (H + 4), .ref (H + 5), .int (nI d), .int (nI e), .int (nI lv), .int (nI ia), .int (nI lk), .int (nI on)] dX3_begin_16 fk_X3_38 (lk_eq hH) (Nat.le_of_ble_eq_true rfl) rfl rfl ?_
  refine GP.weq (w.set H (.inr (3, [.ref (H + 1), .ref (H + 2), .ref (H + 4), .ref (H + 5), .int (nI d), .int (nI e), .int (nI lv), .int (nI ia), .int (nI lk), .int (nI on)]))) (by rw [List.set_set]) ?_
  refine g_aload_n (pc := 19) 0 dX3_begin_19 rfl rfl ?_
  refine g_iconst (pc := 20) (v := nI 0) dX3_begin_20 (by decide) ?_
  refine g_put (pc := 21) [.ref (H + 1), .ref (H + 2), .ref (H + 4), .ref (H + 5), .int (nI d), .int (nI e), .int (nI lv), .int (nI 0), .int (nI lk), .int (nI on)] dX3_begin_21 fk_X3_44 (lk_eq hH) (Nat.le_of_ble_eq_true rfl) rfl rfl ?_
  refine GP.weq (w.set H (.inr (3, [.ref (H + 1), .ref (H + 2), .ref (H + 4), .ref (H + 5), .int (nI d), .int (nI e), .int (nI lv), .int (nI 0), .int (nI lk), .int (nI on)]))) (by rw [List.set_set]) ?_
  refine g_aload_n (pc := 24) 0 dX3_begin_24 rfl rfl ?_
  refine g_iconst (pc := 25) (v := nI 0) dX3_begin_25 (by decide) ?_
  refine g_put (pc := 26) [.ref (H + 1), .ref (H + 2), .ref (H + 4), .ref (H + 5), .int (nI d), .int (nI e), .int (nI lv), .int (nI 0), .int (nI 0), .int (nI on)] dX3_begin_26 fk_X3_47 (lk_eq hH) (Nat.le_of_ble_eq_true rfl) rfl rfl ?_
  refine GP.weq (w.set H (.inr (3, [.ref (H + 1), .ref (H + 2), .ref (H + 4), .ref (H + 5), .int (nI d), .int (nI e), .int (nI lv), .int (nI 0), .int (nI 0), .int (nI on)]))) (by rw [List.set_set]) ?_
  refine g_aload_n (pc := 29) 0 dX3_begin_29 rfl rfl ?_
  refine g_iconst (pc := 30) (v := nI 0) dX3_begin_30 (by decide) ?_
  refine g_put (pc := 31) [.ref (H + 1), .ref (H + 2), .ref (H + 4), .ref (H + 5), .int (nI d), .int (nI e), .int (nI lv), .int (nI 0), .int (nI 0), .int (nI 0)] dX3_begin_31 fk_X3_50 (lk_eq hH) (Nat.le_of_ble_eq_true rfl) rfl rfl ?_
  refine GP.weq (w.set H (.inr (3, [.ref (H + 1), .ref (H + 2), .ref (H + 4), .ref (H + 5), .int (nI d), .int (nI e), .int (nI lv), .int (nI 0), .int (nI 0), .int (nI 0)]))) (by rw [List.set_set]) ?_
  refine g_aload_n (pc := 34) 0 dX3_begin_34 rfl rfl ?_
  refine g_get (pc := 35) dX3_begin_35 fk_X3_24 (lk_eq hH) rfl ?_
  refine g_lconst (pc := 38) (v := 0) dX3_begin_38 (by decide) ?_
  refine g_callS (pc := 39) [.ref (H + 4), .long 0] dX3_begin_39 cs_X3_62.1 cs_X3_62.2 rfl rfl (Nat.le_of_ble_eq_true rfl) (by decide) (by decide) (sp_fill1 _ (H + 4) 13 rw9 0 (lk_ne (by omega) hr) (by omega)) ?_
  rintro _ w9 ⟨rfl, e9⟩
  refine GP.weq _ e9 ?_
  obtain ⟨x, hx⟩ : ∃ x : Int64, (-(nI e)).toInt64 = x := ⟨_, rfl⟩
  have hx2 : x.toInt = -(e : Int) := by rw [← hx, IL, I_neg (by rw [nI_toInt (by omega)]; omega), nI_toInt (by omega)]
  refine g_aload_n (pc := 42) 0 dX3_begin_42 rfl rfl ?_
  refine g_get (pc := 43) dX3_begin_43 fk_X3_24 (lk_ne (by omega) (lk_eq hH)) rfl ?_
  refine g_iconst (pc := 46) (v := nI 0) dX3_begin_46 (by decide) ?_
  refine g_aload_n (pc := 47) 0 dX3_begin_47 rfl rfl ?_
  refine g_get (pc := 48) dX3_begin_48 fk_X3_34 (lk_ne (by omega) (lk_eq hH)) rfl ?_
  refine g_aload_n (pc := 51) 0 dX3_begin_51 rfl rfl ?_
  refine g_get (pc := 52) dX3_begin_52 fk_X3_38 (lk_ne (by omega) (lk_eq hH)) rfl ?_
  refine g_ineg (pc := 55) dX3_begin_55 ?_
  refine g_i2l (pc := 56) dX3_begin_56 ?_
  refine GP.tl x hx ?_
  refine g_callS (pc := 57) [.ref (H + 4), .int (nI 0), .int (nI d), .long x] dX3_begin_57 cs_X3_68.1 cs_X3_68.2 rfl rfl (Nat.le_of_ble_eq_true rfl) (by decide) (by decide) (sp_fill3 _ (H + 4) 13 0 d (fillF rw9 0 13 0) x (lk_eq (lk_ne (by omega) hr)) (by decide) (by omega) (by omega)) ?_
  rintro _ w9 ⟨rfl, e9⟩
  refine GP.weq _ e9 ?_
  refine GP.weq ((w.set H (.inr (3, [.ref (H + 1), .ref (H + 2), .ref (H + 4), .ref (H + 5), .int (nI d), .int (nI e), .int (nI lv), .int (nI 0), .int (nI 0), .int (nI 0)]))).set (H + 4) (aL 13 (fillF (fillF rw9 0 13 0) 0 d x))) (by rw [List.set_set]) ?_
  refine g_aload_n (pc := 60) 0 dX3_begin_60 rfl rfl ?_
  refine g_iconst (pc := 61) (v := nI 0) dX3_begin_61 (by decide) ?_
  refine g_lconst (pc := 62) (v := 1) dX3_begin_62 (by decide) ?_
  refine g_callV (pc := 63) [.int (nI 0), .long 1] dX3_begin_63 cv_X3_71.1 cv_X3_71.2.1 cv_X3_71.2.2.1 cv_X3_71.2.2.2 (lk_ne (by omega) (lk_eq hH)) rfl rfl (Nat.le_of_ble_eq_true rfl) (by decide) (by decide) (sp_putBoth _ (lk_ne (by omega) (lk_eq hH)) (lk_eq (lk_ne (by omega) hr)) hd (Nat.zero_le _)) ?_
  rintro _ w9 ⟨rfl, e9⟩
  refine GP.weq _ e9 ?_
  refine GP.weq ((w.set H (.inr (3, [.ref (H + 1), .ref (H + 2), .ref (H + 4), .ref (H + 5), .int (nI d), .int (nI e), .int (nI lv), .int (nI 0), .int (nI 0), .int (nI 0)]))).set (H + 4) (aL 13 (vp_updL (vp_updL (fillF (fillF rw9 0 13 0) 0 d x) 0 1) (d - 0) 1))) (by rw [List.set_set]) ?_
  refine g_vret (pc := 66) dX3_begin_66 ⟨rfl, _, fun p hp => ?_, rfl⟩
  unfold bxc
  by_cases c1 : d < p
  · rw [if_pos c1, upL_n (by omega), upL_n (by omega)]
    simp only [fillF]
    rw [if_neg (by omega), if_pos (by omega)]
    decide
  · rw [if_neg c1]
    by_cases c2 : p = d
    · rw [if_pos (Or.inr c2), c2, show d - 0 = d by omega, upL_s]
      decide
    · rw [upL_n (by omega)]
      by_cases c3 : p = 0
      · rw [if_pos (Or.inl c3), c3, upL_s]
        decide
      · rw [if_neg (by omega), upL_n c3]
        simp only [fillF]
        rw [if_pos (by omega), hx2]
        have h9 : dgt (2 * e + 1) (d / 2 - min p (d - p)) 0 = 0 := by unfold dgt; simp
        rw [h9]
        simp
