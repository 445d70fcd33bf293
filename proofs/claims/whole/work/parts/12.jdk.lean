abbrev BJ9_abs_0f7a4 (w0 : Wd) (Post : Option Value → Wd → Prop) (w : Wd) (pc : Nat) (ls : List (Nat × Value)) (st : List Value) : Prop := GP "abs" RJ9 cJ9_abs_0f7a4 1 (some .int) 0 0 none w0 Post w pc ls st
abbrev EJ9_abs_0f7a4 (As : List Value) (w : Wd) (Post : Option Value → Wd → Prop) : Prop := EP yJ9_abs_0f7a4 cJ9_abs_0f7a4 1 (some .int) 0 As w Post
theorem sp_absI (w : Wd) (x : Int32) : EJ9_abs_0f7a4 [.int x] w (fun r w' => r = some (.int (if 0 ≤ x then x else -x)) ∧ w' = w) := by
  refine EP.of (by decide +kernel) [(0, .int x)] rfl (Nat.le_of_ble_eq_true rfl) (fun r wf h => by obtain ⟨rfl, -⟩ := h; trivial) ?_
  show BJ9_abs_0f7a4 w _ w 0 [(0, .int x)] []
  refine g_iload_n (pc := 0) 0 dJ9_abs_0f7a4_0 rfl rfl ?_
  refine g_if_ge (pc := 1) 9 dJ9_abs_0f7a4_1 (by decide) (fun h => ?_) (fun h => ?_)
  · refine g_iload_n (pc := 9) 0 dJ9_abs_0f7a4_9 rfl rfl ?_
    exact g_iret (pc := 10) dJ9_abs_0f7a4_10 ⟨by simp [h], rfl⟩
  · refine g_iload_n (pc := 4) 0 dJ9_abs_0f7a4_4 rfl rfl ?_
    refine g_ineg (pc := 5) dJ9_abs_0f7a4_5 ?_
    refine g_goto (pc := 6) 10 dJ9_abs_0f7a4_6 (by decide) ?_
    exact g_iret (pc := 10) dJ9_abs_0f7a4_10 ⟨by simp [h], rfl⟩
abbrev BJ9_abs_067f4 (w0 : Wd) (Post : Option Value → Wd → Prop) (w : Wd) (pc : Nat) (ls : List (Nat × Value)) (st : List Value) : Prop := GP "abs" RJ9 cJ9_abs_067f4 2 (some .long) 0 0 none w0 Post w pc ls st
abbrev EJ9_abs_067f4 (As : List Value) (w : Wd) (Post : Option Value → Wd → Prop) : Prop := EP yJ9_abs_067f4 cJ9_abs_067f4 2 (some .long) 0 As w Post
theorem sp_absL (w : Wd) (x : Int64) : EJ9_abs_067f4 [.long x] w (fun r w' => r = some (.long (if 0 ≤ x then x else -x)) ∧ w' = w) := by
  refine EP.of (by decide +kernel) [(0, .long x)] rfl (Nat.le_of_ble_eq_true rfl) (fun r wf h => by obtain ⟨rfl, -⟩ := h; trivial) ?_
  show BJ9_abs_067f4 w _ w 0 [(0, .long x)] []
  refine g_lload_n (pc := 0) 0 dJ9_abs_067f4_0 rfl rfl ?_
  refine g_lconst (pc := 1) (v := 0) dJ9_abs_067f4_1 (by decide) ?_
  refine g_lcmp_ge (pc := 2) 11 dJ9_abs_067f4_2 dJ9_abs_067f4_3 (by decide) (fun h => ?_) (fun h => ?_)
  · refine g_lload_n (pc := 11) 0 dJ9_abs_067f4_11 rfl rfl ?_
    exact g_lret (pc := 12) dJ9_abs_067f4_12 ⟨by simp [h], rfl⟩
  · refine g_lload_n (pc := 6) 0 dJ9_abs_067f4_6 rfl rfl ?_
    refine g_lneg (pc := 7) dJ9_abs_067f4_7 ?_
    refine g_goto (pc := 8) 12 dJ9_abs_067f4_8 (by decide) ?_
    exact g_lret (pc := 12) dJ9_abs_067f4_12 ⟨by simp [h], rfl⟩
abbrev BJ9_max_7cf53 (w0 : Wd) (Post : Option Value → Wd → Prop) (w : Wd) (pc : Nat) (ls : List (Nat × Value)) (st : List Value) : Prop := GP "max" RJ9 cJ9_max_7cf53 2 (some .int) 0 0 none w0 Post w pc ls st
abbrev EJ9_max_7cf53 (As : List Value) (w : Wd) (Post : Option Value → Wd → Prop) : Prop := EP yJ9_max_7cf53 cJ9_max_7cf53 2 (some .int) 0 As w Post
theorem sp_maxI (w : Wd) (x y : Int32) : EJ9_max_7cf53 [.int x, .int y] w (fun r w' => r = some (.int (if x < y then y else x)) ∧ w' = w) := by
  refine EP.of (by decide +kernel) [(0, .int x), (1, .int y)] rfl (Nat.le_of_ble_eq_true rfl) (fun r wf h => by obtain ⟨rfl, -⟩ := h; trivial) ?_
  show BJ9_max_7cf53 w _ w 0 [(0, .int x), (1, .int y)] []
  refine g_iload_n (pc := 0) 0 dJ9_max_7cf53_0 rfl rfl ?_
  refine g_iload_n (pc := 1) 1 dJ9_max_7cf53_1 rfl rfl ?_
  refine g_icmp_lt (pc := 2) 9 dJ9_max_7cf53_2 (by decide) (fun h => ?_) (fun h => ?_)
  · refine g_iload_n (pc := 9) 1 dJ9_max_7cf53_9 rfl rfl ?_
    exact g_iret (pc := 10) dJ9_max_7cf53_10 ⟨by simp [h], rfl⟩
  · refine g_iload_n (pc := 5) 0 dJ9_max_7cf53_5 rfl rfl ?_
    refine g_goto (pc := 6) 10 dJ9_max_7cf53_6 (by decide) ?_
    exact g_iret (pc := 10) dJ9_max_7cf53_10 ⟨by simp [h], rfl⟩
abbrev BJ9_min_7cf53 (w0 : Wd) (Post : Option Value → Wd → Prop) (w : Wd) (pc : Nat) (ls : List (Nat × Value)) (st : List Value) : Prop := GP "min" RJ9 cJ9_min_7cf53 2 (some .int) 0 0 none w0 Post w pc ls st
abbrev EJ9_min_7cf53 (As : List Value) (w : Wd) (Post : Option Value → Wd → Prop) : Prop := EP yJ9_min_7cf53 cJ9_min_7cf53 2 (some .int) 0 As w Post
theorem sp_minI (w : Wd) (x y : Int32) : EJ9_min_7cf53 [.int x, .int y] w (fun r w' => r = some (.int (if y < x then y else x)) ∧ w' = w) := by
  refine EP.of (by decide +kernel) [(0, .int x), (1, .int y)] rfl (Nat.le_of_ble_eq_true rfl) (fun r wf h => by obtain ⟨rfl, -⟩ := h; trivial) ?_
  show BJ9_min_7cf53 w _ w 0 [(0, .int x), (1, .int y)] []
  refine g_iload_n (pc := 0) 0 dJ9_min_7cf53_0 rfl rfl ?_
  refine g_iload_n (pc := 1) 1 dJ9_min_7cf53_1 rfl rfl ?_
  refine g_icmp_gt (pc := 2) 9 dJ9_min_7cf53_2 (by decide) (fun h => ?_) (fun h => ?_)
  · refine g_iload_n (pc := 9) 1 dJ9_min_7cf53_9 rfl rfl ?_
    exact g_iret (pc := 10) dJ9_min_7cf53_10 ⟨by simp [h], rfl⟩
  · refine g_iload_n (pc := 5) 0 dJ9_min_7cf53_5 rfl rfl ?_
    refine g_goto (pc := 6) 10 dJ9_min_7cf53_6 (by decide) ?_
    exact g_iret (pc := 10) dJ9_min_7cf53_10 ⟨by simp [h], rfl⟩
abbrev BJ9_min_f86c9 (w0 : Wd) (Post : Option Value → Wd → Prop) (w : Wd) (pc : Nat) (ls : List (Nat × Value)) (st : List Value) : Prop := GP "min" RJ9 cJ9_min_f86c9 4 (some .long) 0 0 none w0 Post w pc ls st
abbrev EJ9_min_f86c9 (As : List Value) (w : Wd) (Post : Option Value → Wd → Prop) : Prop := EP yJ9_min_f86c9 cJ9_min_f86c9 4 (some .long) 0 As w Post
theorem sp_minL (w : Wd) (x y : Int64) : EJ9_min_f86c9 [.long x, .long y] w (fun r w' => r = some (.long (if y < x then y else x)) ∧ w' = w) := by
  refine EP.of (by decide +kernel) [(0, .long x), (2, .long y)] rfl (Nat.le_of_ble_eq_true rfl) (fun r wf h => by obtain ⟨rfl, -⟩ := h; trivial) ?_
  show BJ9_min_f86c9 w _ w 0 [(0, .long x), (2, .long y)] []
  refine g_lload_n (pc := 0) 0 dJ9_min_f86c9_0 rfl rfl ?_
  refine g_lload_n (pc := 1) 1 dJ9_min_f86c9_1 rfl rfl ?_
  refine g_lcmp_gt (pc := 2) 10 dJ9_min_f86c9_2 dJ9_min_f86c9_3 (by decide) (fun h => ?_) (fun h => ?_)
  · refine g_lload_n (pc := 10) 1 dJ9_min_f86c9_10 rfl rfl ?_
    exact g_lret (pc := 11) dJ9_min_f86c9_11 ⟨by simp [h], rfl⟩
  · refine g_lload_n (pc := 6) 0 dJ9_min_f86c9_6 rfl rfl ?_
    refine g_goto (pc := 7) 11 dJ9_min_f86c9_7 (by decide) ?_
    exact g_lret (pc := 11) dJ9_min_f86c9_11 ⟨by simp [h], rfl⟩
abbrev BJ7_rangeCheck_23922 (w0 : Wd) (Post : Option Value → Wd → Prop) (w : Wd) (pc : Nat) (ls : List (Nat × Value)) (st : List Value) : Prop := GP "rangeCheck" RJ7 cJ7_rangeCheck_23922 3 none 0 0 none w0 Post w pc ls st
abbrev EJ7_rangeCheck_23922 (As : List Value) (w : Wd) (Post : Option Value → Wd → Prop) : Prop := EP yJ7_rangeCheck_23922 cJ7_rangeCheck_23922 3 none 0 As w Post
theorem sp_rangeCheck (w : Wd) (n a b : Nat) (hn : n < 2147483648) (h1 : a ≤ b) (h2 : b ≤ n) : EJ7_rangeCheck_23922 [.int (nI n), .int (nI a), .int (nI b)] w (fun r w' => r = none ∧ w' = w) := by
  refine EP.of (plainFor_of_name (by decide)) [(0, .int (nI n)), (1, .int (nI a)), (2, .int (nI b))] rfl (Nat.le_of_ble_eq_true rfl) (fun r wf h => by obtain ⟨rfl, -⟩ := h; trivial) ?_
  show BJ7_rangeCheck_23922 w _ w 0 [(0, .int (nI n)), (1, .int (nI a)), (2, .int (nI b))] []
  refine g_iload_n (pc := 0) 1 dJ7_rangeCheck_23922_0 rfl rfl ?_
  refine g_iload_n (pc := 1) 2 dJ7_rangeCheck_23922_1 rfl rfl ?_
  refine n_icmp_le (pc := 2) 46 dJ7_rangeCheck_23922_2 (by decide) (by omega) (by omega) (fun h => ?_) (fun h => ?_)
  · refine g_iload_n (pc := 46) 1 dJ7_rangeCheck_23922_46 rfl rfl ?_
    refine n_if_ge (pc := 47) 59 dJ7_rangeCheck_23922_47 (by decide) (by omega) ?_
    refine g_iload_n (pc := 59) 2 dJ7_rangeCheck_23922_59 rfl rfl ?_
    refine g_iload_n (pc := 60) 0 dJ7_rangeCheck_23922_60 rfl rfl ?_
    refine n_icmp_le (pc := 61) 73 dJ7_rangeCheck_23922_61 (by decide) (by omega) (by omega) (fun h3 => ?_) (fun h3 => ?_)
    · exact g_vret (pc := 73) dJ7_rangeCheck_23922_73 ⟨rfl, rfl⟩
    · exact absurd h2 h3
  · exact absurd h1 h
/-- the content of a row behind a fill of places a .. b - 1 -/
def fillF (f : Nat → Int64) (a b : Nat) (v : Int64) : Nat → Int64 := fun j => if a ≤ j ∧ j < b then v else f j
theorem fillF_0 (f : Nat → Int64) (a : Nat) (v : Int64) : fillF f a a v = f := by
  funext j
  simp only [fillF]
  rw [if_neg (by omega)]
theorem fillF_s {f : Nat → Int64} {a b : Nat} {v : Int64} (h : a ≤ b) : vp_updL (fillF f a b v) b v = fillF f a (b + 1) v := by
  funext j
  simp only [fillF, vp_updL]
  by_cases hj : j = b
  · subst hj
    rw [if_pos rfl, if_pos (by omega)]
  · rw [if_neg hj]
    by_cases h2 : a ≤ j ∧ j < b
    · rw [if_pos h2, if_pos (by omega)]
    · rw [if_neg h2, if_neg (by omega)]
abbrev BJ7_fill_bad5a (w0 : Wd) (Post : Option Value → Wd → Prop) (w : Wd) (pc : Nat) (ls : List (Nat × Value)) (st : List Value) : Prop := GP "fill" RJ7 cJ7_fill_bad5a 6 none 1 39 none w0 Post w pc ls st
abbrev EJ7_fill_bad5a (As : List Value) (w : Wd) (Post : Option Value → Wd → Prop) : Prop := EP yJ7_fill_bad5a cJ7_fill_bad5a 6 none 1 As w Post
theorem fill_loop {w0 w : Wd} {Post : Option Value → Wd → Prop} {o n a b : Nat} {f : Nat → Int64} {v : Int64} (ho : w[o]? = some (aL n f)) (hb : b ≤ n) (hn : n < 2147483648) (hx : BJ7_fill_bad5a w0 Post (w.set o (aL n (fillF f a b v))) 27 [(5, .int (nI b)), (0, .ref o), (1, .int (nI a)), (2, .int (nI b)), (3, .long v)] []) : ∀ k i : Nat, b = i + k → a ≤ i → BJ7_fill_bad5a w0 Post (w.set o (aL n (fillF f a i v))) 10 [(5, .int (nI i)), (0, .ref o), (1, .int (nI a)), (2, .int (nI b)), (3, .long v)] [] := by
  intro k
  induction k with
  | zero =>
    intro i hi hai
    refine g_iload (pc := 10) 0 dJ7_fill_bad5a_10 rfl ?_
    refine g_iload_n (pc := 12) 3 dJ7_fill_bad5a_12 rfl rfl ?_
    refine n_icmp_ge (pc := 13) 27 dJ7_fill_bad5a_13 (by decide) (by omega) (by omega) (fun h => ?_) (fun h => ?_)
    · rw [show i = b by omega]
      exact hx
    · exact absurd hi (by omega)
  | succ k ih =>
    intro i hi hai
    refine g_iload (pc := 10) 0 dJ7_fill_bad5a_10 rfl ?_
    refine g_iload_n (pc := 12) 3 dJ7_fill_bad5a_12 rfl rfl ?_
    refine n_icmp_ge (pc := 13) 27 dJ7_fill_bad5a_13 (by decide) (by omega) (by omega) (fun h => ?_) (fun h => ?_)
    · exact absurd hi (by omega)
    · refine g_aload_n (pc := 16) 1 dJ7_fill_bad5a_16 rfl rfl ?_
      refine g_iload (pc := 17) 0 dJ7_fill_bad5a_17 rfl ?_
      refine g_lload_n (pc := 19) 4 dJ7_fill_bad5a_19 rfl rfl ?_
      refine g_last (pc := 20) i dJ7_fill_bad5a_20 (lk_eq ho) (IXn (by omega) (by omega)) ?_
      refine GP.weq (w.set o (aL n (vp_updL (fillF f a i v) i v))) (by rw [List.set_set]) ?_
      refine n_iinc (pc := 21) (c := 1) [(5, .int (nI (i + 1))), (0, .ref o), (1, .int (nI a)), (2, .int (nI b)), (3, .long v)] 0 dJ7_fill_bad5a_21 rfl (by decide) (by decide) rfl ?_
      refine g_goto (pc := 24) 10 dJ7_fill_bad5a_24 (by decide) ?_
      rw [fillF_s hai]
      exact GP.lsub _ (by simp) (ih (i + 1) (by omega) (by omega))
theorem sp_fill3 (w : Wd) (o n a b : Nat) (f : Nat → Int64) (v : Int64) (ho : w[o]? = some (aL n f)) (hn : n < 2147483648) (h1 : a ≤ b) (h2 : b ≤ n) : EJ7_fill_bad5a [.ref o, .int (nI a), .int (nI b), .long v] w (fun r w' => r = none ∧ w' = w.set o (aL n (fillF f a b v))) := by
  refine EP.of (plainFor_of_name (by decide)) [(0, .ref o), (1, .int (nI a)), (2, .int (nI b)), (3, .long v)] rfl (Nat.le_of_ble_eq_true rfl) (fun r wf h => by obtain ⟨rfl, -⟩ := h; trivial) ?_
  show BJ7_fill_bad5a w _ w 0 [(0, .ref o), (1, .int (nI a)), (2, .int (nI b)), (3, .long v)] []
  refine g_aload_n (pc := 0) 0 dJ7_fill_bad5a_0 rfl rfl ?_
  refine g_alen (pc := 1) dJ7_fill_bad5a_1 ho (by decide) ?_
  refine g_iload_n (pc := 2) 1 dJ7_fill_bad5a_2 rfl rfl ?_
  refine g_iload_n (pc := 3) 2 dJ7_fill_bad5a_3 rfl rfl ?_
  refine g_callS (pc := 4) [.int (nI n), .int (nI a), .int (nI b)] dJ7_fill_bad5a_4 cs_J7_13.1 cs_J7_13.2 rfl rfl (Nat.le_of_ble_eq_true rfl) (by decide) (by decide) (sp_rangeCheck w n a b hn h1 h2) ?_
  rintro _ w9 ⟨rfl, e9⟩
  refine GP.weq _ e9 ?_
  refine g_iload_n (pc := 7) 1 dJ7_fill_bad5a_7 rfl rfl ?_
  refine g_istore (pc := 8) [(5, .int (nI a)), (0, .ref o), (1, .int (nI a)), (2, .int (nI b)), (3, .long v)] dJ7_fill_bad5a_8 (by decide) rfl ?_
  refine GP.weq (w.set o (aL n (fillF f a a v))) (by rw [fillF_0]; exact (set_same ho).symm) ?_
  refine fill_loop ho h2 hn ?_ (b - a) a (by omega) (Nat.le_refl _)
  exact g_vret (pc := 27) dJ7_fill_bad5a_27 ⟨rfl, rfl⟩
abbrev BJ7_fill_d0a16 (w0 : Wd) (Post : Option Value → Wd → Prop) (w : Wd) (pc : Nat) (ls : List (Nat × Value)) (st : List Value) : Prop := GP "fill" RJ7 cJ7_fill_d0a16 5 none 0 0 none w0 Post w pc ls st
abbrev EJ7_fill_d0a16 (As : List Value) (w : Wd) (Post : Option Value → Wd → Prop) : Prop := EP yJ7_fill_d0a16 cJ7_fill_d0a16 5 none 0 As w Post
theorem fill1_loop {w0 w : Wd} {Post : Option Value → Wd → Prop} {o n : Nat} {f : Nat → Int64} {v : Int64} (ho : w[o]? = some (aL n f)) (hn : n < 2147483648) (hx : BJ7_fill_d0a16 w0 Post (w.set o (aL n (fillF f 0 n v))) 22 [(3, .int (nI n)), (4, .int (nI n)), (0, .ref o), (1, .long v)] []) : ∀ k i : Nat, n = i + k → BJ7_fill_d0a16 w0 Post (w.set o (aL n (fillF f 0 i v))) 6 [(3, .int (nI i)), (4, .int (nI n)), (0, .ref o), (1, .long v)] [] := by
  intro k
  induction k with
  | zero =>
    intro i hi
    refine g_iload_n (pc := 6) 0 dJ7_fill_d0a16_6 rfl rfl ?_
    refine g_iload (pc := 7) 1 dJ7_fill_d0a16_7 rfl ?_
    refine n_icmp_ge (pc := 9) 22 dJ7_fill_d0a16_9 (by decide) (by omega) (by omega) (fun h => ?_) (fun h => ?_)
    · rw [show i = n by omega]
      exact hx
    · exact absurd hi (by omega)
  | succ k ih =>
    intro i hi
    refine g_iload_n (pc := 6) 0 dJ7_fill_d0a16_6 rfl rfl ?_
    refine g_iload (pc := 7) 1 dJ7_fill_d0a16_7 rfl ?_
    refine n_icmp_ge (pc := 9) 22 dJ7_fill_d0a16_9 (by decide) (by omega) (by omega) (fun h => ?_) (fun h => ?_)
    · exact absurd hi (by omega)
    · refine g_aload_n (pc := 12) 2 dJ7_fill_d0a16_12 rfl rfl ?_
      refine g_iload_n (pc := 13) 0 dJ7_fill_d0a16_13 rfl rfl ?_
      refine g_lload_n (pc := 14) 3 dJ7_fill_d0a16_14 rfl rfl ?_
      refine g_last (pc := 15) i dJ7_fill_d0a16_15 (lk_eq ho) (IXn (by omega) (by omega)) ?_
      refine GP.weq (w.set o (aL n (vp_updL (fillF f 0 i v) i v))) (by rw [List.set_set]) ?_
      refine n_iinc (pc := 16) (c := 1) [(3, .int (nI (i + 1))), (4, .int (nI n)), (0, .ref o), (1, .long v)] 0 dJ7_fill_d0a16_16 rfl (by decide) (by decide) rfl ?_
      refine g_goto (pc := 19) 6 dJ7_fill_d0a16_19 (by decide) ?_
      rw [fillF_s (Nat.zero_le i)]
      exact GP.lsub _ (by simp) (ih (i + 1) (by omega))
theorem sp_fill1 (w : Wd) (o n : Nat) (f : Nat → Int64) (v : Int64) (ho : w[o]? = some (aL n f)) (hn : n < 2147483648) : EJ7_fill_d0a16 [.ref o, .long v] w (fun r w' => r = none ∧ w' = w.set o (aL n (fillF f 0 n v))) := by
  refine EP.of (plainFor_of_name (by decide)) [(0, .ref o), (1, .long v)] rfl (Nat.le_of_ble_eq_true rfl) (fun r wf h => by obtain ⟨rfl, -⟩ := h; trivial) ?_
  show BJ7_fill_d0a16 w _ w 0 [(0, .ref o), (1, .long v)] []
  refine g_iconst (pc := 0) (v := nI 0) dJ7_fill_d0a16_0 (by decide) ?_
  refine g_istore_n (pc := 1) [(3, .int (nI 0)), (0, .ref o), (1, .long v)] dJ7_fill_d0a16_1 rfl (by decide) rfl ?_
  refine g_aload_n (pc := 2) 1 dJ7_fill_d0a16_2 rfl rfl ?_
  refine g_alen (pc := 3) dJ7_fill_d0a16_3 ho (by decide) ?_
  refine g_istore (pc := 4) [(4, .int (nI n)), (3, .int (nI 0)), (0, .ref o), (1, .long v)] dJ7_fill_d0a16_4 (by decide) rfl ?_
  refine GP.weq (w.set o (aL n (fillF f 0 0 v))) (by rw [fillF_0]; exact (set_same ho).symm) ?_
  refine GP.lsub [(3, .int (nI 0)), (4, .int (nI n)), (0, .ref o), (1, .long v)] (by simp) ?_
  refine fill1_loop ho hn ?_ n 0 (by omega)
  exact g_vret (pc := 22) dJ7_fill_d0a16_22 ⟨rfl, rfl⟩
