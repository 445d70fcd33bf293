/-! Poly: what is told of one -/
theorem abs_nI {x : Int32} (h : -2147483648 < x.toInt) : (if 0 ≤ x then x else -x) = nI x.toInt.natAbs := by
  have h1 := I_hi x
  have hc : (0 ≤ x) ↔ 0 ≤ x.toInt := Int32.le_iff_toInt_le
  apply Int32.toInt_inj.mp
  rw [nI_toInt (by omega)]
  split
  · rename_i h0; have := hc.mp h0; omega
  · rename_i h0
    rw [I_neg (by omega)]
    have h2 : ¬ 0 ≤ x.toInt := fun g => h0 (hc.mpr g)
    omega
theorem nI_ofNonneg {x : Int32} (h : 0 ≤ x.toInt) : x = nI x.toInt.natAbs := by
  apply Int32.toInt_inj.mp
  have h1 := I_hi x
  rw [nI_toInt (by omega)]
  omega
theorem sqr_nI {x : Int32} (h : -2147483648 < x.toInt) : x * x = nI (x.toInt.natAbs * x.toInt.natAbs) := by
  rw [← nI_mul, ← abs_nI h]
  split
  · rfl
  · apply Int32.toInt_inj.mp
    rw [Int32.toInt_mul, Int32.toInt_mul, I_neg (by omega)]
    congr 1
    grind
def pAbs (F : Nat → Int) : Nat → Nat
  | 0 => 0
  | i + 1 => pAbs F i + (F i).natAbs
def pMax (F : Nat → Int) : Nat → Nat
  | 0 => 0
  | i + 1 => max (pMax F i) (F i).natAbs
def pSqr (F : Nat → Int) : Nat → Nat
  | 0 => 0
  | i + 1 => pSqr F i + (F i).natAbs * (F i).natAbs
def pMany (F : Nat → Int) : Nat → Nat
  | 0 => 0
  | i + 1 => pMany F i + if F i = 0 then 0 else 1
def pGcd (F : Nat → Int) : Nat → Nat
  | 0 => 0
  | i + 1 => Nat.gcd (pGcd F i) (F i).natAbs
/-- what was last, and how often the sign changed -/
def pLast (F : Nat → Int) : Nat → Int
  | 0 => 0
  | i + 1 => if F i = 0 then pLast F i else F i
def pTurn (F : Nat → Int) : Nat → Nat
  | 0 => 0
  | i + 1 => pTurn F i + if (0 < F i ∧ pLast F i < 0) ∨ (F i < 0 ∧ 0 < pLast F i) then 1 else 0
theorem pMax_lt {F : Nat → Int} {c n : Nat} (h : ∀ t, t ≤ n → (F t).natAbs ≤ c) : ∀ i, i ≤ n + 1 → pMax F i ≤ c
  | 0, _ => Nat.zero_le _
  | i + 1, hi => Nat.max_le.mpr ⟨pMax_lt h i (by omega), h i (by omega)⟩
theorem pGcd_lt {F : Nat → Int} {c n : Nat} (h : ∀ t, t ≤ n → (F t).natAbs ≤ c) : ∀ i, i ≤ n + 1 → pGcd F i ≤ c
  | 0, _ => Nat.zero_le _
  | i + 1, hi => by
    show Nat.gcd _ _ ≤ c
    have h1 := pGcd_lt h i (by omega)
    have h2 := h i (by omega)
    by_cases h0 : (F i).natAbs = 0
    · rw [h0, Nat.gcd_zero_right]; exact h1
    · exact Nat.le_trans (Nat.gcd_le_right _ (by omega)) h2
theorem nab {x : Int} (h : -9999 ≤ x ∧ x ≤ 9999) : x.natAbs ≤ 9999 := by omega
abbrev BX6_sizes (w0 : Wd) (Post : Option Value → Wd → Prop) (w : Wd) (pc : Nat) (ls : List (Nat × Value)) (st : List Value) : Prop := GP "sizes" RX6 cX6_sizes 3 (some .int) 1 39 none w0 Post w pc ls st
abbrev EX6_sizes (As : List Value) (w : Wd) (Post : Option Value → Wd → Prop) : Prop := EP yX6_sizes cX6_sizes 3 (some .int) 1 As w Post
theorem sz_loop {w0 w : Wd} {o b n : Nat} {f : Nat → Int32} (ho : w[o]? = some (oP n b)) (hb : w[b]? = some (aI 0 (n + 1) f)) (hn : n ≤ 12) (hf : ∀ t, t ≤ n → -9999 ≤ (f t).toInt ∧ (f t).toInt ≤ 9999) : ∀ (k i : Nat), n + 1 = i + k → BX6_sizes w0 (fun r w' => r = some (.int (nI (pAbs (toJ f) (n + 1)))) ∧ w' = w) w 4 [(2, .int (nI i)), (1, .int (nI (pAbs (toJ f) i))), (0, .ref o)] [] := by
  intro k
  induction k with
  | zero =>
    intro i hi
    refine g_iload_n (pc := 4) 0 dX6_sizes_4 rfl rfl ?_
    refine g_aload_n (pc := 5) 2 dX6_sizes_5 rfl rfl ?_
    refine g_get (pc := 6) dX6_sizes_6 fk_X6_18 ho rfl ?_
    refine n_icmp_gt (pc := 9) 30 dX6_sizes_9 (by decide) (by omega) (by omega) (fun hz => ?_) (fun hz => ?_)
    · refine g_iload_n (pc := 30) 1 dX6_sizes_30 rfl rfl ?_
      exact g_iret (pc := 31) dX6_sizes_31 ⟨by rw [show n + 1 = i by omega], rfl⟩
    · exact absurd hz (by omega)
  | succ k ih =>
    intro i hi
    refine g_iload_n (pc := 4) 0 dX6_sizes_4 rfl rfl ?_
    refine g_aload_n (pc := 5) 2 dX6_sizes_5 rfl rfl ?_
    refine g_get (pc := 6) dX6_sizes_6 fk_X6_18 ho rfl ?_
    refine n_icmp_gt (pc := 9) 30 dX6_sizes_9 (by decide) (by omega) (by omega) (fun hz => ?_) (fun hz => ?_)
    · exact absurd hz (by omega)
    · have hfi := hf i (by omega)
      refine g_iload_n (pc := 12) 1 dX6_sizes_12 rfl rfl ?_
      refine g_aload_n (pc := 13) 2 dX6_sizes_13 rfl rfl ?_
      refine g_get (pc := 14) dX6_sizes_14 fk_X6_24 ho rfl ?_
      refine g_iload_n (pc := 17) 0 dX6_sizes_17 rfl rfl ?_
      refine g_iald (pc := 18) i dX6_sizes_18 hb (IXn (by omega) (by omega)) ?_
      refine g_callS (pc := 19) [.int (f i)] dX6_sizes_19 cs_X6_42.1 cs_X6_42.2 rfl rfl (Nat.le_of_ble_eq_true rfl) (by decide) (by decide) (sp_absI _ (f i)) ?_
      rintro _ w9 ⟨rfl, e9⟩
      refine GP.weq _ e9 ?_
      refine GP.ti (nI (toJ f i).natAbs) (abs_nI (by omega)) ?_
      refine n_iadd (pc := 22) dX6_sizes_22 ?_
      refine g_istore_n (pc := 23) [(1, .int (nI ((pAbs (toJ f) i) + ((toJ f i).natAbs)))), (2, .int (nI i)), (0, .ref o)] dX6_sizes_23 rfl (by decide) rfl ?_
      refine n_iinc (pc := 24) (c := 1) [(2, .int (nI (i + 1))), (1, .int (nI ((pAbs (toJ f) i) + ((toJ f i).natAbs)))), (0, .ref o)] 1 dX6_sizes_24 rfl (by decide) (by decide) rfl ?_
      refine g_goto (pc := 27) 4 dX6_sizes_27 (by decide) ?_
      exact GP.lsub _ (by intro x hx; exact hx) (ih (i + 1) (by omega))
theorem sp_sizes (w : Wd) {o b n : Nat} {f : Nat → Int32} (ho : w[o]? = some (oP n b)) (hb : w[b]? = some (aI 0 (n + 1) f)) (hn : n ≤ 12) (hf : ∀ t, t ≤ n → -9999 ≤ (f t).toInt ∧ (f t).toInt ≤ 9999) : EX6_sizes [.ref o] w (fun r w' => r = some (.int (nI (pAbs (toJ f) (n + 1)))) ∧ w' = w) := by
  refine EP.of (plainFor_of_name (by decide)) [(0, .ref o)] rfl (Nat.le_of_ble_eq_true rfl) (fun r wf h => by obtain ⟨rfl, -⟩ := h; trivial) ?_
  show BX6_sizes w _ w 0 [(0, .ref o)] []
  refine g_iconst (pc := 0) (v := nI 0) dX6_sizes_0 (by decide) ?_
  refine g_istore_n (pc := 1) [(1, .int (nI 0)), (0, .ref o)] dX6_sizes_1 rfl (by decide) rfl ?_
  refine g_iconst (pc := 2) (v := nI 0) dX6_sizes_2 (by decide) ?_
  refine g_istore_n (pc := 3) [(2, .int (nI 0)), (1, .int (nI 0)), (0, .ref o)] dX6_sizes_3 rfl (by decide) rfl ?_
  exact GP.lsub _ (by intro x hx; exact hx) (sz_loop ho hb hn hf (n + 1) 0 (by omega))
abbrev BX6_greatestSize (w0 : Wd) (Post : Option Value → Wd → Prop) (w : Wd) (pc : Nat) (ls : List (Nat × Value)) (st : List Value) : Prop := GP "greatestSize" RX6 cX6_greatestSize 3 (some .int) 1 39 none w0 Post w pc ls st
abbrev EX6_greatestSize (As : List Value) (w : Wd) (Post : Option Value → Wd → Prop) : Prop := EP yX6_greatestSize cX6_greatestSize 3 (some .int) 1 As w Post
theorem gz_loop {w0 w : Wd} {o b n : Nat} {f : Nat → Int32} (ho : w[o]? = some (oP n b)) (hb : w[b]? = some (aI 0 (n + 1) f)) (hn : n ≤ 12) (hf : ∀ t, t ≤ n → -9999 ≤ (f t).toInt ∧ (f t).toInt ≤ 9999) : ∀ (k i : Nat), n + 1 = i + k → BX6_greatestSize w0 (fun r w' => r = some (.int (nI (pMax (toJ f) (n + 1)))) ∧ w' = w) w 4 [(2, .int (nI i)), (1, .int (nI (pMax (toJ f) i))), (0, .ref o)] [] := by
  intro k
  induction k with
  | zero =>
    intro i hi
    refine g_iload_n (pc := 4) 0 dX6_greatestSize_4 rfl rfl ?_
    refine g_aload_n (pc := 5) 2 dX6_greatestSize_5 rfl rfl ?_
    refine g_get (pc := 6) dX6_greatestSize_6 fk_X6_18 ho rfl ?_
    refine n_icmp_gt (pc := 9) 32 dX6_greatestSize_9 (by decide) (by omega) (by omega) (fun hz => ?_) (fun hz => ?_)
    · refine g_iload_n (pc := 32) 1 dX6_greatestSize_32 rfl rfl ?_
      exact g_iret (pc := 33) dX6_greatestSize_33 ⟨by rw [show n + 1 = i by omega], rfl⟩
    · exact absurd hz (by omega)
  | succ k ih =>
    intro i hi
    refine g_iload_n (pc := 4) 0 dX6_greatestSize_4 rfl rfl ?_
    refine g_aload_n (pc := 5) 2 dX6_greatestSize_5 rfl rfl ?_
    refine g_get (pc := 6) dX6_greatestSize_6 fk_X6_18 ho rfl ?_
    refine n_icmp_gt (pc := 9) 32 dX6_greatestSize_9 (by decide) (by omega) (by omega) (fun hz => ?_) (fun hz => ?_)
    · exact absurd hz (by omega)
    · have hfi := hf i (by omega)
      refine g_iload_n (pc := 12) 1 dX6_greatestSize_12 rfl rfl ?_
      refine g_aload_n (pc := 13) 2 dX6_greatestSize_13 rfl rfl ?_
      refine g_get (pc := 14) dX6_greatestSize_14 fk_X6_24 ho rfl ?_
      refine g_iload_n (pc := 17) 0 dX6_greatestSize_17 rfl rfl ?_
      refine g_iald (pc := 18) i dX6_greatestSize_18 hb (IXn (by omega) (by omega)) ?_
      refine g_callS (pc := 19) [.int (f i)] dX6_greatestSize_19 cs_X6_42.1 cs_X6_42.2 rfl rfl (Nat.le_of_ble_eq_true rfl) (by decide) (by decide) (sp_absI _ (f i)) ?_
      rintro _ w9 ⟨rfl, e9⟩
      refine GP.weq _ e9 ?_
      refine GP.ti (nI (toJ f i).natAbs) (abs_nI (by omega)) ?_
      have hm := pMax_lt (F := toJ f) (c := 9999) (fun t ht => nab (hf t ht)) i (by omega)
      have hm2 : (toJ f i).natAbs ≤ 9999 := nab hfi
      refine g_callS (pc := 22) [.int (nI (pMax (toJ f) i)), .int (nI (toJ f i).natAbs)] dX6_greatestSize_22 cs_X6_15.1 cs_X6_15.2 rfl rfl (Nat.le_of_ble_eq_true rfl) (by decide) (by decide) (sp_maxI _ (nI (pMax (toJ f) i)) (nI (toJ f i).natAbs)) ?_
      rintro _ w9 ⟨rfl, e9⟩
      refine GP.weq _ e9 ?_
      refine GP.ti (nI (max (pMax (toJ f) i) (toJ f i).natAbs)) (maxN (by omega) (by omega)) ?_
      refine g_istore_n (pc := 25) [(1, .int (nI (max (pMax (toJ f) i) (toJ f i).natAbs))), (2, .int (nI i)), (0, .ref o)] dX6_greatestSize_25 rfl (by decide) rfl ?_
      refine n_iinc (pc := 26) (c := 1) [(2, .int (nI (i + 1))), (1, .int (nI (max (pMax (toJ f) i) (toJ f i).natAbs))), (0, .ref o)] 1 dX6_greatestSize_26 rfl (by decide) (by decide) rfl ?_
      refine g_goto (pc := 29) 4 dX6_greatestSize_29 (by decide) ?_
      exact GP.lsub _ (by intro x hx; exact hx) (ih (i + 1) (by omega))
theorem sp_greatestSize (w : Wd) {o b n : Nat} {f : Nat → Int32} (ho : w[o]? = some (oP n b)) (hb : w[b]? = some (aI 0 (n + 1) f)) (hn : n ≤ 12) (hf : ∀ t, t ≤ n → -9999 ≤ (f t).toInt ∧ (f t).toInt ≤ 9999) : EX6_greatestSize [.ref o] w (fun r w' => r = some (.int (nI (pMax (toJ f) (n + 1)))) ∧ w' = w) := by
  refine EP.of (plainFor_of_name (by decide)) [(0, .ref o)] rfl (Nat.le_of_ble_eq_true rfl) (fun r wf h => by obtain ⟨rfl, -⟩ := h; trivial) ?_
  show BX6_greatestSize w _ w 0 [(0, .ref o)] []
  refine g_iconst (pc := 0) (v := nI 0) dX6_greatestSize_0 (by decide) ?_
  refine g_istore_n (pc := 1) [(1, .int (nI 0)), (0, .ref o)] dX6_greatestSize_1 rfl (by decide) rfl ?_
  refine g_iconst (pc := 2) (v := nI 0) dX6_greatestSize_2 (by decide) ?_
  refine g_istore_n (pc := 3) [(2, .int (nI 0)), (1, .int (nI 0)), (0, .ref o)] dX6_greatestSize_3 rfl (by decide) rfl ?_
  exact GP.lsub _ (by intro x hx; exact hx) (gz_loop ho hb hn hf (n + 1) 0 (by omega))
abbrev BX6_squares (w0 : Wd) (Post : Option Value → Wd → Prop) (w : Wd) (pc : Nat) (ls : List (Nat × Value)) (st : List Value) : Prop := GP "squares" RX6 cX6_squares 3 (some .int) 0 0 none w0 Post w pc ls st
abbrev EX6_squares (As : List Value) (w : Wd) (Post : Option Value → Wd → Prop) : Prop := EP yX6_squares cX6_squares 3 (some .int) 0 As w Post
theorem sq_loop {w0 w : Wd} {o b n : Nat} {f : Nat → Int32} (ho : w[o]? = some (oP n b)) (hb : w[b]? = some (aI 0 (n + 1) f)) (hn : n ≤ 12) (hf : ∀ t, t ≤ n → -9999 ≤ (f t).toInt ∧ (f t).toInt ≤ 9999) : ∀ (k i : Nat), n + 1 = i + k → BX6_squares w0 (fun r w' => r = some (.int (nI (pSqr (toJ f) (n + 1)))) ∧ w' = w) w 4 [(2, .int (nI i)), (1, .int (nI (pSqr (toJ f) i))), (0, .ref o)] [] := by
  intro k
  induction k with
  | zero =>
    intro i hi
    refine g_iload_n (pc := 4) 0 dX6_squares_4 rfl rfl ?_
    refine g_aload_n (pc := 5) 2 dX6_squares_5 rfl rfl ?_
    refine g_get (pc := 6) dX6_squares_6 fk_X6_18 ho rfl ?_
    refine n_icmp_gt (pc := 9) 34 dX6_squares_9 (by decide) (by omega) (by omega) (fun hz => ?_) (fun hz => ?_)
    · refine g_iload_n (pc := 34) 1 dX6_squares_34 rfl rfl ?_
      exact g_iret (pc := 35) dX6_squares_35 ⟨by rw [show n + 1 = i by omega], rfl⟩
    · exact absurd hz (by omega)
  | succ k ih =>
    intro i hi
    refine g_iload_n (pc := 4) 0 dX6_squares_4 rfl rfl ?_
    refine g_aload_n (pc := 5) 2 dX6_squares_5 rfl rfl ?_
    refine g_get (pc := 6) dX6_squares_6 fk_X6_18 ho rfl ?_
    refine n_icmp_gt (pc := 9) 34 dX6_squares_9 (by decide) (by omega) (by omega) (fun hz => ?_) (fun hz => ?_)
    · exact absurd hz (by omega)
    · have hfi := hf i (by omega)
      refine g_iload_n (pc := 12) 1 dX6_squares_12 rfl rfl ?_
      refine g_aload_n (pc := 13) 2 dX6_squares_13 rfl rfl ?_
      refine g_get (pc := 14) dX6_squares_14 fk_X6_24 ho rfl ?_
      refine g_iload_n (pc := 17) 0 dX6_squares_17 rfl rfl ?_
      refine g_iald (pc := 18) i dX6_squares_18 hb (IXn (by omega) (by omega)) ?_
      refine g_aload_n (pc := 19) 2 dX6_squares_19 rfl rfl ?_
      refine g_get (pc := 20) dX6_squares_20 fk_X6_24 ho rfl ?_
      refine g_iload_n (pc := 23) 0 dX6_squares_23 rfl rfl ?_
      refine g_iald (pc := 24) i dX6_squares_24 hb (IXn (by omega) (by omega)) ?_
      refine g_imul (pc := 25) dX6_squares_25 ?_
      refine GP.ti (nI ((toJ f i).natAbs * (toJ f i).natAbs)) (sqr_nI (by omega)) ?_
      refine n_iadd (pc := 26) dX6_squares_26 ?_
      refine g_istore_n (pc := 27) [(1, .int (nI ((pSqr (toJ f) i) + ((toJ f i).natAbs * (toJ f i).natAbs)))), (2, .int (nI i)), (0, .ref o)] dX6_squares_27 rfl (by decide) rfl ?_
      refine n_iinc (pc := 28) (c := 1) [(2, .int (nI (i + 1))), (1, .int (nI ((pSqr (toJ f) i) + ((toJ f i).natAbs * (toJ f i).natAbs)))), (0, .ref o)] 1 dX6_squares_28 rfl (by decide) (by decide) rfl ?_
      refine g_goto (pc := 31) 4 dX6_squares_31 (by decide) ?_
      exact GP.lsub _ (by intro x hx; exact hx) (ih (i + 1) (by omega))
theorem sp_squares (w : Wd) {o b n : Nat} {f : Nat → Int32} (ho : w[o]? = some (oP n b)) (hb : w[b]? = some (aI 0 (n + 1) f)) (hn : n ≤ 12) (hf : ∀ t, t ≤ n → -9999 ≤ (f t).toInt ∧ (f t).toInt ≤ 9999) : EX6_squares [.ref o] w (fun r w' => r = some (.int (nI (pSqr (toJ f) (n + 1)))) ∧ w' = w) := by
  refine EP.of (plainFor_of_name (by decide)) [(0, .ref o)] rfl (Nat.le_of_ble_eq_true rfl) (fun r wf h => by obtain ⟨rfl, -⟩ := h; trivial) ?_
  show BX6_squares w _ w 0 [(0, .ref o)] []
  refine g_iconst (pc := 0) (v := nI 0) dX6_squares_0 (by decide) ?_
  refine g_istore_n (pc := 1) [(1, .int (nI 0)), (0, .ref o)] dX6_squares_1 rfl (by decide) rfl ?_
  refine g_iconst (pc := 2) (v := nI 0) dX6_squares_2 (by decide) ?_
  refine g_istore_n (pc := 3) [(2, .int (nI 0)), (1, .int (nI 0)), (0, .ref o)] dX6_squares_3 rfl (by decide) rfl ?_
  exact GP.lsub _ (by intro x hx; exact hx) (sq_loop ho hb hn hf (n + 1) 0 (by omega))
abbrev BX6_terms (w0 : Wd) (Post : Option Value → Wd → Prop) (w : Wd) (pc : Nat) (ls : List (Nat × Value)) (st : List Value) : Prop := GP "terms" RX6 cX6_terms 3 (some .int) 0 0 none w0 Post w pc ls st
abbrev EX6_terms (As : List Value) (w : Wd) (Post : Option Value → Wd → Prop) : Prop := EP yX6_terms cX6_terms 3 (some .int) 0 As w Post
theorem tm_loop {w0 w : Wd} {o b n : Nat} {f : Nat → Int32} (ho : w[o]? = some (oP n b)) (hb : w[b]? = some (aI 0 (n + 1) f)) (hn : n ≤ 12) (hf : ∀ t, t ≤ n → -9999 ≤ (f t).toInt ∧ (f t).toInt ≤ 9999) : ∀ (k i : Nat), n + 1 = i + k → BX6_terms w0 (fun r w' => r = some (.int (nI (pMany (toJ f) (n + 1)))) ∧ w' = w) w 4 [(2, .int (nI i)), (1, .int (nI (pMany (toJ f) i))), (0, .ref o)] [] := by
  intro k
  induction k with
  | zero =>
    intro i hi
    refine g_iload_n (pc := 4) 0 dX6_terms_4 rfl rfl ?_
    refine g_aload_n (pc := 5) 2 dX6_terms_5 rfl rfl ?_
    refine g_get (pc := 6) dX6_terms_6 fk_X6_18 ho rfl ?_
    refine n_icmp_gt (pc := 9) 35 dX6_terms_9 (by decide) (by omega) (by omega) (fun hz => ?_) (fun hz => ?_)
    · refine g_iload_n (pc := 35) 1 dX6_terms_35 rfl rfl ?_
      exact g_iret (pc := 36) dX6_terms_36 ⟨by rw [show n + 1 = i by omega], rfl⟩
    · exact absurd hz (by omega)
  | succ k ih =>
    intro i hi
    refine g_iload_n (pc := 4) 0 dX6_terms_4 rfl rfl ?_
    refine g_aload_n (pc := 5) 2 dX6_terms_5 rfl rfl ?_
    refine g_get (pc := 6) dX6_terms_6 fk_X6_18 ho rfl ?_
    refine n_icmp_gt (pc := 9) 35 dX6_terms_9 (by decide) (by omega) (by omega) (fun hz => ?_) (fun hz => ?_)
    · exact absurd hz (by omega)
    · have hfi := hf i (by omega)
      refine g_iload_n (pc := 12) 1 dX6_terms_12 rfl rfl ?_
      refine g_aload_n (pc := 13) 2 dX6_terms_13 rfl rfl ?_
      refine g_get (pc := 14) dX6_terms_14 fk_X6_24 ho rfl ?_
      refine g_iload_n (pc := 17) 0 dX6_terms_17 rfl rfl ?_
      refine g_iald (pc := 18) i dX6_terms_18 hb (IXn (by omega) (by omega)) ?_
      refine g_if_ne (pc := 19) 26 dX6_terms_19 (by decide) (fun hne => ?_) (fun hne => ?_)
      · refine g_iconst (pc := 26) (v := nI 1) dX6_terms_26 (by decide) ?_
        refine n_iadd (pc := 27) dX6_terms_27 ?_
        refine g_istore_n (pc := 28) [(1, .int (nI ((pMany (toJ f) i) + 1))), (2, .int (nI i)), (0, .ref o)] dX6_terms_28 rfl (by decide) rfl ?_
        refine n_iinc (pc := 29) (c := 1) [(2, .int (nI (i + 1))), (1, .int (nI ((pMany (toJ f) i) + 1))), (0, .ref o)] 1 dX6_terms_29 rfl (by decide) (by decide) rfl ?_
        refine g_goto (pc := 32) 4 dX6_terms_32 (by decide) ?_
        refine GP.lsub _ (by intro x hx; exact hx) ?_
        have h9 := ih (i + 1) (by omega)
        rw [show pMany (toJ f) (i + 1) = pMany (toJ f) i + (if (f i).toInt = 0 then 0 else 1) from rfl, if_neg (fun g => hne (I0.mp g))] at h9
        exact h9
      · refine g_iconst (pc := 22) (v := nI 0) dX6_terms_22 (by decide) ?_
        refine g_goto (pc := 23) 27 dX6_terms_23 (by decide) ?_
        refine n_iadd (pc := 27) dX6_terms_27 ?_
        refine g_istore_n (pc := 28) [(1, .int (nI ((pMany (toJ f) i) + 0))), (2, .int (nI i)), (0, .ref o)] dX6_terms_28 rfl (by decide) rfl ?_
        refine n_iinc (pc := 29) (c := 1) [(2, .int (nI (i + 1))), (1, .int (nI ((pMany (toJ f) i) + 0))), (0, .ref o)] 1 dX6_terms_29 rfl (by decide) (by decide) rfl ?_
        refine g_goto (pc := 32) 4 dX6_terms_32 (by decide) ?_
        refine GP.lsub _ (by intro x hx; exact hx) ?_
        have h9 := ih (i + 1) (by omega)
        rw [show pMany (toJ f) (i + 1) = pMany (toJ f) i + (if (f i).toInt = 0 then 0 else 1) from rfl, if_pos (I0.mpr (Classical.not_not.mp hne))] at h9
        exact h9
theorem sp_terms (w : Wd) {o b n : Nat} {f : Nat → Int32} (ho : w[o]? = some (oP n b)) (hb : w[b]? = some (aI 0 (n + 1) f)) (hn : n ≤ 12) (hf : ∀ t, t ≤ n → -9999 ≤ (f t).toInt ∧ (f t).toInt ≤ 9999) : EX6_terms [.ref o] w (fun r w' => r = some (.int (nI (pMany (toJ f) (n + 1)))) ∧ w' = w) := by
  refine EP.of (plainFor_of_name (by decide)) [(0, .ref o)] rfl (Nat.le_of_ble_eq_true rfl) (fun r wf h => by obtain ⟨rfl, -⟩ := h; trivial) ?_
  show BX6_terms w _ w 0 [(0, .ref o)] []
  refine g_iconst (pc := 0) (v := nI 0) dX6_terms_0 (by decide) ?_
  refine g_istore_n (pc := 1) [(1, .int (nI 0)), (0, .ref o)] dX6_terms_1 rfl (by decide) rfl ?_
  refine g_iconst (pc := 2) (v := nI 0) dX6_terms_2 (by decide) ?_
  refine g_istore_n (pc := 3) [(2, .int (nI 0)), (1, .int (nI 0)), (0, .ref o)] dX6_terms_3 rfl (by decide) rfl ?_
  exact GP.lsub _ (by intro x hx; exact hx) (tm_loop ho hb hn hf (n + 1) 0 (by omega))
abbrev BX6_commonOf (w0 : Wd) (Post : Option Value → Wd → Prop) (w : Wd) (pc : Nat) (ls : List (Nat × Value)) (st : List Value) : Prop := GP "commonOf" RX6 cX6_commonOf 6 (some .int) 0 0 none w0 Post w pc ls st
abbrev EX6_commonOf (As : List Value) (w : Wd) (Post : Option Value → Wd → Prop) : Prop := EP yX6_commonOf cX6_commonOf 6 (some .int) 0 As w Post
theorem co_loop {w0 w : Wd} {G : Nat} : ∀ (k i c r : Nat), 64 = i + k → c < 2147483648 → r < c → c * r < 2 ^ k → Nat.gcd c r = G → BX6_commonOf w0 (fun z w' => z = some (.int (nI G)) ∧ w' = w) w 7 [(4, .int (nI i)), (3, .int (nI r)), (2, .int (nI c))] [] := by
  intro k
  induction k with
  | zero =>
    intro i c r hi hc hr hp hg
    have r0 : r = 0 := by
      rcases Nat.eq_zero_or_pos r with h | h
      · exact h
      · have := Nat.mul_pos (show 0 < c by omega) h
        omega
    subst r0
    rw [Nat.gcd_zero_right] at hg
    subst hg
    refine g_iload (pc := 7) 0 dX6_commonOf_7 rfl ?_
    refine g_bipush (pc := 9) (v := nI 64) dX6_commonOf_9 (by decide) ?_
    refine n_icmp_ge (pc := 11) 34 dX6_commonOf_11 (by decide) (by omega) (by omega) (fun hz => ?_) (fun hz => ?_)
    · refine g_iload_n (pc := 34) 2 dX6_commonOf_34 rfl rfl ?_
      exact g_iret (pc := 35) dX6_commonOf_35 ⟨rfl, rfl⟩
    · exact absurd hz (by omega)
  | succ k ih =>
    intro i c r hi hc hr hp hg
    refine g_iload (pc := 7) 0 dX6_commonOf_7 rfl ?_
    refine g_bipush (pc := 9) (v := nI 64) dX6_commonOf_9 (by decide) ?_
    refine n_icmp_ge (pc := 11) 34 dX6_commonOf_11 (by decide) (by omega) (by omega) (fun hz => ?_) (fun hz => ?_)
    · exact absurd hz (by omega)
    · refine g_iload_n (pc := 14) 1 dX6_commonOf_14 rfl rfl ?_
      refine n_if_eq (pc := 15) 34 dX6_commonOf_15 (by decide) (by omega) (fun h0 => ?_) (fun h0 => ?_)
      · subst h0
        rw [Nat.gcd_zero_right] at hg
        subst hg
        refine g_iload_n (pc := 34) 2 dX6_commonOf_34 rfl rfl ?_
        exact g_iret (pc := 35) dX6_commonOf_35 ⟨rfl, rfl⟩
      · refine g_iload_n (pc := 18) 2 dX6_commonOf_18 rfl rfl ?_
        refine g_iload_n (pc := 19) 1 dX6_commonOf_19 rfl rfl ?_
        refine n_irem (pc := 20) dX6_commonOf_20 (by omega) (by omega) (by omega) ?_
        refine g_istore (pc := 21) [(5, .int (nI (c % r))), (4, .int (nI i)), (3, .int (nI r)), (2, .int (nI c))] dX6_commonOf_21 (by decide) rfl ?_
        refine g_iload_n (pc := 23) 2 dX6_commonOf_23 rfl rfl ?_
        refine g_istore_n (pc := 24) [(2, .int (nI r)), (5, .int (nI (c % r))), (4, .int (nI i)), (3, .int (nI r))] dX6_commonOf_24 rfl (by decide) rfl ?_
        refine g_iload (pc := 25) 1 dX6_commonOf_25 rfl ?_
        refine g_istore_n (pc := 27) [(3, .int (nI (c % r))), (2, .int (nI r)), (5, .int (nI (c % r))), (4, .int (nI i))] dX6_commonOf_27 rfl (by decide) rfl ?_
        refine n_iinc (pc := 28) (c := 1) [(4, .int (nI (i + 1))), (3, .int (nI (c % r))), (2, .int (nI r)), (5, .int (nI (c % r)))] 3 dX6_commonOf_28 rfl (by decide) (by decide) rfl ?_
        refine g_goto (pc := 31) 7 dX6_commonOf_31 (by decide) ?_
        refine GP.lsub _ (by simp) (ih (i + 1) r (c % r) (by omega) (by omega) (Nat.mod_lt _ (by omega)) ?_ ?_)
        · have h1 : c % r + r ≤ c := by
            have h2 := Nat.div_add_mod c r
            have h3 : 1 ≤ c / r := (Nat.one_le_div_iff (by omega)).mpr (by omega)
            have h4 := Nat.mul_le_mul_left r h3
            omega
          have h5 := Nat.mod_lt c (show 0 < r by omega)
          have h6 : r * (2 * (c % r)) ≤ r * c := Nat.mul_le_mul_left r (by omega)
          rw [Nat.pow_succ] at hp
          have h7 : r * (2 * (c % r)) = 2 * (r * (c % r)) := by grind
          have h8 : c * r = r * c := Nat.mul_comm _ _
          omega
        · rw [← hg, Nat.gcd_comm c r, Nat.gcd_rec r c, Nat.gcd_comm]
theorem sp_commonOf (w : Wd) (x y : Nat) (hx : x ≤ 100000) (hy : y ≤ 100000) : EX6_commonOf [.int (nI x), .int (nI y)] w (fun r w' => r = some (.int (nI (Nat.gcd x y))) ∧ w' = w) := by
  refine EP.of (plainFor_of_name (by decide)) [(0, .int (nI x)), (1, .int (nI y))] rfl (Nat.le_of_ble_eq_true rfl) (fun r wf h => by obtain ⟨rfl, -⟩ := h; trivial) ?_
  show BX6_commonOf w _ w 0 [(0, .int (nI x)), (1, .int (nI y))] []
  refine g_iload_n (pc := 0) 0 dX6_commonOf_0 rfl rfl ?_
  refine g_istore_n (pc := 1) [(2, .int (nI x)), (0, .int (nI x)), (1, .int (nI y))] dX6_commonOf_1 rfl (by decide) rfl ?_
  refine g_iload_n (pc := 2) 2 dX6_commonOf_2 rfl rfl ?_
  refine g_istore_n (pc := 3) [(3, .int (nI y)), (2, .int (nI x)), (0, .int (nI x)), (1, .int (nI y))] dX6_commonOf_3 rfl (by decide) rfl ?_
  refine g_iconst (pc := 4) (v := nI 0) dX6_commonOf_4 (by decide) ?_
  refine g_istore (pc := 5) [(4, .int (nI 0)), (3, .int (nI y)), (2, .int (nI x)), (0, .int (nI x)), (1, .int (nI y))] dX6_commonOf_5 (by decide) rfl ?_
  refine g_iload (pc := 7) 0 dX6_commonOf_7 rfl ?_
  refine g_bipush (pc := 9) (v := nI 64) dX6_commonOf_9 (by decide) ?_
  refine n_icmp_ge (pc := 11) 34 dX6_commonOf_11 (by decide) (by omega) (by omega) (fun hz => ?_) (fun hz => ?_)
  · exact absurd hz (by decide)
  · refine g_iload_n (pc := 14) 1 dX6_commonOf_14 rfl rfl ?_
    refine n_if_eq (pc := 15) 34 dX6_commonOf_15 (by decide) (by omega) (fun h0 => ?_) (fun h0 => ?_)
    · subst h0
      refine g_iload_n (pc := 34) 2 dX6_commonOf_34 rfl rfl ?_
      exact g_iret (pc := 35) dX6_commonOf_35 ⟨by rw [Nat.gcd_zero_right], rfl⟩
    · refine g_iload_n (pc := 18) 2 dX6_commonOf_18 rfl rfl ?_
      refine g_iload_n (pc := 19) 1 dX6_commonOf_19 rfl rfl ?_
      refine n_irem (pc := 20) dX6_commonOf_20 (by omega) (by omega) (by omega) ?_
      refine g_istore (pc := 21) [(5, .int (nI (x % y))), (4, .int (nI 0)), (3, .int (nI y)), (2, .int (nI x)), (0, .int (nI x)), (1, .int (nI y))] dX6_commonOf_21 (by decide) rfl ?_
      refine g_iload_n (pc := 23) 2 dX6_commonOf_23 rfl rfl ?_
      refine g_istore_n (pc := 24) [(2, .int (nI y)), (5, .int (nI (x % y))), (4, .int (nI 0)), (3, .int (nI y)), (0, .int (nI x)), (1, .int (nI y))] dX6_commonOf_24 rfl (by decide) rfl ?_
      refine g_iload (pc := 25) 1 dX6_commonOf_25 rfl ?_
      refine g_istore_n (pc := 27) [(3, .int (nI (x % y))), (2, .int (nI y)), (5, .int (nI (x % y))), (4, .int (nI 0)), (0, .int (nI x)), (1, .int (nI y))] dX6_commonOf_27 rfl (by decide) rfl ?_
      refine n_iinc (pc := 28) (c := 1) [(4, .int (nI (0 + 1))), (3, .int (nI (x % y))), (2, .int (nI y)), (5, .int (nI (x % y))), (0, .int (nI x)), (1, .int (nI y))] 3 dX6_commonOf_28 rfl (by decide) (by decide) rfl ?_
      refine g_goto (pc := 31) 7 dX6_commonOf_31 (by decide) ?_
      refine GP.lsub _ (by simp) (co_loop 63 1 y (x % y) (by omega) (by omega) (Nat.mod_lt _ (by omega)) ?_ ?_)
      · have h1 := Nat.mod_lt x (show 0 < y by omega)
        have h2 : y * (x % y) ≤ 100000 * 100000 := Nat.mul_le_mul (by omega) (by omega)
        exact Nat.lt_of_le_of_lt h2 (by decide)
      · rw [Nat.gcd_comm x y, Nat.gcd_rec y x, Nat.gcd_comm]
abbrev BX6_commonDivisor (w0 : Wd) (Post : Option Value → Wd → Prop) (w : Wd) (pc : Nat) (ls : List (Nat × Value)) (st : List Value) : Prop := GP "commonDivisor" RX6 cX6_commonDivisor 3 (some .int) 1 39 none w0 Post w pc ls st
abbrev EX6_commonDivisor (As : List Value) (w : Wd) (Post : Option Value → Wd → Prop) : Prop := EP yX6_commonDivisor cX6_commonDivisor 3 (some .int) 1 As w Post
theorem cd_loop {w0 w : Wd} {o b n : Nat} {f : Nat → Int32} (ho : w[o]? = some (oP n b)) (hb : w[b]? = some (aI 0 (n + 1) f)) (hn : n ≤ 12) (hf : ∀ t, t ≤ n → -9999 ≤ (f t).toInt ∧ (f t).toInt ≤ 9999) : ∀ (k i : Nat), n + 1 = i + k → BX6_commonDivisor w0 (fun r w' => r = some (.int (nI (pGcd (toJ f) (n + 1)))) ∧ w' = w) w 4 [(2, .int (nI i)), (1, .int (nI (pGcd (toJ f) i))), (0, .ref o)] [] := by
  intro k
  induction k with
  | zero =>
    intro i hi
    refine g_iload_n (pc := 4) 0 dX6_commonDivisor_4 rfl rfl ?_
    refine g_aload_n (pc := 5) 2 dX6_commonDivisor_5 rfl rfl ?_
    refine g_get (pc := 6) dX6_commonDivisor_6 fk_X6_18 ho rfl ?_
    refine n_icmp_gt (pc := 9) 32 dX6_commonDivisor_9 (by decide) (by omega) (by omega) (fun hz => ?_) (fun hz => ?_)
    · refine g_iload_n (pc := 32) 1 dX6_commonDivisor_32 rfl rfl ?_
      exact g_iret (pc := 33) dX6_commonDivisor_33 ⟨by rw [show n + 1 = i by omega], rfl⟩
    · exact absurd hz (by omega)
  | succ k ih =>
    intro i hi
    refine g_iload_n (pc := 4) 0 dX6_commonDivisor_4 rfl rfl ?_
    refine g_aload_n (pc := 5) 2 dX6_commonDivisor_5 rfl rfl ?_
    refine g_get (pc := 6) dX6_commonDivisor_6 fk_X6_18 ho rfl ?_
    refine n_icmp_gt (pc := 9) 32 dX6_commonDivisor_9 (by decide) (by omega) (by omega) (fun hz => ?_) (fun hz => ?_)
    · exact absurd hz (by omega)
    · have hfi := hf i (by omega)
      refine g_iload_n (pc := 12) 1 dX6_commonDivisor_12 rfl rfl ?_
      refine g_aload_n (pc := 13) 2 dX6_commonDivisor_13 rfl rfl ?_
      refine g_get (pc := 14) dX6_commonDivisor_14 fk_X6_24 ho rfl ?_
      refine g_iload_n (pc := 17) 0 dX6_commonDivisor_17 rfl rfl ?_
      refine g_iald (pc := 18) i dX6_commonDivisor_18 hb (IXn (by omega) (by omega)) ?_
      refine g_callS (pc := 19) [.int (f i)] dX6_commonDivisor_19 cs_X6_42.1 cs_X6_42.2 rfl rfl (Nat.le_of_ble_eq_true rfl) (by decide) (by decide) (sp_absI _ (f i)) ?_
      rintro _ w9 ⟨rfl, e9⟩
      refine GP.weq _ e9 ?_
      refine GP.ti (nI (toJ f i).natAbs) (abs_nI (by omega)) ?_
      have hm := pGcd_lt (F := toJ f) (c := 9999) (fun t ht => nab (hf t ht)) i (by omega)
      have hm2 : (toJ f i).natAbs ≤ 9999 := nab hfi
      refine g_callS (pc := 22) [.int (nI (pGcd (toJ f) i)), .int (nI (toJ f i).natAbs)] dX6_commonDivisor_22 cs_X6_46.1 cs_X6_46.2 rfl rfl (Nat.le_of_ble_eq_true rfl) (by decide) (by decide) (sp_commonOf _ (pGcd (toJ f) i) (toJ f i).natAbs (by omega) (by omega)) ?_
      rintro _ w9 ⟨rfl, e9⟩
      refine GP.weq _ e9 ?_
      refine g_istore_n (pc := 25) [(1, .int (nI (Nat.gcd (pGcd (toJ f) i) (toJ f i).natAbs))), (2, .int (nI i)), (0, .ref o)] dX6_commonDivisor_25 rfl (by decide) rfl ?_
      refine n_iinc (pc := 26) (c := 1) [(2, .int (nI (i + 1))), (1, .int (nI (Nat.gcd (pGcd (toJ f) i) (toJ f i).natAbs))), (0, .ref o)] 1 dX6_commonDivisor_26 rfl (by decide) (by decide) rfl ?_
      refine g_goto (pc := 29) 4 dX6_commonDivisor_29 (by decide) ?_
      exact GP.lsub _ (by intro x hx; exact hx) (ih (i + 1) (by omega))
theorem sp_commonDivisor (w : Wd) {o b n : Nat} {f : Nat → Int32} (ho : w[o]? = some (oP n b)) (hb : w[b]? = some (aI 0 (n + 1) f)) (hn : n ≤ 12) (hf : ∀ t, t ≤ n → -9999 ≤ (f t).toInt ∧ (f t).toInt ≤ 9999) : EX6_commonDivisor [.ref o] w (fun r w' => r = some (.int (nI (pGcd (toJ f) (n + 1)))) ∧ w' = w) := by
  refine EP.of (plainFor_of_name (by decide)) [(0, .ref o)] rfl (Nat.le_of_ble_eq_true rfl) (fun r wf h => by obtain ⟨rfl, -⟩ := h; trivial) ?_
  show BX6_commonDivisor w _ w 0 [(0, .ref o)] []
  refine g_iconst (pc := 0) (v := nI 0) dX6_commonDivisor_0 (by decide) ?_
  refine g_istore_n (pc := 1) [(1, .int (nI 0)), (0, .ref o)] dX6_commonDivisor_1 rfl (by decide) rfl ?_
  refine g_iconst (pc := 2) (v := nI 0) dX6_commonDivisor_2 (by decide) ?_
  refine g_istore_n (pc := 3) [(2, .int (nI 0)), (1, .int (nI 0)), (0, .ref o)] dX6_commonDivisor_3 rfl (by decide) rfl ?_
  exact GP.lsub _ (by intro x hx; exact hx) (cd_loop ho hb hn hf (n + 1) 0 (by omega))
abbrev BX6_isReciprocal (w0 : Wd) (Post : Option Value → Wd → Prop) (w : Wd) (pc : Nat) (ls : List (Nat × Value)) (st : List Value) : Prop := GP "isReciprocal" RX6 cX6_isReciprocal 2 (some .boolean) 0 0 none w0 Post w pc ls st
abbrev EX6_isReciprocal (As : List Value) (w : Wd) (Post : Option Value → Wd → Prop) : Prop := EP yX6_isReciprocal cX6_isReciprocal 2 (some .boolean) 0 As w Post
theorem ir_loop {w0 w : Wd} {o b n : Nat} {f : Nat → Int32} (ho : w[o]? = some (oP n b)) (hb : w[b]? = some (aI 0 (n + 1) f)) (hn : n ≤ 12) (hf : ∀ t, t ≤ n → -9999 ≤ (f t).toInt ∧ (f t).toInt ≤ 9999) : ∀ (k i : Nat), n + 1 = i + k → (∀ t, t < i → toJ f t = toJ f (n - t)) → BX6_isReciprocal w0 (fun r w' => (r = some (.int (nI 1)) ∧ (∀ t, t ≤ n → toJ f t = toJ f (n - t)) ∧ w' = w) ∨ (r = some (.int (nI 0)) ∧ ¬ ((∀ t, t ≤ n → toJ f t = toJ f (n - t))) ∧ w' = w)) w 2 [(1, .int (nI i)), (0, .ref o)] [] := by
  intro k
  induction k with
  | zero =>
    intro i hi h
    refine g_iload_n (pc := 2) 0 dX6_isReciprocal_2 rfl rfl ?_
    refine g_aload_n (pc := 3) 1 dX6_isReciprocal_3 rfl rfl ?_
    refine g_get (pc := 4) dX6_isReciprocal_4 fk_X6_18 ho rfl ?_
    refine n_icmp_gt (pc := 7) 38 dX6_isReciprocal_7 (by decide) (by omega) (by omega) (fun hz => ?_) (fun hz => ?_)
    · refine g_iconst (pc := 38) (v := nI 1) dX6_isReciprocal_38 (by decide) ?_
      exact g_iret (pc := 39) dX6_isReciprocal_39 (Or.inl ⟨rfl, fun t ht => h t (by omega), rfl⟩)
    · exact absurd hz (by omega)
  | succ k ih =>
    intro i hi h
    refine g_iload_n (pc := 2) 0 dX6_isReciprocal_2 rfl rfl ?_
    refine g_aload_n (pc := 3) 1 dX6_isReciprocal_3 rfl rfl ?_
    refine g_get (pc := 4) dX6_isReciprocal_4 fk_X6_18 ho rfl ?_
    refine n_icmp_gt (pc := 7) 38 dX6_isReciprocal_7 (by decide) (by omega) (by omega) (fun hz => ?_) (fun hz => ?_)
    · exact absurd hz (by omega)
    · refine g_aload_n (pc := 10) 1 dX6_isReciprocal_10 rfl rfl ?_
      refine g_get (pc := 11) dX6_isReciprocal_11 fk_X6_24 ho rfl ?_
      refine g_iload_n (pc := 14) 0 dX6_isReciprocal_14 rfl rfl ?_
      refine g_iald (pc := 15) i dX6_isReciprocal_15 hb (IXn (by omega) (by omega)) ?_
      refine g_aload_n (pc := 16) 1 dX6_isReciprocal_16 rfl rfl ?_
      refine g_get (pc := 17) dX6_isReciprocal_17 fk_X6_24 ho rfl ?_
      refine g_aload_n (pc := 20) 1 dX6_isReciprocal_20 rfl rfl ?_
      refine g_get (pc := 21) dX6_isReciprocal_21 fk_X6_18 ho rfl ?_
      refine g_iload_n (pc := 24) 0 dX6_isReciprocal_24 rfl rfl ?_
      refine n_isub (pc := 25) dX6_isReciprocal_25 (by omega) ?_
      refine g_iald (pc := 26) (n - i) dX6_isReciprocal_26 hb (IXn (by omega) (by omega)) ?_
      refine g_icmp_eq (pc := 27) 32 dX6_isReciprocal_27 (by decide) (fun he => ?_) (fun he => ?_)
      · refine n_iinc (pc := 32) (c := 1) [(1, .int (nI (i + 1))), (0, .ref o)] 0 dX6_isReciprocal_32 rfl (by decide) (by decide) rfl ?_
        refine g_goto (pc := 35) 2 dX6_isReciprocal_35 (by decide) ?_
        refine GP.lsub _ (by intro x hx; exact hx) (ih (i + 1) (by omega) (fun t ht => ?_))
        by_cases hti : t = i
        · subst hti; exact congrArg Int32.toInt he
        · exact h t (by omega)
      · refine g_iconst (pc := 30) (v := nI 0) dX6_isReciprocal_30 (by decide) ?_
        exact g_iret (pc := 31) dX6_isReciprocal_31 (Or.inr ⟨rfl, fun g => he (Int32.toInt_inj.mp (g i (by omega))), rfl⟩)
theorem sp_isReciprocal (w : Wd) {o b n : Nat} {f : Nat → Int32} (ho : w[o]? = some (oP n b)) (hb : w[b]? = some (aI 0 (n + 1) f)) (hn : n ≤ 12) (hf : ∀ t, t ≤ n → -9999 ≤ (f t).toInt ∧ (f t).toInt ≤ 9999) : EX6_isReciprocal [.ref o] w (fun r w' => (r = some (.int (nI 1)) ∧ (∀ t, t ≤ n → toJ f t = toJ f (n - t)) ∧ w' = w) ∨ (r = some (.int (nI 0)) ∧ ¬ ((∀ t, t ≤ n → toJ f t = toJ f (n - t))) ∧ w' = w)) := by
  refine EP.of (plainFor_of_name (by decide)) [(0, .ref o)] rfl (Nat.le_of_ble_eq_true rfl) (fun r wf h => by rcases h with ⟨rfl, -⟩ | ⟨rfl, -⟩; exact Or.inr rfl; exact Or.inl rfl) ?_
  show BX6_isReciprocal w _ w 0 [(0, .ref o)] []
  refine g_iconst (pc := 0) (v := nI 0) dX6_isReciprocal_0 (by decide) ?_
  refine g_istore_n (pc := 1) [(1, .int (nI 0)), (0, .ref o)] dX6_isReciprocal_1 rfl (by decide) rfl ?_
  exact GP.lsub _ (by intro x hx; exact hx) (ir_loop ho hb hn hf (n + 1) 0 (by omega) (fun t ht => absurd ht (by omega)))
abbrev BX6_signChanges (w0 : Wd) (Post : Option Value → Wd → Prop) (w : Wd) (pc : Nat) (ls : List (Nat × Value)) (st : List Value) : Prop := GP "signChanges" RX6 cX6_signChanges 4 (some .int) 0 0 none w0 Post w pc ls st
abbrev EX6_signChanges (As : List Value) (w : Wd) (Post : Option Value → Wd → Prop) : Prop := EP yX6_signChanges cX6_signChanges 4 (some .int) 0 As w Post
theorem sc_loop {w0 w : Wd} {o b n : Nat} {f : Nat → Int32} (ho : w[o]? = some (oP n b)) (hb : w[b]? = some (aI 0 (n + 1) f)) (hn : n ≤ 12) (hf : ∀ t, t ≤ n → -9999 ≤ (f t).toInt ∧ (f t).toInt ≤ 9999) : ∀ (k i : Nat) (l : Int32), n + 1 = i + k → l.toInt = pLast (toJ f) i → BX6_signChanges w0 (fun r w' => r = some (.int (nI (pTurn (toJ f) (n + 1)))) ∧ w' = w) w 6 [(3, .int (nI i)), (2, .int l), (1, .int (nI (pTurn (toJ f) i))), (0, .ref o)] [] := by
  intro k
  induction k with
  | zero =>
    intro i l hi h
    refine g_iload_n (pc := 6) 0 dX6_signChanges_6 rfl rfl ?_
    refine g_aload_n (pc := 7) 3 dX6_signChanges_7 rfl rfl ?_
    refine g_get (pc := 8) dX6_signChanges_8 fk_X6_18 ho rfl ?_
    refine n_icmp_gt (pc := 11) 74 dX6_signChanges_11 (by decide) (by omega) (by omega) (fun hz => ?_) (fun hz => ?_)
    · refine g_iload_n (pc := 74) 2 dX6_signChanges_74 rfl rfl ?_
      exact g_iret (pc := 75) dX6_signChanges_75 ⟨by rw [show n + 1 = i by omega], rfl⟩
    · exact absurd hz (by omega)
  | succ k ih =>
    intro i l hi h
    have el : (l ≤ 0) ↔ l.toInt ≤ 0 := Int32.le_iff_toInt_le
    have ef : (f i ≤ 0) ↔ (f i).toInt ≤ 0 := Int32.le_iff_toInt_le
    have l0 : l = 0 ↔ l.toInt = 0 := I0.symm
    have f0 : f i = 0 ↔ (f i).toInt = 0 := I0.symm
    have e1 : toJ f i = (f i).toInt := rfl
    have hl : pLast (toJ f) (i + 1) = if (f i).toInt = 0 then l.toInt else (f i).toInt := by rw [h]; rfl
    have ht : pTurn (toJ f) (i + 1) = pTurn (toJ f) i + if (0 < (f i).toInt ∧ l.toInt < 0) ∨ ((f i).toInt < 0 ∧ 0 < l.toInt) then 1 else 0 := by rw [h]; rfl
    refine g_iload_n (pc := 6) 0 dX6_signChanges_6 rfl rfl ?_
    refine g_aload_n (pc := 7) 3 dX6_signChanges_7 rfl rfl ?_
    refine g_get (pc := 8) dX6_signChanges_8 fk_X6_18 ho rfl ?_
    refine n_icmp_gt (pc := 11) 74 dX6_signChanges_11 (by decide) (by omega) (by omega) (fun hz => ?_) (fun hz => ?_)
    · exact absurd hz (by omega)
    · refine g_aload_n (pc := 14) 3 dX6_signChanges_14 rfl rfl ?_
      refine g_get (pc := 15) dX6_signChanges_15 fk_X6_24 ho rfl ?_
      refine g_iload_n (pc := 18) 0 dX6_signChanges_18 rfl rfl ?_
      refine g_iald (pc := 19) i dX6_signChanges_19 hb (IXn (by omega) (by omega)) ?_
      refine g_if_eq (pc := 20) 68 dX6_signChanges_20 (by decide) (fun h0 => ?_) (fun h0 => ?_)
      · rw [f0] at h0
        refine n_iinc (pc := 68) (c := 1) [(3, .int (nI (i + 1))), (2, .int l), (1, .int (nI (pTurn (toJ f) i))), (0, .ref o)] 0 dX6_signChanges_68 rfl (by decide) (by decide) rfl ?_
        refine g_goto (pc := 71) 6 dX6_signChanges_71 (by decide) ?_
        refine GP.lsub _ (by intro x hx; exact hx) ?_
        have h8 := ih (i + 1) l (by omega) (by rw [hl]; split <;> omega)
        rw [ht, if_neg (by omega)] at h8
        exact h8
      · rw [f0] at h0
        refine g_iload_n (pc := 23) 2 dX6_signChanges_23 rfl rfl ?_
        refine g_iload_n (pc := 24) 1 dX6_signChanges_24 rfl rfl ?_
        refine g_if_eq (pc := 25) 58 dX6_signChanges_25 (by decide) (fun h1 => ?_) (fun h1 => ?_)
        · rw [l0] at h1
          refine g_iconst (pc := 58) (v := nI 0) dX6_signChanges_58 (by decide) ?_
          refine n_iadd (pc := 59) dX6_signChanges_59 ?_
          refine g_istore_n (pc := 60) [(1, .int (nI ((pTurn (toJ f) i) + 0))), (3, .int (nI i)), (2, .int l), (0, .ref o)] dX6_signChanges_60 rfl (by decide) rfl ?_
          refine g_aload_n (pc := 61) 3 dX6_signChanges_61 rfl rfl ?_
          refine g_get (pc := 62) dX6_signChanges_62 fk_X6_24 ho rfl ?_
          refine g_iload_n (pc := 65) 1 dX6_signChanges_65 rfl rfl ?_
          refine g_iald (pc := 66) i dX6_signChanges_66 hb (IXn (by omega) (by omega)) ?_
          refine g_istore_n (pc := 67) [(2, .int (f i)), (1, .int (nI ((pTurn (toJ f) i) + 0))), (3, .int (nI i)), (0, .ref o)] dX6_signChanges_67 rfl (by decide) rfl ?_
          refine n_iinc (pc := 68) (c := 1) [(3, .int (nI (i + 1))), (2, .int (f i)), (1, .int (nI ((pTurn (toJ f) i) + 0))), (0, .ref o)] 2 dX6_signChanges_68 rfl (by decide) (by decide) rfl ?_
          refine g_goto (pc := 71) 6 dX6_signChanges_71 (by decide) ?_
          refine GP.lsub _ (by intro x hx; exact hx) ?_
          have h8 := ih (i + 1) (f i) (by omega) (by rw [hl]; split <;> omega)
          rw [ht, if_neg (by omega)] at h8
          exact h8
        · rw [l0] at h1
          refine g_iload_n (pc := 28) 1 dX6_signChanges_28 rfl rfl ?_
          refine g_if_le (pc := 29) 36 dX6_signChanges_29 (by decide) (fun h2 => ?_) (fun h2 => ?_)
          · rw [el] at h2
            refine g_iconst (pc := 36) (v := nI 0) dX6_signChanges_36 (by decide) ?_
            refine g_aload_n (pc := 37) 3 dX6_signChanges_37 rfl rfl ?_
            refine g_get (pc := 38) dX6_signChanges_38 fk_X6_24 ho rfl ?_
            refine g_iload_n (pc := 41) 0 dX6_signChanges_41 rfl rfl ?_
            refine g_iald (pc := 42) i dX6_signChanges_42 hb (IXn (by omega) (by omega)) ?_
            refine g_if_le (pc := 43) 50 dX6_signChanges_43 (by decide) (fun h3 => ?_) (fun h3 => ?_)
            · rw [ef] at h3
              refine g_iconst (pc := 50) (v := nI 0) dX6_signChanges_50 (by decide) ?_
              refine n_icmp_eq (pc := 51) 58 dX6_signChanges_51 (by decide) (by omega) (by omega) (fun h4 => ?_) (fun h4 => ?_)
              · refine g_iconst (pc := 58) (v := nI 0) dX6_signChanges_58 (by decide) ?_
                refine n_iadd (pc := 59) dX6_signChanges_59 ?_
                refine g_istore_n (pc := 60) [(1, .int (nI ((pTurn (toJ f) i) + 0))), (3, .int (nI i)), (2, .int l), (0, .ref o)] dX6_signChanges_60 rfl (by decide) rfl ?_
                refine g_aload_n (pc := 61) 3 dX6_signChanges_61 rfl rfl ?_
                refine g_get (pc := 62) dX6_signChanges_62 fk_X6_24 ho rfl ?_
                refine g_iload_n (pc := 65) 1 dX6_signChanges_65 rfl rfl ?_
                refine g_iald (pc := 66) i dX6_signChanges_66 hb (IXn (by omega) (by omega)) ?_
                refine g_istore_n (pc := 67) [(2, .int (f i)), (1, .int (nI ((pTurn (toJ f) i) + 0))), (3, .int (nI i)), (0, .ref o)] dX6_signChanges_67 rfl (by decide) rfl ?_
                refine n_iinc (pc := 68) (c := 1) [(3, .int (nI (i + 1))), (2, .int (f i)), (1, .int (nI ((pTurn (toJ f) i) + 0))), (0, .ref o)] 2 dX6_signChanges_68 rfl (by decide) (by decide) rfl ?_
                refine g_goto (pc := 71) 6 dX6_signChanges_71 (by decide) ?_
                refine GP.lsub _ (by intro x hx; exact hx) ?_
                have h8 := ih (i + 1) (f i) (by omega) (by rw [hl]; split <;> omega)
                rw [ht, if_neg (by omega)] at h8
                exact h8
              · exact absurd h4 (by decide)
            · rw [ef] at h3
              refine g_iconst (pc := 46) (v := nI 1) dX6_signChanges_46 (by decide) ?_
              refine g_goto (pc := 47) 51 dX6_signChanges_47 (by decide) ?_
              refine n_icmp_eq (pc := 51) 58 dX6_signChanges_51 (by decide) (by omega) (by omega) (fun h4 => ?_) (fun h4 => ?_)
              · exact absurd h4 (by decide)
              · refine g_iconst (pc := 54) (v := nI 1) dX6_signChanges_54 (by decide) ?_
                refine g_goto (pc := 55) 59 dX6_signChanges_55 (by decide) ?_
                refine n_iadd (pc := 59) dX6_signChanges_59 ?_
                refine g_istore_n (pc := 60) [(1, .int (nI ((pTurn (toJ f) i) + 1))), (3, .int (nI i)), (2, .int l), (0, .ref o)] dX6_signChanges_60 rfl (by decide) rfl ?_
                refine g_aload_n (pc := 61) 3 dX6_signChanges_61 rfl rfl ?_
                refine g_get (pc := 62) dX6_signChanges_62 fk_X6_24 ho rfl ?_
                refine g_iload_n (pc := 65) 1 dX6_signChanges_65 rfl rfl ?_
                refine g_iald (pc := 66) i dX6_signChanges_66 hb (IXn (by omega) (by omega)) ?_
                refine g_istore_n (pc := 67) [(2, .int (f i)), (1, .int (nI ((pTurn (toJ f) i) + 1))), (3, .int (nI i)), (0, .ref o)] dX6_signChanges_67 rfl (by decide) rfl ?_
                refine n_iinc (pc := 68) (c := 1) [(3, .int (nI (i + 1))), (2, .int (f i)), (1, .int (nI ((pTurn (toJ f) i) + 1))), (0, .ref o)] 2 dX6_signChanges_68 rfl (by decide) (by decide) rfl ?_
                refine g_goto (pc := 71) 6 dX6_signChanges_71 (by decide) ?_
                refine GP.lsub _ (by intro x hx; exact hx) ?_
                have h8 := ih (i + 1) (f i) (by omega) (by rw [hl]; split <;> omega)
                rw [ht, if_pos (by omega)] at h8
                exact h8
          · rw [el] at h2
            refine g_iconst (pc := 32) (v := nI 1) dX6_signChanges_32 (by decide) ?_
            refine g_goto (pc := 33) 37 dX6_signChanges_33 (by decide) ?_
            refine g_aload_n (pc := 37) 3 dX6_signChanges_37 rfl rfl ?_
            refine g_get (pc := 38) dX6_signChanges_38 fk_X6_24 ho rfl ?_
            refine g_iload_n (pc := 41) 0 dX6_signChanges_41 rfl rfl ?_
            refine g_iald (pc := 42) i dX6_signChanges_42 hb (IXn (by omega) (by omega)) ?_
            refine g_if_le (pc := 43) 50 dX6_signChanges_43 (by decide) (fun h3 => ?_) (fun h3 => ?_)
            · rw [ef] at h3
              refine g_iconst (pc := 50) (v := nI 0) dX6_signChanges_50 (by decide) ?_
              refine n_icmp_eq (pc := 51) 58 dX6_signChanges_51 (by decide) (by omega) (by omega) (fun h4 => ?_) (fun h4 => ?_)
              · exact absurd h4 (by decide)
              · refine g_iconst (pc := 54) (v := nI 1) dX6_signChanges_54 (by decide) ?_
                refine g_goto (pc := 55) 59 dX6_signChanges_55 (by decide) ?_
                refine n_iadd (pc := 59) dX6_signChanges_59 ?_
                refine g_istore_n (pc := 60) [(1, .int (nI ((pTurn (toJ f) i) + 1))), (3, .int (nI i)), (2, .int l), (0, .ref o)] dX6_signChanges_60 rfl (by decide) rfl ?_
                refine g_aload_n (pc := 61) 3 dX6_signChanges_61 rfl rfl ?_
                refine g_get (pc := 62) dX6_signChanges_62 fk_X6_24 ho rfl ?_
                refine g_iload_n (pc := 65) 1 dX6_signChanges_65 rfl rfl ?_
                refine g_iald (pc := 66) i dX6_signChanges_66 hb (IXn (by omega) (by omega)) ?_
                refine g_istore_n (pc := 67) [(2, .int (f i)), (1, .int (nI ((pTurn (toJ f) i) + 1))), (3, .int (nI i)), (0, .ref o)] dX6_signChanges_67 rfl (by decide) rfl ?_
                refine n_iinc (pc := 68) (c := 1) [(3, .int (nI (i + 1))), (2, .int (f i)), (1, .int (nI ((pTurn (toJ f) i) + 1))), (0, .ref o)] 2 dX6_signChanges_68 rfl (by decide) (by decide) rfl ?_
                refine g_goto (pc := 71) 6 dX6_signChanges_71 (by decide) ?_
                refine GP.lsub _ (by intro x hx; exact hx) ?_
                have h8 := ih (i + 1) (f i) (by omega) (by rw [hl]; split <;> omega)
                rw [ht, if_pos (by omega)] at h8
                exact h8
            · rw [ef] at h3
              refine g_iconst (pc := 46) (v := nI 1) dX6_signChanges_46 (by decide) ?_
              refine g_goto (pc := 47) 51 dX6_signChanges_47 (by decide) ?_
              refine n_icmp_eq (pc := 51) 58 dX6_signChanges_51 (by decide) (by omega) (by omega) (fun h4 => ?_) (fun h4 => ?_)
              · refine g_iconst (pc := 58) (v := nI 0) dX6_signChanges_58 (by decide) ?_
                refine n_iadd (pc := 59) dX6_signChanges_59 ?_
                refine g_istore_n (pc := 60) [(1, .int (nI ((pTurn (toJ f) i) + 0))), (3, .int (nI i)), (2, .int l), (0, .ref o)] dX6_signChanges_60 rfl (by decide) rfl ?_
                refine g_aload_n (pc := 61) 3 dX6_signChanges_61 rfl rfl ?_
                refine g_get (pc := 62) dX6_signChanges_62 fk_X6_24 ho rfl ?_
                refine g_iload_n (pc := 65) 1 dX6_signChanges_65 rfl rfl ?_
                refine g_iald (pc := 66) i dX6_signChanges_66 hb (IXn (by omega) (by omega)) ?_
                refine g_istore_n (pc := 67) [(2, .int (f i)), (1, .int (nI ((pTurn (toJ f) i) + 0))), (3, .int (nI i)), (0, .ref o)] dX6_signChanges_67 rfl (by decide) rfl ?_
                refine n_iinc (pc := 68) (c := 1) [(3, .int (nI (i + 1))), (2, .int (f i)), (1, .int (nI ((pTurn (toJ f) i) + 0))), (0, .ref o)] 2 dX6_signChanges_68 rfl (by decide) (by decide) rfl ?_
                refine g_goto (pc := 71) 6 dX6_signChanges_71 (by decide) ?_
                refine GP.lsub _ (by intro x hx; exact hx) ?_
                have h8 := ih (i + 1) (f i) (by omega) (by rw [hl]; split <;> omega)
                rw [ht, if_neg (by omega)] at h8
                exact h8
              · exact absurd h4 (by decide)
theorem sp_signChanges (w : Wd) {o b n : Nat} {f : Nat → Int32} (ho : w[o]? = some (oP n b)) (hb : w[b]? = some (aI 0 (n + 1) f)) (hn : n ≤ 12) (hf : ∀ t, t ≤ n → -9999 ≤ (f t).toInt ∧ (f t).toInt ≤ 9999) : EX6_signChanges [.ref o] w (fun r w' => r = some (.int (nI (pTurn (toJ f) (n + 1)))) ∧ w' = w) := by
  refine EP.of (plainFor_of_name (by decide)) [(0, .ref o)] rfl (Nat.le_of_ble_eq_true rfl) (fun r wf h => by obtain ⟨rfl, -⟩ := h; trivial) ?_
  show BX6_signChanges w _ w 0 [(0, .ref o)] []
  refine g_iconst (pc := 0) (v := nI 0) dX6_signChanges_0 (by decide) ?_
  refine g_istore_n (pc := 1) [(1, .int (nI 0)), (0, .ref o)] dX6_signChanges_1 rfl (by decide) rfl ?_
  refine g_iconst (pc := 2) (v := nI 0) dX6_signChanges_2 (by decide) ?_
  refine g_istore_n (pc := 3) [(2, .int (nI 0)), (1, .int (nI 0)), (0, .ref o)] dX6_signChanges_3 rfl (by decide) rfl ?_
  refine g_iconst (pc := 4) (v := nI 0) dX6_signChanges_4 (by decide) ?_
  refine g_istore_n (pc := 5) [(3, .int (nI 0)), (2, .int (nI 0)), (1, .int (nI 0)), (0, .ref o)] dX6_signChanges_5 rfl (by decide) rfl ?_
  exact GP.lsub _ (by intro x hx; exact hx) (sc_loop ho hb hn hf (n + 1) 0 0 (by omega) rfl)
