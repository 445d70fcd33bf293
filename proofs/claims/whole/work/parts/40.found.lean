/-! Found -/
abbrev oF (dg al lk on kp e : Nat) : Ce := .inr (1, [.int (nI dg), .int (nI al), .int (nI lk), .int (nI on), .int (nI kp), .ref e])
/-- the first of the least HIGHs among m entries -/
def fLeast (f : Nat → Int32) : Nat → Nat
  | 0 => 0
  | m + 1 => if (f (m * 16 + 13)).toInt < (f (fLeast f m * 16 + 13)).toInt then m else fLeast f m
def fMany (f : Nat → Int32) (x : Int) : Nat → Nat
  | 0 => 0
  | m + 1 => fMany f x m + if (f (m * 16 + 13)).toInt = x then 1 else 0
theorem fLeast_1 {f : Nat → Int32} : fLeast f 1 = 0 := by
  show (if (f (0 * 16 + 13)).toInt < (f (0 * 16 + 13)).toInt then 0 else 0) = 0
  exact ite_self 0
theorem fLeast_s (f : Nat → Int32) (m : Nat) : fLeast f (m + 1) = if (f (m * 16 + 13)).toInt < (f (fLeast f m * 16 + 13)).toInt then m else fLeast f m := rfl
theorem fLeast_lt {f : Nat → Int32} : ∀ m, 0 < m → fLeast f m < m := by
  intro m
  induction m with
  | zero => intro h; exact absurd h (by omega)
  | succ m ih =>
    intro _
    rcases Nat.eq_zero_or_pos m with h | h
    · subst h
      rw [fLeast_1]
      omega
    · have h2 := ih h
      by_cases hc : (f (m * 16 + 13)).toInt < (f (fLeast f m * 16 + 13)).toInt
      · rw [fLeast_s, if_pos hc]
        omega
      · rw [fLeast_s, if_neg hc]
        omega
abbrev BX1_init (w0 : Wd) (Post : Option Value → Wd → Prop) (w : Wd) (pc : Nat) (ls : List (Nat × Value)) (st : List Value) : Prop := GP "<init>" RX1 cX1_init 6 none 1 39 none w0 Post w pc ls st
abbrev EX1_init (As : List Value) (w : Wd) (Post : Option Value → Wd → Prop) : Prop := EP yX1_init cX1_init 6 none 1 As w Post
theorem sp_newFound (w : Wd) {o e dg al lk on kp M : Nat} {f : Nat → Int32} (ho : w[o]? = some (.inr (1, [.int 0, .int 0, .int 0, .int 0, .int 0, .null]))) (he : w[e]? = some (aI 0 M f)) (hoe : o ≠ e) (hM : M = 16 * kp) (hkp : kp ≤ 30) : EX1_init [.ref o, .int (nI dg), .int (nI al), .int (nI lk), .int (nI on), .ref e] w (fun r w' => r = none ∧ w' = w.set o (oF dg al lk on kp e)) := by
  refine EP.of (plainFor_of_name (by decide)) [(0, .ref o), (1, .int (nI dg)), (2, .int (nI al)), (3, .int (nI lk)), (4, .int (nI on)), (5, .ref e)] rfl (Nat.le_of_ble_eq_true rfl) (fun r wf h => by obtain ⟨rfl, -⟩ := h; trivial) ?_
  show BX1_init w _ w 0 [(0, .ref o), (1, .int (nI dg)), (2, .int (nI al)), (3, .int (nI lk)), (4, .int (nI on)), (5, .ref e)] []
  refine g_aload_n (pc := 0) 0 dX1_init_0 rfl rfl ?_
  refine g_oinit (pc := 1) dX1_init_1 ol_X1_1 oi_in oi_co (by decide) (Nat.le_of_ble_eq_true rfl) (by decide) ?_
  refine g_aload_n (pc := 4) 0 dX1_init_4 rfl rfl ?_
  refine g_iload_n (pc := 5) 1 dX1_init_5 rfl rfl ?_
  refine g_putF (pc := 6) [.int (nI dg), .int 0, .int 0, .int 0, .int 0, .null] dX1_init_6 fk_X1_7 (fun _ _ _ h => by cases h; rfl) rfl ho (Nat.le_of_ble_eq_true rfl) rfl rfl ?_
  refine g_aload_n (pc := 9) 0 dX1_init_9 rfl rfl ?_
  refine g_iload_n (pc := 10) 2 dX1_init_10 rfl rfl ?_
  refine g_putF (pc := 11) [.int (nI dg), .int (nI al), .int 0, .int 0, .int 0, .null] dX1_init_11 fk_X1_13 (fun _ _ _ h => by cases h; rfl) rfl (lk_eq ho) (Nat.le_of_ble_eq_true rfl) rfl rfl ?_
  refine GP.weq (w.set o (.inr (1, [.int (nI dg), .int (nI al), .int 0, .int 0, .int 0, .null]))) (by rw [List.set_set]) ?_
  refine g_aload_n (pc := 14) 0 dX1_init_14 rfl rfl ?_
  refine g_iload_n (pc := 15) 3 dX1_init_15 rfl rfl ?_
  refine g_putF (pc := 16) [.int (nI dg), .int (nI al), .int (nI lk), .int 0, .int 0, .null] dX1_init_16 fk_X1_16 (fun _ _ _ h => by cases h; rfl) rfl (lk_eq ho) (Nat.le_of_ble_eq_true rfl) rfl rfl ?_
  refine GP.weq (w.set o (.inr (1, [.int (nI dg), .int (nI al), .int (nI lk), .int 0, .int 0, .null]))) (by rw [List.set_set]) ?_
  refine g_aload_n (pc := 19) 0 dX1_init_19 rfl rfl ?_
  refine g_iload (pc := 20) 4 dX1_init_20 rfl ?_
  refine g_putF (pc := 22) [.int (nI dg), .int (nI al), .int (nI lk), .int (nI on), .int 0, .null] dX1_init_22 fk_X1_19 (fun _ _ _ h => by cases h; rfl) rfl (lk_eq ho) (Nat.le_of_ble_eq_true rfl) rfl rfl ?_
  refine GP.weq (w.set o (.inr (1, [.int (nI dg), .int (nI al), .int (nI lk), .int (nI on), .int 0, .null]))) (by rw [List.set_set]) ?_
  refine g_aload_n (pc := 25) 0 dX1_init_25 rfl rfl ?_
  refine g_aload (pc := 26) 5 dX1_init_26 rfl ?_
  refine g_putF (pc := 28) [.int (nI dg), .int (nI al), .int (nI lk), .int (nI on), .int 0, .ref e] dX1_init_28 fk_X1_22 (fun _ _ _ h => by cases h; rfl) rfl (lk_eq ho) (Nat.le_of_ble_eq_true rfl) rfl rfl ?_
  refine GP.weq (w.set o (.inr (1, [.int (nI dg), .int (nI al), .int (nI lk), .int (nI on), .int 0, .ref e]))) (by rw [List.set_set]) ?_
  refine g_aload_n (pc := 31) 0 dX1_init_31 rfl rfl ?_
  refine g_aload (pc := 32) 5 dX1_init_32 rfl ?_
  refine g_alen (pc := 34) dX1_init_34 (lk_ne hoe he) (by decide) ?_
  refine g_bipush (pc := 35) (v := nI 16) dX1_init_35 (by decide) ?_
  refine n_idiv (pc := 37) dX1_init_37 (by omega) (by omega) (by omega) ?_
  refine g_putF (pc := 38) [.int (nI dg), .int (nI al), .int (nI lk), .int (nI on), .int (nI (M / 16)), .ref e] dX1_init_38 fk_X1_26 (fun _ _ _ h => by cases h; rfl) rfl (lk_eq ho) (Nat.le_of_ble_eq_true rfl) rfl rfl ?_
  refine GP.weq (w.set o (.inr (1, [.int (nI dg), .int (nI al), .int (nI lk), .int (nI on), .int (nI (M / 16)), .ref e]))) (by rw [List.set_set]) ?_
  exact g_vret (pc := 41) dX1_init_41 ⟨rfl, by rw [hM, Nat.mul_div_cancel_left _ (by decide)]⟩
abbrev BX1_has (w0 : Wd) (Post : Option Value → Wd → Prop) (w : Wd) (pc : Nat) (ls : List (Nat × Value)) (st : List Value) : Prop := GP "has" RX1 cX1_has 2 (some .boolean) 0 0 none w0 Post w pc ls st
abbrev EX1_has (As : List Value) (w : Wd) (Post : Option Value → Wd → Prop) : Prop := EP yX1_has cX1_has 2 (some .boolean) 0 As w Post
theorem sp_has (w : Wd) {i : Nat} {o e dg al lk on kp M : Nat} {f : Nat → Int32} (ho : w[o]? = some (oF dg al lk on kp e)) (he : w[e]? = some (aI 0 M f)) (hM : M = 16 * kp) (hkp : kp ≤ 30) (hi : i < 2147483648) : EX1_has [.ref o, .int (nI i)] w (fun r w' => (r = some (.int (nI 1)) ∧ i < kp ∧ w' = w) ∨ (r = some (.int (nI 0)) ∧ ¬ (i < kp) ∧ w' = w)) := by
  refine EP.of (plainFor_of_name (by decide)) [(0, .ref o), (1, .int (nI i))] rfl (Nat.le_of_ble_eq_true rfl) (fun r wf h => by rcases h with ⟨rfl, -⟩ | ⟨rfl, -⟩; exact Or.inr rfl; exact Or.inl rfl) ?_
  show BX1_has w _ w 0 [(0, .ref o), (1, .int (nI i))] []
  refine g_iload_n (pc := 0) 1 dX1_has_0 rfl rfl ?_
  refine n_if_lt (pc := 1) 16 dX1_has_1 (by decide) (by omega) ?_
  refine g_iload_n (pc := 4) 1 dX1_has_4 rfl rfl ?_
  refine g_aload_n (pc := 5) 0 dX1_has_5 rfl rfl ?_
  refine g_get (pc := 6) dX1_has_6 fk_X1_26 ho rfl ?_
  refine n_icmp_ge (pc := 9) 16 dX1_has_9 (by decide) (by omega) (by omega) (fun h1 => ?_) (fun h1 => ?_)
  · refine g_iconst (pc := 16) (v := nI 0) dX1_has_16 (by decide) ?_
    exact g_iret (pc := 17) dX1_has_17 (Or.inr ⟨rfl, by omega, rfl⟩)
  · refine g_iconst (pc := 12) (v := nI 1) dX1_has_12 (by decide) ?_
    refine g_goto (pc := 13) 17 dX1_has_13 (by decide) ?_
    exact g_iret (pc := 17) dX1_has_17 (Or.inl ⟨rfl, by omega, rfl⟩)
theorem sp_hasNeg (w : Wd) {o : Nat} {x : Int32} (hx : x < 0) : EX1_has [.ref o, .int x] w (fun r w' => r = some (.int (nI 0)) ∧ w' = w) := by
  refine EP.of (plainFor_of_name (by decide)) [(0, .ref o), (1, .int x)] rfl (Nat.le_of_ble_eq_true rfl) (fun r wf h => by obtain ⟨rfl, -⟩ := h; exact Or.inl rfl) ?_
  show BX1_has w _ w 0 [(0, .ref o), (1, .int x)] []
  refine g_iload_n (pc := 0) 1 dX1_has_0 rfl rfl ?_
  refine g_if_lt (pc := 1) 16 dX1_has_1 (by decide) (fun h1 => ?_) (fun h1 => ?_)
  · refine g_iconst (pc := 16) (v := nI 0) dX1_has_16 (by decide) ?_
    exact g_iret (pc := 17) dX1_has_17 ⟨rfl, rfl⟩
  · exact absurd hx h1
abbrev BX1_entry (w0 : Wd) (Post : Option Value → Wd → Prop) (w : Wd) (pc : Nat) (ls : List (Nat × Value)) (st : List Value) : Prop := GP "entry" RX1 cX1_entry 3 (some .int) 1 39 none w0 Post w pc ls st
abbrev EX1_entry (As : List Value) (w : Wd) (Post : Option Value → Wd → Prop) : Prop := EP yX1_entry cX1_entry 3 (some .int) 1 As w Post
theorem sp_entry (w : Wd) {i k : Nat} {o e dg al lk on kp M : Nat} {f : Nat → Int32} (ho : w[o]? = some (oF dg al lk on kp e)) (he : w[e]? = some (aI 0 M f)) (hM : M = 16 * kp) (hkp : kp ≤ 30) (hik : i < kp) (hk : k < 16) : EX1_entry [.ref o, .int (nI i), .int (nI k)] w (fun r w' => r = some (.int (f (i * 16 + k))) ∧ w' = w) := by
  refine EP.of (plainFor_of_name (by decide)) [(0, .ref o), (1, .int (nI i)), (2, .int (nI k))] rfl (Nat.le_of_ble_eq_true rfl) (fun r wf h => by obtain ⟨rfl, -⟩ := h; trivial) ?_
  show BX1_entry w _ w 0 [(0, .ref o), (1, .int (nI i)), (2, .int (nI k))] []
  refine g_aload_n (pc := 0) 0 dX1_entry_0 rfl rfl ?_
  refine g_iload_n (pc := 1) 1 dX1_entry_1 rfl rfl ?_
  refine g_callV (pc := 2) [.int (nI i)] dX1_entry_2 cv_X1_29.1 cv_X1_29.2.1 cv_X1_29.2.2.1 cv_X1_29.2.2.2 ho rfl rfl (Nat.le_of_ble_eq_true rfl) (by decide) (by decide) (sp_has _ ho he hM hkp (by omega)) ?_
  rintro _ w9 (⟨rfl, hi, e9⟩ | ⟨rfl, hi, e9⟩)
  · refine GP.weq _ e9 ?_
    refine n_if_eq (pc := 5) 32 dX1_entry_5 (by decide) (by omega) (fun h1 => ?_) (fun h1 => ?_)
    · exact absurd h1 (by decide)
    · refine g_iload_n (pc := 8) 2 dX1_entry_8 rfl rfl ?_
      refine n_if_lt (pc := 9) 32 dX1_entry_9 (by decide) (by omega) ?_
      refine g_iload_n (pc := 12) 2 dX1_entry_12 rfl rfl ?_
      refine g_bipush (pc := 13) (v := nI 16) dX1_entry_13 (by decide) ?_
      refine n_icmp_ge (pc := 15) 32 dX1_entry_15 (by decide) (by omega) (by omega) (fun h2 => ?_) (fun h2 => ?_)
      · exact absurd h2 (by omega)
      · refine g_aload_n (pc := 18) 0 dX1_entry_18 rfl rfl ?_
        refine g_get (pc := 19) dX1_entry_19 fk_X1_22 ho rfl ?_
        refine g_iload_n (pc := 22) 1 dX1_entry_22 rfl rfl ?_
        refine g_bipush (pc := 23) (v := nI 16) dX1_entry_23 (by decide) ?_
        refine n_imul (pc := 25) dX1_entry_25 ?_
        refine g_iload_n (pc := 26) 2 dX1_entry_26 rfl rfl ?_
        refine n_iadd (pc := 27) dX1_entry_27 ?_
        refine g_iald (pc := 28) ((i * 16) + k) dX1_entry_28 he (IXn (by omega) (by omega)) ?_
        refine g_goto (pc := 29) 33 dX1_entry_29 (by decide) ?_
        exact g_iret (pc := 33) dX1_entry_33 ⟨rfl, rfl⟩
  · refine GP.weq _ e9 ?_
    exact absurd hik hi
abbrev BX1_writeTo (w0 : Wd) (Post : Option Value → Wd → Prop) (w : Wd) (pc : Nat) (ls : List (Nat × Value)) (st : List Value) : Prop := GP "writeTo" RX1 cX1_writeTo 4 none 2 78 none w0 Post w pc ls st
abbrev EX1_writeTo (As : List Value) (w : Wd) (Post : Option Value → Wd → Prop) : Prop := EP yX1_writeTo cX1_writeTo 4 none 2 As w Post
theorem fw_loop {w0 w : Wd} {o e dg al lk on kp M : Nat} {f : Nat → Int32} (ho : w[o]? = some (oF dg al lk on kp e)) (he : w[e]? = some (aI 0 M f)) (hM : M = 16 * kp) (hkp : kp ≤ 30) {q i : Nat} {g : Nat → Int64} (hq : w[q]? = some (aL 25 g)) (hqo : q ≠ o) (hqe : q ≠ e) (hi : i < kp) (hdg : dg ≤ 12) : ∀ (k p : Nat) (cur : Nat → Int64), dg + 1 = p + k → (∀ j, j < 25 → (cur j).toInt = if j < p then (f (i * 16 + j)).toInt else 0) → BX1_writeTo w0 (fun r w' => r = none ∧ ∃ g' : Nat → Int64, (∀ j, j < 25 → (g' j).toInt = if j ≤ dg then (f (i * 16 + j)).toInt else 0) ∧ w' = w.set q (aL 25 g')) (w.set q (aL 25 cur)) 7 [(3, .int (nI p)), (0, .ref o), (1, .int (nI i)), (2, .ref q)] [] := by
  intro k
  induction k with
  | zero =>
    intro p cur hp h
    refine g_iload_n (pc := 7) 0 dX1_writeTo_7 rfl rfl ?_
    refine g_aload_n (pc := 8) 1 dX1_writeTo_8 rfl rfl ?_
    refine g_get (pc := 9) dX1_writeTo_9 fk_X1_7 (lk_ne hqo ho) rfl ?_
    refine n_icmp_gt (pc := 12) 37 dX1_writeTo_12 (by decide) (by omega) (by omega) (fun h1 => ?_) (fun h1 => ?_)
    · exact g_vret (pc := 37) dX1_writeTo_37 ⟨rfl, cur, fun j hj => by rw [h j hj]; by_cases hjn : j ≤ dg; rw [if_pos hjn, if_pos (by omega)]; rw [if_neg hjn, if_neg (by omega)], rfl⟩
    · exact absurd h1 (by omega)
  | succ k ih =>
    intro p cur hp h
    refine g_iload_n (pc := 7) 0 dX1_writeTo_7 rfl rfl ?_
    refine g_aload_n (pc := 8) 1 dX1_writeTo_8 rfl rfl ?_
    refine g_get (pc := 9) dX1_writeTo_9 fk_X1_7 (lk_ne hqo ho) rfl ?_
    refine n_icmp_gt (pc := 12) 37 dX1_writeTo_12 (by decide) (by omega) (by omega) (fun h1 => ?_) (fun h1 => ?_)
    · exact absurd h1 (by omega)
    · refine g_iload_n (pc := 15) 0 dX1_writeTo_15 rfl rfl ?_
      refine g_aload_n (pc := 16) 3 dX1_writeTo_16 rfl rfl ?_
      refine g_alen (pc := 17) dX1_writeTo_17 (lk_eq hq) (by decide) ?_
      refine n_icmp_ge (pc := 18) 37 dX1_writeTo_18 (by decide) (by omega) (by omega) (fun h2 => ?_) (fun h2 => ?_)
      · exact absurd h2 (by omega)
      · refine g_aload_n (pc := 21) 3 dX1_writeTo_21 rfl rfl ?_
        refine g_iload_n (pc := 22) 0 dX1_writeTo_22 rfl rfl ?_
        refine g_aload_n (pc := 23) 1 dX1_writeTo_23 rfl rfl ?_
        refine g_iload_n (pc := 24) 2 dX1_writeTo_24 rfl rfl ?_
        refine g_iload_n (pc := 25) 0 dX1_writeTo_25 rfl rfl ?_
        refine g_callV (pc := 26) [.int (nI i), .int (nI p)] dX1_writeTo_26 cv_X1_39.1 cv_X1_39.2.1 cv_X1_39.2.2.1 cv_X1_39.2.2.2 (lk_ne hqo ho) rfl rfl (Nat.le_of_ble_eq_true rfl) (by decide) (by decide) (sp_entry _ (lk_ne hqo ho) (lk_ne hqe he) hM hkp hi (by omega)) ?_
        rintro _ w9 ⟨rfl, e9⟩
        refine GP.weq _ e9 ?_
        refine g_i2l (pc := 29) dX1_writeTo_29 ?_
        refine g_last (pc := 30) p dX1_writeTo_30 (lk_eq hq) (IXn (by omega) (by omega)) ?_
        refine GP.weq (w.set q (aL 25 (vp_updL cur p ((f (i * 16 + p)).toInt64)))) (by rw [List.set_set]) ?_
        refine n_iinc (pc := 31) (c := 1) [(3, .int (nI (p + 1))), (0, .ref o), (1, .int (nI i)), (2, .ref q)] 0 dX1_writeTo_31 rfl (by decide) (by decide) rfl ?_
        refine g_goto (pc := 34) 7 dX1_writeTo_34 (by decide) ?_
        refine GP.lsub _ (by simp) (ih (p + 1) _ (by omega) (fun j hj => ?_))
        by_cases hji : j = p
        · subst hji; rw [upL_s, if_pos (by omega), IL]
        · rw [upL_n hji, h j hj]
          by_cases hlt : j < p
          · rw [if_pos hlt, if_pos (by omega)]
          · rw [if_neg hlt, if_neg (by omega)]
theorem sp_foundTo (w : Wd) {o e dg al lk on kp M : Nat} {f : Nat → Int32} (ho : w[o]? = some (oF dg al lk on kp e)) (he : w[e]? = some (aI 0 M f)) (hM : M = 16 * kp) (hkp : kp ≤ 30) {q i : Nat} {g : Nat → Int64} (hq : w[q]? = some (aL 25 g)) (hqo : q ≠ o) (hqe : q ≠ e) (hi : i < kp) (hdg : dg ≤ 12) : EX1_writeTo [.ref o, .int (nI i), .ref q] w (fun r w' => r = none ∧ ∃ g' : Nat → Int64, (∀ j, j < 25 → (g' j).toInt = if j ≤ dg then (f (i * 16 + j)).toInt else 0) ∧ w' = w.set q (aL 25 g')) := by
  refine EP.of (plainFor_of_name (by decide)) [(0, .ref o), (1, .int (nI i)), (2, .ref q)] rfl (Nat.le_of_ble_eq_true rfl) (fun r wf h => by obtain ⟨rfl, -⟩ := h; trivial) ?_
  show BX1_writeTo w _ w 0 [(0, .ref o), (1, .int (nI i)), (2, .ref q)] []
  refine g_aload_n (pc := 0) 2 dX1_writeTo_0 rfl rfl ?_
  refine g_lconst (pc := 1) (v := 0) dX1_writeTo_1 (by decide) ?_
  refine g_callS (pc := 2) [.ref q, .long 0] dX1_writeTo_2 cs_X1_33.1 cs_X1_33.2 rfl rfl (Nat.le_of_ble_eq_true rfl) (by decide) (by decide) (sp_fill1 _ q 25 g 0 hq (by decide)) ?_
  rintro _ w9 ⟨rfl, e9⟩
  refine GP.weq _ e9 ?_
  refine g_iconst (pc := 5) (v := nI 0) dX1_writeTo_5 (by decide) ?_
  refine g_istore_n (pc := 6) [(3, .int (nI 0)), (0, .ref o), (1, .int (nI i)), (2, .ref q)] dX1_writeTo_6 rfl (by decide) rfl ?_
  exact GP.lsub _ (by simp) (fw_loop ho he hM hkp hq hqo hqe hi hdg (dg + 1) 0 _ (by omega) (fun j hj => by rw [fill0 hj, if_neg (by omega)]))
abbrev BX1_firstLeast (w0 : Wd) (Post : Option Value → Wd → Prop) (w : Wd) (pc : Nat) (ls : List (Nat × Value)) (st : List Value) : Prop := GP "firstLeast" RX1 cX1_firstLeast 3 (some .int) 2 78 none w0 Post w pc ls st
abbrev EX1_firstLeast (As : List Value) (w : Wd) (Post : Option Value → Wd → Prop) : Prop := EP yX1_firstLeast cX1_firstLeast 3 (some .int) 2 As w Post
theorem fl_loop {w0 w : Wd} {o e dg al lk on kp M : Nat} {f : Nat → Int32} (ho : w[o]? = some (oF dg al lk on kp e)) (he : w[e]? = some (aI 0 M f)) (hM : M = 16 * kp) (hkp : kp ≤ 30) : ∀ (k i : Nat), kp = i + k → 0 < i → BX1_firstLeast w0 (fun r w' => r = some (.int (nI (fLeast f kp))) ∧ w' = w) w 4 [(2, .int (nI i)), (1, .int (nI (fLeast f i))), (0, .ref o)] [] := by
  intro k
  induction k with
  | zero =>
    intro i hi h0
    refine g_iload_n (pc := 4) 0 dX1_firstLeast_4 rfl rfl ?_
    refine g_aload_n (pc := 5) 2 dX1_firstLeast_5 rfl rfl ?_
    refine g_get (pc := 6) dX1_firstLeast_6 fk_X1_26 ho rfl ?_
    refine n_icmp_ge (pc := 9) 37 dX1_firstLeast_9 (by decide) (by omega) (by omega) (fun h1 => ?_) (fun h1 => ?_)
    · refine g_iload_n (pc := 37) 1 dX1_firstLeast_37 rfl rfl ?_
      exact g_iret (pc := 38) dX1_firstLeast_38 ⟨by rw [show kp = i by omega], rfl⟩
    · exact absurd h1 (by omega)
  | succ k ih =>
    intro i hi h0
    have hlt := fLeast_lt (f := f) i h0
    refine g_iload_n (pc := 4) 0 dX1_firstLeast_4 rfl rfl ?_
    refine g_aload_n (pc := 5) 2 dX1_firstLeast_5 rfl rfl ?_
    refine g_get (pc := 6) dX1_firstLeast_6 fk_X1_26 ho rfl ?_
    refine n_icmp_ge (pc := 9) 37 dX1_firstLeast_9 (by decide) (by omega) (by omega) (fun h1 => ?_) (fun h1 => ?_)
    · exact absurd h1 (by omega)
    · refine g_aload_n (pc := 12) 2 dX1_firstLeast_12 rfl rfl ?_
      refine g_iload_n (pc := 13) 0 dX1_firstLeast_13 rfl rfl ?_
      refine g_bipush (pc := 14) (v := nI 13) dX1_firstLeast_14 (by decide) ?_
      refine g_callV (pc := 16) [.int (nI i), .int (nI 13)] dX1_firstLeast_16 cv_X1_39.1 cv_X1_39.2.1 cv_X1_39.2.2.1 cv_X1_39.2.2.2 ho rfl rfl (Nat.le_of_ble_eq_true rfl) (by decide) (by decide) (sp_entry _ ho he hM hkp (i := i) (k := 13) (by omega) (by decide)) ?_
      rintro _ w9 ⟨rfl, e9⟩
      refine GP.weq _ e9 ?_
      refine g_aload_n (pc := 19) 2 dX1_firstLeast_19 rfl rfl ?_
      refine g_iload_n (pc := 20) 1 dX1_firstLeast_20 rfl rfl ?_
      refine g_bipush (pc := 21) (v := nI 13) dX1_firstLeast_21 (by decide) ?_
      refine g_callV (pc := 23) [.int (nI (fLeast f i)), .int (nI 13)] dX1_firstLeast_23 cv_X1_39.1 cv_X1_39.2.1 cv_X1_39.2.2.1 cv_X1_39.2.2.2 ho rfl rfl (Nat.le_of_ble_eq_true rfl) (by decide) (by decide) (sp_entry _ ho he hM hkp (i := fLeast f i) (k := 13) (by omega) (by decide)) ?_
      rintro _ w9 ⟨rfl, e9⟩
      refine GP.weq _ e9 ?_
      have hst : fLeast f (i + 1) = if (f (i * 16 + 13)).toInt < (f (fLeast f i * 16 + 13)).toInt then i else fLeast f i := rfl
      refine g_icmp_ge (pc := 26) 31 dX1_firstLeast_26 (by decide) (fun h2 => ?_) (fun h2 => ?_)
      · rw [Int32.le_iff_toInt_le] at h2
        rw [if_neg (by omega)] at hst
        refine n_iinc (pc := 31) (c := 1) [(2, .int (nI (i + 1))), (1, .int (nI (fLeast f i))), (0, .ref o)] 0 dX1_firstLeast_31 rfl (by decide) (by decide) rfl ?_
        refine g_goto (pc := 34) 4 dX1_firstLeast_34 (by decide) ?_
        have h9 := ih (i + 1) (by omega) (by omega)
        rw [hst] at h9
        exact GP.lsub _ (by simp) h9
      · rw [Int32.le_iff_toInt_le] at h2
        rw [if_pos (by omega)] at hst
        refine g_iload_n (pc := 29) 0 dX1_firstLeast_29 rfl rfl ?_
        refine g_istore_n (pc := 30) [(1, .int (nI i)), (2, .int (nI i)), (0, .ref o)] dX1_firstLeast_30 rfl (by decide) rfl ?_
        refine n_iinc (pc := 31) (c := 1) [(2, .int (nI (i + 1))), (1, .int (nI i)), (0, .ref o)] 1 dX1_firstLeast_31 rfl (by decide) (by decide) rfl ?_
        refine g_goto (pc := 34) 4 dX1_firstLeast_34 (by decide) ?_
        have h9 := ih (i + 1) (by omega) (by omega)
        rw [hst] at h9
        exact GP.lsub _ (by simp) h9
theorem sp_firstLeast (w : Wd) {o e dg al lk on kp M : Nat} {f : Nat → Int32} (ho : w[o]? = some (oF dg al lk on kp e)) (he : w[e]? = some (aI 0 M f)) (hM : M = 16 * kp) (hkp : kp ≤ 30) : EX1_firstLeast [.ref o] w (fun r w' => r = some (.int (nI (fLeast f kp))) ∧ w' = w) := by
  refine EP.of (plainFor_of_name (by decide)) [(0, .ref o)] rfl (Nat.le_of_ble_eq_true rfl) (fun r wf h => by obtain ⟨rfl, -⟩ := h; trivial) ?_
  show BX1_firstLeast w _ w 0 [(0, .ref o)] []
  refine g_iconst (pc := 0) (v := nI 0) dX1_firstLeast_0 (by decide) ?_
  refine g_istore_n (pc := 1) [(1, .int (nI 0)), (0, .ref o)] dX1_firstLeast_1 rfl (by decide) rfl ?_
  refine g_iconst (pc := 2) (v := nI 1) dX1_firstLeast_2 (by decide) ?_
  refine g_istore_n (pc := 3) [(2, .int (nI 1)), (1, .int (nI 0)), (0, .ref o)] dX1_firstLeast_3 rfl (by decide) rfl ?_
  rcases Nat.eq_zero_or_pos kp with h0 | h0
  · refine g_iload_n (pc := 4) 0 dX1_firstLeast_4 rfl rfl ?_
    refine g_aload_n (pc := 5) 2 dX1_firstLeast_5 rfl rfl ?_
    refine g_get (pc := 6) dX1_firstLeast_6 fk_X1_26 ho rfl ?_
    refine n_icmp_ge (pc := 9) 37 dX1_firstLeast_9 (by decide) (by omega) (by omega) (fun h1 => ?_) (fun h1 => ?_)
    · refine g_iload_n (pc := 37) 1 dX1_firstLeast_37 rfl rfl ?_
      exact g_iret (pc := 38) dX1_firstLeast_38 ⟨by rw [h0]; rfl, rfl⟩
    · exact absurd h1 (by omega)
  · have h9 := fl_loop (w0 := w) ho he hM hkp (kp - 1) 1 (by omega) (by decide)
    rw [fLeast_1] at h9
    exact GP.lsub _ (by simp) h9
abbrev BX1_howMany (w0 : Wd) (Post : Option Value → Wd → Prop) (w : Wd) (pc : Nat) (ls : List (Nat × Value)) (st : List Value) : Prop := GP "howMany" RX1 cX1_howMany 4 (some .int) 2 78 none w0 Post w pc ls st
abbrev EX1_howMany (As : List Value) (w : Wd) (Post : Option Value → Wd → Prop) : Prop := EP yX1_howMany cX1_howMany 4 (some .int) 2 As w Post
theorem hm_loop {w0 w : Wd} {o e dg al lk on kp M : Nat} {f : Nat → Int32} (ho : w[o]? = some (oF dg al lk on kp e)) (he : w[e]? = some (aI 0 M f)) (hM : M = 16 * kp) (hkp : kp ≤ 30) {x : Int32} : ∀ (k i : Nat), kp = i + k → BX1_howMany w0 (fun r w' => r = some (.int (nI (fMany f x.toInt kp))) ∧ w' = w) w 4 [(3, .int (nI i)), (2, .int (nI (fMany f x.toInt i))), (0, .ref o), (1, .int x)] [] := by
  intro k
  induction k with
  | zero =>
    intro i hi
    refine g_iload_n (pc := 4) 0 dX1_howMany_4 rfl rfl ?_
    refine g_aload_n (pc := 5) 2 dX1_howMany_5 rfl rfl ?_
    refine g_get (pc := 6) dX1_howMany_6 fk_X1_26 ho rfl ?_
    refine n_icmp_ge (pc := 9) 37 dX1_howMany_9 (by decide) (by omega) (by omega) (fun h1 => ?_) (fun h1 => ?_)
    · refine g_iload_n (pc := 37) 1 dX1_howMany_37 rfl rfl ?_
      exact g_iret (pc := 38) dX1_howMany_38 ⟨by rw [show kp = i by omega], rfl⟩
    · exact absurd h1 (by omega)
  | succ k ih =>
    intro i hi
    have hst : fMany f x.toInt (i + 1) = fMany f x.toInt i + if (f (i * 16 + 13)).toInt = x.toInt then 1 else 0 := rfl
    have h9 := ih (i + 1) (by omega)
    refine g_iload_n (pc := 4) 0 dX1_howMany_4 rfl rfl ?_
    refine g_aload_n (pc := 5) 2 dX1_howMany_5 rfl rfl ?_
    refine g_get (pc := 6) dX1_howMany_6 fk_X1_26 ho rfl ?_
    refine n_icmp_ge (pc := 9) 37 dX1_howMany_9 (by decide) (by omega) (by omega) (fun h1 => ?_) (fun h1 => ?_)
    · exact absurd h1 (by omega)
    · refine g_iload_n (pc := 12) 1 dX1_howMany_12 rfl rfl ?_
      refine g_aload_n (pc := 13) 2 dX1_howMany_13 rfl rfl ?_
      refine g_iload_n (pc := 14) 0 dX1_howMany_14 rfl rfl ?_
      refine g_bipush (pc := 15) (v := nI 13) dX1_howMany_15 (by decide) ?_
      refine g_callV (pc := 17) [.int (nI i), .int (nI 13)] dX1_howMany_17 cv_X1_39.1 cv_X1_39.2.1 cv_X1_39.2.2.1 cv_X1_39.2.2.2 ho rfl rfl (Nat.le_of_ble_eq_true rfl) (by decide) (by decide) (sp_entry _ ho he hM hkp (i := i) (k := 13) (by omega) (by decide)) ?_
      rintro _ w9 ⟨rfl, e9⟩
      refine GP.weq _ e9 ?_
      refine g_iload_n (pc := 20) 3 dX1_howMany_20 rfl rfl ?_
      refine g_icmp_ne (pc := 21) 28 dX1_howMany_21 (by decide) (fun h2 => ?_) (fun h2 => ?_)
      · rw [if_neg (fun g => h2 (Int32.toInt_inj.mp g))] at hst
        refine g_iconst (pc := 28) (v := nI 0) dX1_howMany_28 (by decide) ?_
        refine n_iadd (pc := 29) dX1_howMany_29 ?_
        refine g_istore_n (pc := 30) [(2, .int (nI ((fMany f x.toInt i) + 0))), (3, .int (nI i)), (0, .ref o), (1, .int x)] dX1_howMany_30 rfl (by decide) rfl ?_
        refine n_iinc (pc := 31) (c := 1) [(3, .int (nI (i + 1))), (2, .int (nI ((fMany f x.toInt i) + 0))), (0, .ref o), (1, .int x)] 1 dX1_howMany_31 rfl (by decide) (by decide) rfl ?_
        refine g_goto (pc := 34) 4 dX1_howMany_34 (by decide) ?_
        rw [hst] at h9
        exact GP.lsub _ (by simp) h9
      · rw [if_pos (congrArg Int32.toInt (Classical.not_not.mp h2))] at hst
        refine g_iconst (pc := 24) (v := nI 1) dX1_howMany_24 (by decide) ?_
        refine g_goto (pc := 25) 29 dX1_howMany_25 (by decide) ?_
        refine n_iadd (pc := 29) dX1_howMany_29 ?_
        refine g_istore_n (pc := 30) [(2, .int (nI ((fMany f x.toInt i) + 1))), (3, .int (nI i)), (0, .ref o), (1, .int x)] dX1_howMany_30 rfl (by decide) rfl ?_
        refine n_iinc (pc := 31) (c := 1) [(3, .int (nI (i + 1))), (2, .int (nI ((fMany f x.toInt i) + 1))), (0, .ref o), (1, .int x)] 1 dX1_howMany_31 rfl (by decide) (by decide) rfl ?_
        refine g_goto (pc := 34) 4 dX1_howMany_34 (by decide) ?_
        rw [hst] at h9
        exact GP.lsub _ (by simp) h9
theorem sp_howMany (w : Wd) {o e dg al lk on kp M : Nat} {f : Nat → Int32} (ho : w[o]? = some (oF dg al lk on kp e)) (he : w[e]? = some (aI 0 M f)) (hM : M = 16 * kp) (hkp : kp ≤ 30) {x : Int32} : EX1_howMany [.ref o, .int x] w (fun r w' => r = some (.int (nI (fMany f x.toInt kp))) ∧ w' = w) := by
  refine EP.of (plainFor_of_name (by decide)) [(0, .ref o), (1, .int x)] rfl (Nat.le_of_ble_eq_true rfl) (fun r wf h => by obtain ⟨rfl, -⟩ := h; trivial) ?_
  show BX1_howMany w _ w 0 [(0, .ref o), (1, .int x)] []
  refine g_iconst (pc := 0) (v := nI 0) dX1_howMany_0 (by decide) ?_
  refine g_istore_n (pc := 1) [(2, .int (nI 0)), (0, .ref o), (1, .int x)] dX1_howMany_1 rfl (by decide) rfl ?_
  refine g_iconst (pc := 2) (v := nI 0) dX1_howMany_2 (by decide) ?_
  refine g_istore_n (pc := 3) [(3, .int (nI 0)), (2, .int (nI 0)), (0, .ref o), (1, .int x)] dX1_howMany_3 rfl (by decide) rfl ?_
  exact GP.lsub _ (by intro y hy; exact hy) (hm_loop ho he hM hkp kp 0 (by omega))
