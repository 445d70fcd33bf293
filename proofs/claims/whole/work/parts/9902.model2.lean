/-! the reference: what its row of numbers holds; isStore, degreeOf, at, degrees, empty, find, take, isFit -/
def rowR (g : Nat → Int32) (V : SV) : Prop := (∀ i, i < 8 → okP (V.1 i) ∧ g (14 * i) = nI (V.1 i).1 ∧ ∀ p, p < 13 → (g (14 * i + 1 + p)).toInt = (V.1 i).2 p) ∧ (g 112 = nI V.2.2.2.2.2.1 ∧ g 113 = nI V.2.2.1 ∧ g 114 = nI V.2.2.2.1 ∧ g 115 = nI V.2.2.2.2.1) ∧ (V.2.1 ≤ 12 ∧ V.2.2.2.2.2.1 ≤ 30 ∧ V.2.2.1 ≤ 5000 ∧ V.2.2.2.1 ≤ 5000 ∧ V.2.2.2.2.1 ≤ 5000) ∧ ∀ i, i < V.2.2.2.2.2.1 → g (116 + 17 * i) = nI V.2.1 ∧ (∀ j, j < 16 → (g (116 + 17 * i + 1 + j)).toInt = V.2.2.2.2.2.2 (i * 16 + j)) ∧ ∀ p, V.2.1 < p → p < 13 → V.2.2.2.2.2.2 (i * 16 + p) = 0
def dgN (c : Nat) : Int32 := if c = 0 then -1 else nI (c - 1)
theorem dgN_s {c : Nat} : dgN (c + 1) = nI c := rfl
theorem dgN_I {c : Nat} (h : c ≤ 1000) : (dgN c).toInt = (c : Int) - 1 := by
  cases c with
  | zero => decide
  | succ c =>
    rw [dgN_s, nI_toInt (by omega)]
    omega
theorem L7 : (7 : Int64).toInt = 7 := by decide
theorem L00 : (0 : Int64).toInt = 0 := by decide
theorem pl_of {x : Int32} (h : 0 ≤ x.toInt ∧ x.toInt ≤ 7) : ∃ i, x = nI i ∧ i < 8 := ⟨x.toInt.toNat, nI_toNat h.1, by omega⟩
abbrev BX12_isStore (w0 : Wd) (Post : Option Value → Wd → Prop) (w : Wd) (pc : Nat) (ls : List (Nat × Value)) (st : List Value) : Prop := GP "isStore" RX12 cX12_isStore 1 (some .boolean) 1 39 none w0 Post w pc ls st
abbrev EX12_isStore (As : List Value) (w : Wd) (Post : Option Value → Wd → Prop) : Prop := EP yX12_isStore cX12_isStore 1 (some .boolean) 1 As w Post
theorem mp_isStore (w : Wd) {x : Int32} : EX12_isStore [.int x] w (fun r w' => (r = some (.int (nI 1)) ∧ isPl x ∧ w' = w) ∨ (r = some (.int (nI 0)) ∧ ¬ isPl x ∧ w' = w)) := by
  refine EP.of (plainFor_of_name (by decide)) [(0, .int x)] rfl (Nat.le_of_ble_eq_true rfl) (fun r wf h => by rcases h with ⟨rfl, -⟩ | ⟨rfl, -⟩; exact Or.inr rfl; exact Or.inl rfl) ?_
  show BX12_isStore w _ w 0 [(0, .int x)] []
  refine g_iload_n (pc := 0) 0 dX12_isStore_0 rfl rfl ?_
  refine g_i2l (pc := 1) dX12_isStore_1 ?_
  refine g_lconst (pc := 2) (v := 0) dX12_isStore_2 (by decide) ?_
  refine g_ldc2 (pc := 3) kc_X12_111 dX12_isStore_3 ?_
  refine g_callS (pc := 6) [.long x.toInt64, .long 0, .long (7)] dX12_isStore_6 cs_X12_103.1 cs_X12_103.2 rfl rfl (Nat.le_of_ble_eq_true rfl) (by decide) (by decide) (mp_in _) ?_
  rintro _ w9 (⟨rfl, hi, e9⟩ | ⟨rfl, hi, e9⟩)
  · refine GP.weq _ e9 ?_
    exact g_iret (pc := 9) dX12_isStore_9 (Or.inl ⟨rfl, by rw [IL, L7, L00] at hi; exact hi, rfl⟩)
  · refine GP.weq _ e9 ?_
    exact g_iret (pc := 9) dX12_isStore_9 (Or.inr ⟨rfl, by rw [IL, L7, L00] at hi; exact hi, rfl⟩)
abbrev BX12_degreeOf (w0 : Wd) (Post : Option Value → Wd → Prop) (w : Wd) (pc : Nat) (ls : List (Nat × Value)) (st : List Value) : Prop := GP "degreeOf" RX12 cX12_degreeOf 2 (some .int) 0 0 none w0 Post w pc ls st
abbrev EX12_degreeOf (As : List Value) (w : Wd) (Post : Option Value → Wd → Prop) : Prop := EP yX12_degreeOf cX12_degreeOf 2 (some .int) 0 As w Post
theorem mp_degreeOf (w : Wd) {Y i : Nat} {th st nu dg dd ld be ib ta fa re ig : Int32} {g : Nat → Int32} (hY : w[Y]? = some (oM Y th st nu dg dd ld be ib ta fa re ig)) (h2 : w[Y + 2]? = some (aI 0 626 g)) (hi : i < 8) : EX12_degreeOf [.ref Y, .int (nI i)] w (fun r w' => r = some (.int (g (14 * i))) ∧ w' = w) := by
  refine EP.of (plainFor_of_name (by decide)) [(0, .ref Y), (1, .int (nI i))] rfl (Nat.le_of_ble_eq_true rfl) (fun r wf h => by obtain ⟨rfl, -⟩ := h; trivial) ?_
  show BX12_degreeOf w _ w 0 [(0, .ref Y), (1, .int (nI i))] []
  refine g_aload_n (pc := 0) 0 dX12_degreeOf_0 rfl rfl ?_
  refine g_get (pc := 1) dX12_degreeOf_1 fk_X12_13 hY rfl ?_
  refine g_bipush (pc := 4) (v := nI 14) dX12_degreeOf_4 (by decide) ?_
  refine g_iload_n (pc := 6) 1 dX12_degreeOf_6 rfl rfl ?_
  refine n_imul (pc := 7) dX12_degreeOf_7 ?_
  refine g_iald (pc := 8) (14 * i) dX12_degreeOf_8 h2 (IXn (by omega) (by omega)) ?_
  exact g_iret (pc := 9) dX12_degreeOf_9 ⟨rfl, rfl⟩
abbrev BX12_at (w0 : Wd) (Post : Option Value → Wd → Prop) (w : Wd) (pc : Nat) (ls : List (Nat × Value)) (st : List Value) : Prop := GP "at" RX12 cX12_at 3 (some .int) 0 0 none w0 Post w pc ls st
abbrev EX12_at (As : List Value) (w : Wd) (Post : Option Value → Wd → Prop) : Prop := EP yX12_at cX12_at 3 (some .int) 0 As w Post
theorem mp_at (w : Wd) {Y i j : Nat} {th st nu dg dd ld be ib ta fa re ig : Int32} {g : Nat → Int32} (hY : w[Y]? = some (oM Y th st nu dg dd ld be ib ta fa re ig)) (h2 : w[Y + 2]? = some (aI 0 626 g)) (hi : i < 8) (hj : j < 13) : EX12_at [.ref Y, .int (nI i), .int (nI j)] w (fun r w' => r = some (.int (g (14 * i + 1 + j))) ∧ w' = w) := by
  refine EP.of (plainFor_of_name (by decide)) [(0, .ref Y), (1, .int (nI i)), (2, .int (nI j))] rfl (Nat.le_of_ble_eq_true rfl) (fun r wf h => by obtain ⟨rfl, -⟩ := h; trivial) ?_
  show BX12_at w _ w 0 [(0, .ref Y), (1, .int (nI i)), (2, .int (nI j))] []
  refine g_aload_n (pc := 0) 0 dX12_at_0 rfl rfl ?_
  refine g_get (pc := 1) dX12_at_1 fk_X12_13 hY rfl ?_
  refine g_bipush (pc := 4) (v := nI 14) dX12_at_4 (by decide) ?_
  refine g_iload_n (pc := 6) 1 dX12_at_6 rfl rfl ?_
  refine n_imul (pc := 7) dX12_at_7 ?_
  refine g_iconst (pc := 8) (v := nI 1) dX12_at_8 (by decide) ?_
  refine n_iadd (pc := 9) dX12_at_9 ?_
  refine g_iload_n (pc := 10) 2 dX12_at_10 rfl rfl ?_
  refine n_iadd (pc := 11) dX12_at_11 ?_
  refine g_iald (pc := 12) (((14 * i) + 1) + j) dX12_at_12 h2 (IXn (by omega) (by omega)) ?_
  exact g_iret (pc := 13) dX12_at_13 ⟨rfl, rfl⟩
abbrev BX12_degrees (w0 : Wd) (Post : Option Value → Wd → Prop) (w : Wd) (pc : Nat) (ls : List (Nat × Value)) (st : List Value) : Prop := GP "degrees" RX12 cX12_degrees 3 (some .int) 0 0 none w0 Post w pc ls st
abbrev EX12_degrees (As : List Value) (w : Wd) (Post : Option Value → Wd → Prop) : Prop := EP yX12_degrees cX12_degrees 3 (some .int) 0 As w Post
theorem dgs_loop {w0 w : Wd} {Y : Nat} {th st nu dg dd ld be ib ta fa re ig : Int32} {g : Nat → Int32} (hY : w[Y]? = some (oM Y th st nu dg dd ld be ib ta fa re ig)) (h2 : w[Y + 2]? = some (aI 0 626 g)) {d : Nat → Nat} (hd : ∀ i, i < 8 → g (14 * i) = nI (d i)) : ∀ (z i : Nat), 8 = i + z → BX12_degrees w0 (fun r w' => r = some (.int (nI (dSum d 8))) ∧ w' = w) w 4 [(2, .int (nI i)), (1, .int (nI (dSum d i))), (0, .ref Y)] [] := by
  intro z
  induction z with
  | zero =>
    intro i hz
    refine g_iload_n (pc := 4) 0 dX12_degrees_4 rfl rfl ?_
    refine g_bipush (pc := 5) (v := nI 8) dX12_degrees_5 (by decide) ?_
    refine n_icmp_ge (pc := 7) 28 dX12_degrees_7 (by decide) (by omega) (by omega) (fun hb9 => ?_) (fun hb9 => ?_)
    · have e9 : i = 8 := by omega
      subst e9
      refine g_iload_n (pc := 28) 1 dX12_degrees_28 rfl rfl ?_
      exact g_iret (pc := 29) dX12_degrees_29 ⟨rfl, rfl⟩
    · exact absurd hb9 (by omega)
  | succ z ih =>
    intro i hz
    refine g_iload_n (pc := 4) 0 dX12_degrees_4 rfl rfl ?_
    refine g_bipush (pc := 5) (v := nI 8) dX12_degrees_5 (by decide) ?_
    refine n_icmp_ge (pc := 7) 28 dX12_degrees_7 (by decide) (by omega) (by omega) (fun hb9 => ?_) (fun hb9 => ?_)
    · exact absurd hb9 (by omega)
    · refine g_iload_n (pc := 10) 1 dX12_degrees_10 rfl rfl ?_
      refine g_aload_n (pc := 11) 2 dX12_degrees_11 rfl rfl ?_
      refine g_get (pc := 12) dX12_degrees_12 fk_X12_13 hY rfl ?_
      refine g_bipush (pc := 15) (v := nI 14) dX12_degrees_15 (by decide) ?_
      refine g_iload_n (pc := 17) 0 dX12_degrees_17 rfl rfl ?_
      refine n_imul (pc := 18) dX12_degrees_18 ?_
      refine g_iald (pc := 19) (14 * i) dX12_degrees_19 h2 (IXn (by omega) (by omega)) ?_
      refine GP.ti (nI (d i)) (hd i (by omega)) ?_
      refine n_iadd (pc := 20) dX12_degrees_20 ?_
      refine g_istore_n (pc := 21) [(1, .int (nI ((dSum d i) + (d i)))), (2, .int (nI i)), (0, .ref Y)] dX12_degrees_21 rfl (by decide) rfl ?_
      refine n_iinc (pc := 22) (c := 1) [(2, .int (nI (i + 1))), (1, .int (nI ((dSum d i) + (d i)))), (0, .ref Y)] 1 dX12_degrees_22 rfl (by decide) (by decide) rfl ?_
      refine g_goto (pc := 25) 4 dX12_degrees_25 (by decide) ?_
      exact GP.lsub _ (by simp [dSum]) (ih (i + 1) (by omega))
theorem mp_degrees (w : Wd) {Y : Nat} {th st nu dg dd ld be ib ta fa re ig : Int32} {g : Nat → Int32} (hY : w[Y]? = some (oM Y th st nu dg dd ld be ib ta fa re ig)) (h2 : w[Y + 2]? = some (aI 0 626 g)) {d : Nat → Nat} (hd : ∀ i, i < 8 → g (14 * i) = nI (d i)) : EX12_degrees [.ref Y] w (fun r w' => r = some (.int (nI (dSum d 8))) ∧ w' = w) := by
  refine EP.of (plainFor_of_name (by decide)) [(0, .ref Y)] rfl (Nat.le_of_ble_eq_true rfl) (fun r wf h => by obtain ⟨rfl, -⟩ := h; trivial) ?_
  show BX12_degrees w _ w 0 [(0, .ref Y)] []
  refine g_iconst (pc := 0) (v := nI 0) dX12_degrees_0 (by decide) ?_
  refine g_istore_n (pc := 1) [(1, .int (nI 0)), (0, .ref Y)] dX12_degrees_1 rfl (by decide) rfl ?_
  refine g_iconst (pc := 2) (v := nI 0) dX12_degrees_2 (by decide) ?_
  refine g_istore_n (pc := 3) [(2, .int (nI 0)), (1, .int (nI 0)), (0, .ref Y)] dX12_degrees_3 rfl (by decide) rfl ?_
  exact GP.lsub _ (by simp [dSum]) (dgs_loop hY h2 hd 8 0 rfl)
def zrF (h : Nat → Int64) (k : Nat) : Nat → Int64 := fun i => if i < k then 0 else h i
theorem zrF_s {h : Nat → Int64} {k : Nat} : vp_updL (zrF h k) k 0 = zrF h (k + 1) := by
  funext i
  by_cases e : i = k
  · rw [e, upL_s]
    unfold zrF
    rw [if_pos (by omega)]
  · rw [upL_n e]
    unfold zrF
    by_cases h : i < k
    · rw [if_pos h, if_pos (by omega)]
    · rw [if_neg h, if_neg (by omega)]
theorem zrF_0 {h : Nat → Int64} : zrF h 0 = h := by
  funext i
  unfold zrF
  rw [if_neg (by omega)]
theorem zrF_t {h : Nat → Int64} {k i : Nat} (hi : i < k) : zrF h k i = 0 := if_pos hi
abbrev BX12_empty (w0 : Wd) (Post : Option Value → Wd → Prop) (w : Wd) (pc : Nat) (ls : List (Nat × Value)) (st : List Value) : Prop := GP "empty" RX12 cX12_empty 2 none 0 0 none w0 Post w pc ls st
abbrev EX12_empty (As : List Value) (w : Wd) (Post : Option Value → Wd → Prop) : Prop := EP yX12_empty cX12_empty 2 none 0 As w Post
theorem emp_loop {w0 w : Wd} {Y : Nat} {th st nu dg dd ld be ib ta fa re ig : Int32} {h : Nat → Int64} (hY : w[Y]? = some (oM Y th st nu dg dd ld be ib ta fa re ig)) (h7 : w[Y + 7]? = some (aL 60 h)) : ∀ (z k : Nat), 60 = k + z → BX12_empty w0 (fun r w' => r = none ∧ w' = (w.set (Y + 7) (aL 60 (zrF h 60))).set Y (oM Y th st nu (-1) dd ld be ib ta fa re ig)) (w.set (Y + 7) (aL 60 (zrF h k))) 2 [(1, .int (nI k)), (0, .ref Y)] [] := by
  intro z
  induction z with
  | zero =>
    intro k hz
    refine g_iload_n (pc := 2) 0 dX12_empty_2 rfl rfl ?_
    refine g_bipush (pc := 3) (v := nI 60) dX12_empty_3 (by decide) ?_
    refine n_icmp_ge (pc := 5) 21 dX12_empty_5 (by decide) (by omega) (by omega) (fun hb9 => ?_) (fun hb9 => ?_)
    · have e9 : k = 60 := by omega
      subst e9
      refine g_aload_n (pc := 21) 1 dX12_empty_21 rfl rfl ?_
      refine g_iconst (pc := 22) (v := -1) dX12_empty_22 (by decide) ?_
      refine g_put (pc := 23) (.int th :: .int st :: .ref (Y + 1) :: .ref (Y + 2) :: .ref (Y + 3) :: .ref (Y + 4) :: .int nu :: .ref (Y + 5) :: .ref (Y + 6) :: .ref (Y + 7) :: .int (-1) :: .ref (Y + 8) :: .int dd :: .ref (Y + 9) :: .ref (Y + 10) :: .ref (Y + 11) :: .ref (Y + 12) :: .int ld :: .int be :: .int ib :: .ref (Y + 13) :: .ref (Y + 14) :: .ref (Y + 15) :: .ref (Y + 16) :: .ref (Y + 17) :: .int ta :: .int fa :: .int re :: .int ig :: .ref (Y + 18) :: .ref (Y + 19) :: .ref (Y + 20) :: .ref (Y + 21) :: []) dX12_empty_23 fk_X12_113 (lk_ne (show (Y + 7) ≠ Y by omega) hY) (Nat.le_of_ble_eq_true rfl) rfl rfl ?_
      exact g_vret (pc := 26) dX12_empty_26 ⟨rfl, rfl⟩
    · exact absurd hb9 (by omega)
  | succ z ih =>
    intro k hz
    refine g_iload_n (pc := 2) 0 dX12_empty_2 rfl rfl ?_
    refine g_bipush (pc := 3) (v := nI 60) dX12_empty_3 (by decide) ?_
    refine n_icmp_ge (pc := 5) 21 dX12_empty_5 (by decide) (by omega) (by omega) (fun hb9 => ?_) (fun hb9 => ?_)
    · exact absurd hb9 (by omega)
    · refine g_aload_n (pc := 8) 1 dX12_empty_8 rfl rfl ?_
      refine g_get (pc := 9) dX12_empty_9 fk_X12_29 (lk_ne (show (Y + 7) ≠ Y by omega) hY) rfl ?_
      refine g_iload_n (pc := 12) 0 dX12_empty_12 rfl rfl ?_
      refine g_lconst (pc := 13) (v := 0) dX12_empty_13 (by decide) ?_
      refine g_last (pc := 14) k dX12_empty_14 (lk_eq h7) (IXn (by omega) (by omega)) ?_
      refine GP.weq (w.set (Y + 7) (aL 60 (vp_updL (zrF h k) k 0))) (by rw [List.set_set]) ?_
      refine n_iinc (pc := 15) (c := 1) [(1, .int (nI (k + 1))), (0, .ref Y)] 0 dX12_empty_15 rfl (by decide) (by decide) rfl ?_
      refine g_goto (pc := 18) 2 dX12_empty_18 (by decide) ?_
      rw [zrF_s]
      exact GP.lsub _ (by simp) (ih (k + 1) (by omega))
theorem mp_empty (w : Wd) {Y : Nat} {th st nu dg dd ld be ib ta fa re ig : Int32} {h : Nat → Int64} (hY : w[Y]? = some (oM Y th st nu dg dd ld be ib ta fa re ig)) (h7 : w[Y + 7]? = some (aL 60 h)) : EX12_empty [.ref Y] w (fun r w' => r = none ∧ w' = (w.set (Y + 7) (aL 60 (zrF h 60))).set Y (oM Y th st nu (-1) dd ld be ib ta fa re ig)) := by
  refine EP.of (plainFor_of_name (by decide)) [(0, .ref Y)] rfl (Nat.le_of_ble_eq_true rfl) (fun r wf h => by obtain ⟨rfl, -⟩ := h; trivial) ?_
  show BX12_empty w _ w 0 [(0, .ref Y)] []
  refine g_iconst (pc := 0) (v := nI 0) dX12_empty_0 (by decide) ?_
  refine g_istore_n (pc := 1) [(1, .int (nI 0)), (0, .ref Y)] dX12_empty_1 rfl (by decide) rfl ?_
  refine GP.weq (w.set (Y + 7) (aL 60 (zrF h 0))) (by rw [zrF_0, set_same h7]) ?_
  exact GP.lsub _ (by simp) (emp_loop hY h7 60 0 rfl)
abbrev BX12_find (w0 : Wd) (Post : Option Value → Wd → Prop) (w : Wd) (pc : Nat) (ls : List (Nat × Value)) (st : List Value) : Prop := GP "find" RX12 cX12_find 2 none 0 0 none w0 Post w pc ls st
abbrev EX12_find (As : List Value) (w : Wd) (Post : Option Value → Wd → Prop) : Prop := EP yX12_find cX12_find 2 none 0 As w Post
theorem top_z {h : Nat → Int64} {k c : Nat} (hc : topI (toI h) k c) (h0 : h k = 0) : topI (toI h) (k + 1) c := by
  refine ⟨by have := hc.1; omega, fun j a b => ?_, hc.2.2⟩
  by_cases e : j = k
  · rw [e]
    show (h k).toInt = 0
    rw [h0]
    rfl
  · exact hc.2.1 j a (by omega)
theorem top_n {h : Nat → Int64} {k : Nat} (h0 : h k ≠ 0) : topI (toI h) (k + 1) (k + 1) := ⟨Nat.le_refl _, fun j a b => absurd b (by omega), Or.inr (fun g => h0 (L0.mp g))⟩
theorem fin_loop {w0 w : Wd} {Y : Nat} {th st nu dg dd ld be ib ta fa re ig : Int32} {h : Nat → Int64} (hY : w[Y]? = some (oM Y th st nu dg dd ld be ib ta fa re ig)) (h7 : w[Y + 7]? = some (aL 60 h)) : ∀ (z k c : Nat), 60 = k + z → topI (toI h) k c → BX12_find w0 (fun r w' => r = none ∧ ∃ c, topI (toI h) 60 c ∧ w' = w.set Y (oM Y th st nu (dgN c) dd ld be ib ta fa re ig)) (w.set Y (oM Y th st nu (dgN c) dd ld be ib ta fa re ig)) 7 [(1, .int (nI k)), (0, .ref Y)] [] := by
  intro z
  induction z with
  | zero =>
    intro k c hz hc
    refine g_iload_n (pc := 7) 0 dX12_find_7 rfl rfl ?_
    refine g_bipush (pc := 8) (v := nI 60) dX12_find_8 (by decide) ?_
    refine n_icmp_ge (pc := 10) 42 dX12_find_10 (by decide) (by omega) (by omega) (fun hb9 => ?_) (fun hb9 => ?_)
    · have e9 : k = 60 := by omega
      subst e9
      exact g_vret (pc := 42) dX12_find_42 ⟨rfl, c, hc, rfl⟩
    · exact absurd hb9 (by omega)
  | succ z ih =>
    intro k c hz hc
    refine g_iload_n (pc := 7) 0 dX12_find_7 rfl rfl ?_
    refine g_bipush (pc := 8) (v := nI 60) dX12_find_8 (by decide) ?_
    refine n_icmp_ge (pc := 10) 42 dX12_find_10 (by decide) (by omega) (by omega) (fun hb9 => ?_) (fun hb9 => ?_)
    · exact absurd hb9 (by omega)
    · refine g_aload_n (pc := 13) 1 dX12_find_13 rfl rfl ?_
      refine g_aload_n (pc := 14) 1 dX12_find_14 rfl rfl ?_
      refine g_get (pc := 15) dX12_find_15 fk_X12_29 (lk_eq hY) rfl ?_
      refine g_iload_n (pc := 18) 0 dX12_find_18 rfl rfl ?_
      refine g_lald (pc := 19) k dX12_find_19 (lk_ne (show Y ≠ (Y + 7) by omega) h7) (IXn (by omega) (by omega)) ?_
      refine g_lconst (pc := 20) (v := 0) dX12_find_20 (by decide) ?_
      refine g_lcmp_eq (pc := 21) 29 dX12_find_21 dX12_find_22 (by decide) (fun h0 => ?_) (fun h0 => ?_)
      · refine g_aload_n (pc := 29) 1 dX12_find_29 rfl rfl ?_
        refine g_get (pc := 30) dX12_find_30 fk_X12_113 (lk_eq hY) rfl ?_
        refine g_put (pc := 33) (.int th :: .int st :: .ref (Y + 1) :: .ref (Y + 2) :: .ref (Y + 3) :: .ref (Y + 4) :: .int nu :: .ref (Y + 5) :: .ref (Y + 6) :: .ref (Y + 7) :: .int (dgN c) :: .ref (Y + 8) :: .int dd :: .ref (Y + 9) :: .ref (Y + 10) :: .ref (Y + 11) :: .ref (Y + 12) :: .int ld :: .int be :: .int ib :: .ref (Y + 13) :: .ref (Y + 14) :: .ref (Y + 15) :: .ref (Y + 16) :: .ref (Y + 17) :: .int ta :: .int fa :: .int re :: .int ig :: .ref (Y + 18) :: .ref (Y + 19) :: .ref (Y + 20) :: .ref (Y + 21) :: []) dX12_find_33 fk_X12_113 (lk_eq hY) (Nat.le_of_ble_eq_true rfl) rfl rfl ?_
        refine GP.weq (w.set Y (.inr (11, .int th :: .int st :: .ref (Y + 1) :: .ref (Y + 2) :: .ref (Y + 3) :: .ref (Y + 4) :: .int nu :: .ref (Y + 5) :: .ref (Y + 6) :: .ref (Y + 7) :: .int (dgN c) :: .ref (Y + 8) :: .int dd :: .ref (Y + 9) :: .ref (Y + 10) :: .ref (Y + 11) :: .ref (Y + 12) :: .int ld :: .int be :: .int ib :: .ref (Y + 13) :: .ref (Y + 14) :: .ref (Y + 15) :: .ref (Y + 16) :: .ref (Y + 17) :: .int ta :: .int fa :: .int re :: .int ig :: .ref (Y + 18) :: .ref (Y + 19) :: .ref (Y + 20) :: .ref (Y + 21) :: []))) (by rw [List.set_set]) ?_
        refine n_iinc (pc := 36) (c := 1) [(1, .int (nI (k + 1))), (0, .ref Y)] 0 dX12_find_36 rfl (by decide) (by decide) rfl ?_
        refine g_goto (pc := 39) 7 dX12_find_39 (by decide) ?_
        exact GP.lsub _ (by simp) (ih (k + 1) c (by omega) (top_z hc h0))
      · refine g_iload_n (pc := 25) 0 dX12_find_25 rfl rfl ?_
        refine g_goto (pc := 26) 33 dX12_find_26 (by decide) ?_
        refine g_put (pc := 33) (.int th :: .int st :: .ref (Y + 1) :: .ref (Y + 2) :: .ref (Y + 3) :: .ref (Y + 4) :: .int nu :: .ref (Y + 5) :: .ref (Y + 6) :: .ref (Y + 7) :: .int (nI k) :: .ref (Y + 8) :: .int dd :: .ref (Y + 9) :: .ref (Y + 10) :: .ref (Y + 11) :: .ref (Y + 12) :: .int ld :: .int be :: .int ib :: .ref (Y + 13) :: .ref (Y + 14) :: .ref (Y + 15) :: .ref (Y + 16) :: .ref (Y + 17) :: .int ta :: .int fa :: .int re :: .int ig :: .ref (Y + 18) :: .ref (Y + 19) :: .ref (Y + 20) :: .ref (Y + 21) :: []) dX12_find_33 fk_X12_113 (lk_eq hY) (Nat.le_of_ble_eq_true rfl) rfl rfl ?_
        refine GP.weq (w.set Y (.inr (11, .int th :: .int st :: .ref (Y + 1) :: .ref (Y + 2) :: .ref (Y + 3) :: .ref (Y + 4) :: .int nu :: .ref (Y + 5) :: .ref (Y + 6) :: .ref (Y + 7) :: .int (nI k) :: .ref (Y + 8) :: .int dd :: .ref (Y + 9) :: .ref (Y + 10) :: .ref (Y + 11) :: .ref (Y + 12) :: .int ld :: .int be :: .int ib :: .ref (Y + 13) :: .ref (Y + 14) :: .ref (Y + 15) :: .ref (Y + 16) :: .ref (Y + 17) :: .int ta :: .int fa :: .int re :: .int ig :: .ref (Y + 18) :: .ref (Y + 19) :: .ref (Y + 20) :: .ref (Y + 21) :: []))) (by rw [List.set_set]) ?_
        refine n_iinc (pc := 36) (c := 1) [(1, .int (nI (k + 1))), (0, .ref Y)] 0 dX12_find_36 rfl (by decide) (by decide) rfl ?_
        refine g_goto (pc := 39) 7 dX12_find_39 (by decide) ?_
        exact GP.lsub _ (by simp) (ih (k + 1) (k + 1) (by omega) (top_n h0))
theorem mp_find (w : Wd) {Y : Nat} {th st nu dg dd ld be ib ta fa re ig : Int32} {h : Nat → Int64} (hY : w[Y]? = some (oM Y th st nu dg dd ld be ib ta fa re ig)) (h7 : w[Y + 7]? = some (aL 60 h)) : EX12_find [.ref Y] w (fun r w' => r = none ∧ ∃ c, topI (toI h) 60 c ∧ w' = w.set Y (oM Y th st nu (dgN c) dd ld be ib ta fa re ig)) := by
  refine EP.of (plainFor_of_name (by decide)) [(0, .ref Y)] rfl (Nat.le_of_ble_eq_true rfl) (fun r wf h => by obtain ⟨rfl, -⟩ := h; trivial) ?_
  show BX12_find w _ w 0 [(0, .ref Y)] []
  refine g_aload_n (pc := 0) 0 dX12_find_0 rfl rfl ?_
  refine g_iconst (pc := 1) (v := -1) dX12_find_1 (by decide) ?_
  refine g_put (pc := 2) (.int th :: .int st :: .ref (Y + 1) :: .ref (Y + 2) :: .ref (Y + 3) :: .ref (Y + 4) :: .int nu :: .ref (Y + 5) :: .ref (Y + 6) :: .ref (Y + 7) :: .int (-1) :: .ref (Y + 8) :: .int dd :: .ref (Y + 9) :: .ref (Y + 10) :: .ref (Y + 11) :: .ref (Y + 12) :: .int ld :: .int be :: .int ib :: .ref (Y + 13) :: .ref (Y + 14) :: .ref (Y + 15) :: .ref (Y + 16) :: .ref (Y + 17) :: .int ta :: .int fa :: .int re :: .int ig :: .ref (Y + 18) :: .ref (Y + 19) :: .ref (Y + 20) :: .ref (Y + 21) :: []) dX12_find_2 fk_X12_113 hY (Nat.le_of_ble_eq_true rfl) rfl rfl ?_
  refine g_iconst (pc := 5) (v := nI 0) dX12_find_5 (by decide) ?_
  refine g_istore_n (pc := 6) [(1, .int (nI 0)), (0, .ref Y)] dX12_find_6 rfl (by decide) rfl ?_
  refine GP.weq (w.set Y (oM Y th st nu (dgN 0) dd ld be ib ta fa re ig)) rfl ?_
  exact GP.lsub _ (by simp) (fin_loop hY h7 60 0 0 rfl ⟨Nat.le_refl _, fun j a b => absurd b (Nat.not_lt_zero _), Or.inl rfl⟩)
abbrev BX12_isFit (w0 : Wd) (Post : Option Value → Wd → Prop) (w : Wd) (pc : Nat) (ls : List (Nat × Value)) (st : List Value) : Prop := GP "isFit" RX12 cX12_isFit 3 (some .boolean) 1 39 none w0 Post w pc ls st
abbrev EX12_isFit (As : List Value) (w : Wd) (Post : Option Value → Wd → Prop) : Prop := EP yX12_isFit cX12_isFit 3 (some .boolean) 1 As w Post
def ftB (h : Nat → Int64) (c k : Nat) : Prop := (1 ≤ c ∧ c ≤ 13) ∧ ∀ j, j < k → -9999 ≤ (h j).toInt ∧ (h j).toInt ≤ 9999
theorem ftB_s {h : Nat → Int64} {c k : Nat} (a : ftB h c k) (b : -9999 ≤ (h k).toInt ∧ (h k).toInt ≤ 9999) : ftB h c (k + 1) := ⟨a.1, fun j hj => by by_cases e : j = k; · { rw [e]; exact b }; · { exact a.2 j (by omega) }⟩
theorem ftB_f {h : Nat → Int64} {c : Nat} (hc : topI (toI h) 60 c) : ftB h c 60 ↔ fitI (toI h) c := by
  refine ⟨fun a => ⟨a.1.1, a.1.2, fun j hj => a.2 j (by have := a.1; omega)⟩, fun a => ⟨⟨a.1, a.2.1⟩, fun j hj => ?_⟩⟩
  by_cases e : j < c
  · exact a.2.2 j e
  · have h9 : (h j).toInt = 0 := hc.2.1 j (by omega) hj
    omega
theorem L12 : (12 : Int64).toInt = 12 := by decide
theorem L9m : (-9999 : Int64).toInt = -9999 := by decide
theorem L9p : (9999 : Int64).toInt = 9999 := by decide
theorem fit_loop {w0 w : Wd} {Y c : Nat} {th st nu dd ld be ib ta fa re ig : Int32} {h : Nat → Int64} (hY : w[Y]? = some (oM Y th st nu (dgN c) dd ld be ib ta fa re ig)) (h7 : w[Y + 7]? = some (aL 60 h)) (hc : topI (toI h) 60 c) : ∀ (z k : Nat) (b : Int32), 60 = k + z → ((b = nI 1 ∧ ftB h c k) ∨ (b = nI 0 ∧ ¬ ftB h c 60)) → BX12_isFit w0 (fun r w' => (r = some (.int (nI 1)) ∧ fitI (toI h) c ∧ w' = w) ∨ (r = some (.int (nI 0)) ∧ ¬ fitI (toI h) c ∧ w' = w)) w 15 [(2, .int (nI k)), (1, .int b), (0, .ref Y)] [] := by
  intro z
  induction z with
  | zero =>
    intro k b hz hb
    refine g_iload_n (pc := 15) 0 dX12_isFit_15 rfl rfl ?_
    refine g_bipush (pc := 16) (v := nI 60) dX12_isFit_16 (by decide) ?_
    refine n_icmp_ge (pc := 18) 55 dX12_isFit_18 (by decide) (by omega) (by omega) (fun hb9 => ?_) (fun hb9 => ?_)
    · have e9 : k = 60 := by omega
      subst e9
      refine g_iload_n (pc := 55) 1 dX12_isFit_55 rfl rfl ?_
      rcases hb with ⟨rfl, hb⟩ | ⟨rfl, hb⟩
      · ·
          exact g_iret (pc := 56) dX12_isFit_56 (Or.inl ⟨rfl, (ftB_f hc).mp hb, rfl⟩)
      · ·
          exact g_iret (pc := 56) dX12_isFit_56 (Or.inr ⟨rfl, fun g => hb ((ftB_f hc).mpr g), rfl⟩)
    · exact absurd hb9 (by omega)
  | succ z ih =>
    intro k b hz hb
    refine g_iload_n (pc := 15) 0 dX12_isFit_15 rfl rfl ?_
    refine g_bipush (pc := 16) (v := nI 60) dX12_isFit_16 (by decide) ?_
    refine n_icmp_ge (pc := 18) 55 dX12_isFit_18 (by decide) (by omega) (by omega) (fun hb9 => ?_) (fun hb9 => ?_)
    · exact absurd hb9 (by omega)
    · refine g_iload_n (pc := 21) 1 dX12_isFit_21 rfl rfl ?_
      rcases hb with ⟨rfl, hb⟩ | ⟨rfl, hb⟩
      · ·
          refine n_if_eq (pc := 22) 47 dX12_isFit_22 (by decide) (by omega) (fun h1 => ?_) (fun h1 => ?_)
          · exact absurd h1 (by decide)
          · refine g_aload_n (pc := 25) 2 dX12_isFit_25 rfl rfl ?_
            refine g_get (pc := 26) dX12_isFit_26 fk_X12_29 hY rfl ?_
            refine g_iload_n (pc := 29) 0 dX12_isFit_29 rfl rfl ?_
            refine g_lald (pc := 30) k dX12_isFit_30 h7 (IXn (by omega) (by omega)) ?_
            refine g_ldc2 (pc := 31) kc_X12_128 dX12_isFit_31 ?_
            refine g_ldc2 (pc := 34) kc_X12_130 dX12_isFit_34 ?_
            refine g_callS (pc := 37) [.long (h k), .long (-9999), .long (9999)] dX12_isFit_37 cs_X12_103.1 cs_X12_103.2 rfl rfl (Nat.le_of_ble_eq_true rfl) (by decide) (by decide) (mp_in _) ?_
            rintro _ w9 (⟨rfl, hi, e9⟩ | ⟨rfl, hi, e9⟩)
            · refine GP.weq _ e9 ?_
              refine n_if_eq (pc := 40) 47 dX12_isFit_40 (by decide) (by omega) (fun h2 => ?_) (fun h2 => ?_)
              · exact absurd h2 (by decide)
              · refine g_iconst (pc := 43) (v := nI 1) dX12_isFit_43 (by decide) ?_
                refine g_goto (pc := 44) 48 dX12_isFit_44 (by decide) ?_
                refine g_istore_n (pc := 48) [(1, .int (nI 1)), (2, .int (nI k)), (0, .ref Y)] dX12_isFit_48 rfl (by decide) rfl ?_
                refine n_iinc (pc := 49) (c := 1) [(2, .int (nI (k + 1))), (1, .int (nI 1)), (0, .ref Y)] 1 dX12_isFit_49 rfl (by decide) (by decide) rfl ?_
                refine g_goto (pc := 52) 15 dX12_isFit_52 (by decide) ?_
                rw [L9m, L9p] at hi
                exact GP.lsub _ (by simp) (ih (k + 1) _ (by omega) (Or.inl ⟨rfl, ftB_s hb hi⟩))
            · refine GP.weq _ e9 ?_
              refine n_if_eq (pc := 40) 47 dX12_isFit_40 (by decide) (by omega) (fun h2 => ?_) (fun h2 => ?_)
              · refine g_iconst (pc := 47) (v := nI 0) dX12_isFit_47 (by decide) ?_
                refine g_istore_n (pc := 48) [(1, .int (nI 0)), (2, .int (nI k)), (0, .ref Y)] dX12_isFit_48 rfl (by decide) rfl ?_
                refine n_iinc (pc := 49) (c := 1) [(2, .int (nI (k + 1))), (1, .int (nI 0)), (0, .ref Y)] 1 dX12_isFit_49 rfl (by decide) (by decide) rfl ?_
                refine g_goto (pc := 52) 15 dX12_isFit_52 (by decide) ?_
                rw [L9m, L9p] at hi
                exact GP.lsub _ (by simp) (ih (k + 1) _ (by omega) (Or.inr ⟨rfl, fun g => hi (g.2 k (by omega))⟩))
              · exact absurd rfl h2
      · ·
          refine n_if_eq (pc := 22) 47 dX12_isFit_22 (by decide) (by omega) (fun h1 => ?_) (fun h1 => ?_)
          · refine g_iconst (pc := 47) (v := nI 0) dX12_isFit_47 (by decide) ?_
            refine g_istore_n (pc := 48) [(1, .int (nI 0)), (2, .int (nI k)), (0, .ref Y)] dX12_isFit_48 rfl (by decide) rfl ?_
            refine n_iinc (pc := 49) (c := 1) [(2, .int (nI (k + 1))), (1, .int (nI 0)), (0, .ref Y)] 1 dX12_isFit_49 rfl (by decide) (by decide) rfl ?_
            refine g_goto (pc := 52) 15 dX12_isFit_52 (by decide) ?_
            exact GP.lsub _ (by simp) (ih (k + 1) _ (by omega) (Or.inr ⟨rfl, hb⟩))
          · exact absurd rfl h1
theorem mp_isFit (w : Wd) {Y c : Nat} {th st nu dd ld be ib ta fa re ig : Int32} {h : Nat → Int64} (hY : w[Y]? = some (oM Y th st nu (dgN c) dd ld be ib ta fa re ig)) (h7 : w[Y + 7]? = some (aL 60 h)) (hc : topI (toI h) 60 c) : EX12_isFit [.ref Y] w (fun r w' => (r = some (.int (nI 1)) ∧ fitI (toI h) c ∧ w' = w) ∨ (r = some (.int (nI 0)) ∧ ¬ fitI (toI h) c ∧ w' = w)) := by
  refine EP.of (plainFor_of_name (by decide)) [(0, .ref Y)] rfl (Nat.le_of_ble_eq_true rfl) (fun r wf h => by rcases h with ⟨rfl, -⟩ | ⟨rfl, -⟩; exact Or.inr rfl; exact Or.inl rfl) ?_
  show BX12_isFit w _ w 0 [(0, .ref Y)] []
  refine g_aload_n (pc := 0) 0 dX12_isFit_0 rfl rfl ?_
  refine g_get (pc := 1) dX12_isFit_1 fk_X12_113 hY rfl ?_
  refine g_i2l (pc := 4) dX12_isFit_4 ?_
  refine g_lconst (pc := 5) (v := 0) dX12_isFit_5 (by decide) ?_
  refine g_ldc2 (pc := 6) kc_X12_126 dX12_isFit_6 ?_
  refine g_callS (pc := 9) [.long ((dgN c).toInt64), .long 0, .long (12)] dX12_isFit_9 cs_X12_103.1 cs_X12_103.2 rfl rfl (Nat.le_of_ble_eq_true rfl) (by decide) (by decide) (mp_in _) ?_
  rintro _ w9 (⟨rfl, hi, e9⟩ | ⟨rfl, hi, e9⟩)
  · refine GP.weq _ e9 ?_
    rw [IL, L12, L00, dgN_I (by have := hc.1; omega)] at hi
    refine g_istore_n (pc := 12) [(1, .int (nI 1)), (0, .ref Y)] dX12_isFit_12 rfl (by decide) rfl ?_
    refine g_iconst (pc := 13) (v := nI 0) dX12_isFit_13 (by decide) ?_
    refine g_istore_n (pc := 14) [(2, .int (nI 0)), (1, .int (nI 1)), (0, .ref Y)] dX12_isFit_14 rfl (by decide) rfl ?_
    exact GP.lsub _ (by simp) (fit_loop hY h7 hc 60 0 _ rfl (Or.inl ⟨rfl, ⟨by omega, by omega⟩, fun j hj => absurd hj (Nat.not_lt_zero _)⟩))
  · refine GP.weq _ e9 ?_
    rw [IL, L12, L00, dgN_I (by have := hc.1; omega)] at hi
    refine g_istore_n (pc := 12) [(1, .int (nI 0)), (0, .ref Y)] dX12_isFit_12 rfl (by decide) rfl ?_
    refine g_iconst (pc := 13) (v := nI 0) dX12_isFit_13 (by decide) ?_
    refine g_istore_n (pc := 14) [(2, .int (nI 0)), (1, .int (nI 0)), (0, .ref Y)] dX12_isFit_14 rfl (by decide) rfl ?_
    exact GP.lsub _ (by simp) (fit_loop hY h7 hc 60 0 _ rfl (Or.inr ⟨rfl, fun g => hi ⟨by have := g.1; omega, by have := g.1; omega⟩⟩))
abbrev BX12_take (w0 : Wd) (Post : Option Value → Wd → Prop) (w : Wd) (pc : Nat) (ls : List (Nat × Value)) (st : List Value) : Prop := GP "take" RX12 cX12_take 3 none 1 39 none w0 Post w pc ls st
abbrev EX12_take (As : List Value) (w : Wd) (Post : Option Value → Wd → Prop) : Prop := EP yX12_take cX12_take 3 none 1 As w Post
theorem mtk_loop {w0 w : Wd} {Y i : Nat} {th st nu dg dd ld be ib ta fa re ig : Int32} {h0 : Nat → Int64} {g : Nat → Int32} {V : SV} (hY : w[Y]? = some (oM Y th st nu dg dd ld be ib ta fa re ig)) (h2 : w[Y + 2]? = some (aI 0 626 g)) (h7 : w[Y + 7]? = some (aL 60 h0)) (hV : rowR g V) (hi : i < 8) : ∀ (z k : Nat) (h : Nat → Int64), (V.1 i).1 + 1 = k + z → (∀ j, j < 60 → (h j).toInt = if j < k then (V.1 i).2 j else 0) → BX12_take w0 (fun r w' => r = none ∧ ∃ h' : Nat → Int64, (∀ k, k < 60 → (h' k).toInt = (V.1 i).2 k) ∧ w' = (w.set (Y + 7) (aL 60 h')).set Y (oM Y th st nu (nI (V.1 i).1) dd ld be ib ta fa re ig)) ((w.set (Y + 7) (aL 60 h)).set Y (oM Y th st nu (-1) dd ld be ib ta fa re ig)) 6 [(2, .int (nI k)), (1, .int (nI i)), (0, .ref Y)] [] := by
  obtain ⟨⟨ok1, ok2, ok3, ok4⟩, hd, hr⟩ := hV.1 i hi
  intro z
  induction z with
  | zero =>
    intro k h hz hh
    refine g_iload_n (pc := 6) 0 dX12_take_6 rfl rfl ?_
    refine g_aload_n (pc := 7) 2 dX12_take_7 rfl rfl ?_
    refine g_iload_n (pc := 8) 1 dX12_take_8 rfl rfl ?_
    refine g_callV (pc := 9) [.int (nI i)] dX12_take_9 cv_X12_119.1 cv_X12_119.2.1 cv_X12_119.2.2.1 cv_X12_119.2.2.2 (lk_eq (lk_ne (show (Y + 7) ≠ Y by omega) hY)) rfl rfl (Nat.le_of_ble_eq_true rfl) (by decide) (by decide) (mp_degreeOf _ (lk_eq (lk_ne (by omega) hY)) (lk_ne (by omega) (lk_ne (by omega) h2)) hi) ?_
    rintro _ w9 ⟨rfl, e9⟩
    refine GP.weq _ e9 ?_
    refine GP.ti (nI (V.1 i).1) hd ?_
    refine n_icmp_gt (pc := 12) 34 dX12_take_12 (by decide) (by omega) (by omega) (fun hb9 => ?_) (fun hb9 => ?_)
    · refine g_aload_n (pc := 34) 2 dX12_take_34 rfl rfl ?_
      refine g_aload_n (pc := 35) 2 dX12_take_35 rfl rfl ?_
      refine g_iload_n (pc := 36) 1 dX12_take_36 rfl rfl ?_
      refine g_callV (pc := 37) [.int (nI i)] dX12_take_37 cv_X12_119.1 cv_X12_119.2.1 cv_X12_119.2.2.1 cv_X12_119.2.2.2 (lk_eq (lk_ne (show (Y + 7) ≠ Y by omega) hY)) rfl rfl (Nat.le_of_ble_eq_true rfl) (by decide) (by decide) (mp_degreeOf _ (lk_eq (lk_ne (by omega) hY)) (lk_ne (by omega) (lk_ne (by omega) h2)) hi) ?_
      rintro _ w9 ⟨rfl, e9⟩
      refine GP.weq _ e9 ?_
      refine GP.ti (nI (V.1 i).1) hd ?_
      refine g_put (pc := 40) (.int th :: .int st :: .ref (Y + 1) :: .ref (Y + 2) :: .ref (Y + 3) :: .ref (Y + 4) :: .int nu :: .ref (Y + 5) :: .ref (Y + 6) :: .ref (Y + 7) :: .int (nI (V.1 i).1) :: .ref (Y + 8) :: .int dd :: .ref (Y + 9) :: .ref (Y + 10) :: .ref (Y + 11) :: .ref (Y + 12) :: .int ld :: .int be :: .int ib :: .ref (Y + 13) :: .ref (Y + 14) :: .ref (Y + 15) :: .ref (Y + 16) :: .ref (Y + 17) :: .int ta :: .int fa :: .int re :: .int ig :: .ref (Y + 18) :: .ref (Y + 19) :: .ref (Y + 20) :: .ref (Y + 21) :: []) dX12_take_40 fk_X12_113 (lk_eq (lk_ne (show (Y + 7) ≠ Y by omega) hY)) (Nat.le_of_ble_eq_true rfl) rfl rfl ?_
      refine GP.weq ((w.set (Y + 7) (aL 60 h)).set Y (.inr (11, .int th :: .int st :: .ref (Y + 1) :: .ref (Y + 2) :: .ref (Y + 3) :: .ref (Y + 4) :: .int nu :: .ref (Y + 5) :: .ref (Y + 6) :: .ref (Y + 7) :: .int (nI (V.1 i).1) :: .ref (Y + 8) :: .int dd :: .ref (Y + 9) :: .ref (Y + 10) :: .ref (Y + 11) :: .ref (Y + 12) :: .int ld :: .int be :: .int ib :: .ref (Y + 13) :: .ref (Y + 14) :: .ref (Y + 15) :: .ref (Y + 16) :: .ref (Y + 17) :: .int ta :: .int fa :: .int re :: .int ig :: .ref (Y + 18) :: .ref (Y + 19) :: .ref (Y + 20) :: .ref (Y + 21) :: []))) (by rw [List.set_set]) ?_
      have e9 : k = (V.1 i).1 + 1 := by omega
      exact g_vret (pc := 43) dX12_take_43 ⟨rfl, h, fun j hj => by rw [hh j hj]; by_cases e : j < k; · { rw [if_pos e] }; · { rw [if_neg e, ok4 j (by omega)] }, rfl⟩
    · exact absurd hb9 (by omega)
  | succ z ih =>
    intro k h hz hh
    refine g_iload_n (pc := 6) 0 dX12_take_6 rfl rfl ?_
    refine g_aload_n (pc := 7) 2 dX12_take_7 rfl rfl ?_
    refine g_iload_n (pc := 8) 1 dX12_take_8 rfl rfl ?_
    refine g_callV (pc := 9) [.int (nI i)] dX12_take_9 cv_X12_119.1 cv_X12_119.2.1 cv_X12_119.2.2.1 cv_X12_119.2.2.2 (lk_eq (lk_ne (show (Y + 7) ≠ Y by omega) hY)) rfl rfl (Nat.le_of_ble_eq_true rfl) (by decide) (by decide) (mp_degreeOf _ (lk_eq (lk_ne (by omega) hY)) (lk_ne (by omega) (lk_ne (by omega) h2)) hi) ?_
    rintro _ w9 ⟨rfl, e9⟩
    refine GP.weq _ e9 ?_
    refine GP.ti (nI (V.1 i).1) hd ?_
    refine n_icmp_gt (pc := 12) 34 dX12_take_12 (by decide) (by omega) (by omega) (fun hb9 => ?_) (fun hb9 => ?_)
    · exact absurd hb9 (by omega)
    · refine g_aload_n (pc := 15) 2 dX12_take_15 rfl rfl ?_
      refine g_get (pc := 16) dX12_take_16 fk_X12_29 (lk_eq (lk_ne (show (Y + 7) ≠ Y by omega) hY)) rfl ?_
      refine g_iload_n (pc := 19) 0 dX12_take_19 rfl rfl ?_
      refine g_aload_n (pc := 20) 2 dX12_take_20 rfl rfl ?_
      refine g_iload_n (pc := 21) 1 dX12_take_21 rfl rfl ?_
      refine g_iload_n (pc := 22) 0 dX12_take_22 rfl rfl ?_
      refine g_callV (pc := 23) [.int (nI i), .int (nI k)] dX12_take_23 cv_X12_122.1 cv_X12_122.2.1 cv_X12_122.2.2.1 cv_X12_122.2.2.2 (lk_eq (lk_ne (show (Y + 7) ≠ Y by omega) hY)) rfl rfl (Nat.le_of_ble_eq_true rfl) (by decide) (by decide) (mp_at _ (lk_eq (lk_ne (by omega) hY)) (lk_ne (by omega) (lk_ne (by omega) h2)) hi (show k < 13 by omega)) ?_
      rintro _ w9 ⟨rfl, e9⟩
      refine GP.weq _ e9 ?_
      refine g_i2l (pc := 26) dX12_take_26 ?_
      refine g_last (pc := 27) k dX12_take_27 (lk_ne (show Y ≠ (Y + 7) by omega) (lk_eq h7)) (IXn (by omega) (by omega)) ?_
      refine GP.weq ((w.set (Y + 7) (aL 60 (vp_updL h k ((g (14 * i + 1 + k)).toInt64)))).set Y (.inr (11, .int th :: .int st :: .ref (Y + 1) :: .ref (Y + 2) :: .ref (Y + 3) :: .ref (Y + 4) :: .int nu :: .ref (Y + 5) :: .ref (Y + 6) :: .ref (Y + 7) :: .int (-1) :: .ref (Y + 8) :: .int dd :: .ref (Y + 9) :: .ref (Y + 10) :: .ref (Y + 11) :: .ref (Y + 12) :: .int ld :: .int be :: .int ib :: .ref (Y + 13) :: .ref (Y + 14) :: .ref (Y + 15) :: .ref (Y + 16) :: .ref (Y + 17) :: .int ta :: .int fa :: .int re :: .int ig :: .ref (Y + 18) :: .ref (Y + 19) :: .ref (Y + 20) :: .ref (Y + 21) :: []))) (by rw [List.set_comm _ _ (show Y ≠ (Y + 7) by omega), List.set_set]) ?_
      refine n_iinc (pc := 28) (c := 1) [(2, .int (nI (k + 1))), (1, .int (nI i)), (0, .ref Y)] 0 dX12_take_28 rfl (by decide) (by decide) rfl ?_
      refine g_goto (pc := 31) 6 dX12_take_31 (by decide) ?_
      refine GP.lsub _ (by simp) (ih (k + 1) _ (by omega) (fun j hj => ?_))
      by_cases e : j = k
      · rw [e, upL_s, IL, hr k (by omega), if_pos (by omega)]
      · rw [upL_n e, hh j hj]
        by_cases e2 : j < k
        · rw [if_pos e2, if_pos (by omega)]
        · rw [if_neg e2, if_neg (by omega)]
theorem mp_take (w : Wd) {Y i : Nat} {th st nu dg dd ld be ib ta fa re ig : Int32} {h0 : Nat → Int64} {g : Nat → Int32} {V : SV} (hY : w[Y]? = some (oM Y th st nu dg dd ld be ib ta fa re ig)) (h2 : w[Y + 2]? = some (aI 0 626 g)) (h7 : w[Y + 7]? = some (aL 60 h0)) (hV : rowR g V) (hi : i < 8) : EX12_take [.ref Y, .int (nI i)] w (fun r w' => r = none ∧ ∃ h' : Nat → Int64, (∀ k, k < 60 → (h' k).toInt = (V.1 i).2 k) ∧ w' = (w.set (Y + 7) (aL 60 h')).set Y (oM Y th st nu (nI (V.1 i).1) dd ld be ib ta fa re ig)) := by
  refine EP.of (plainFor_of_name (by decide)) [(0, .ref Y), (1, .int (nI i))] rfl (Nat.le_of_ble_eq_true rfl) (fun r wf h => by obtain ⟨rfl, -⟩ := h; trivial) ?_
  show BX12_take w _ w 0 [(0, .ref Y), (1, .int (nI i))] []
  refine g_aload_n (pc := 0) 0 dX12_take_0 rfl rfl ?_
  refine g_callV (pc := 1) [] dX12_take_1 cv_X12_116.1 cv_X12_116.2.1 cv_X12_116.2.2.1 cv_X12_116.2.2.2 hY rfl rfl (Nat.le_of_ble_eq_true rfl) (by decide) (by decide) (mp_empty _ hY h7) ?_
  rintro _ w9 ⟨rfl, e9⟩
  refine GP.weq _ e9 ?_
  refine g_iconst (pc := 4) (v := nI 0) dX12_take_4 (by decide) ?_
  refine g_istore_n (pc := 5) [(2, .int (nI 0)), (0, .ref Y), (1, .int (nI i))] dX12_take_5 rfl (by decide) rfl ?_
  exact GP.lsub _ (by simp) (mtk_loop hY h2 h7 hV hi _ 0 _ (Nat.zero_add _).symm (fun j hj => by rw [zrF_t hj, if_neg (Nat.not_lt_zero _)]; rfl))
