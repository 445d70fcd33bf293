/-! the reference: its cells; in, size, tell, refuse, copy -/
abbrev oM (Y : Nat) (th st nu dg dd ld be ib ta fa re ig : Int32) : Ce := .inr (11, .int th :: .int st :: .ref (Y + 1) :: .ref (Y + 2) :: .ref (Y + 3) :: .ref (Y + 4) :: .int nu :: .ref (Y + 5) :: .ref (Y + 6) :: .ref (Y + 7) :: .int dg :: .ref (Y + 8) :: .int dd :: .ref (Y + 9) :: .ref (Y + 10) :: .ref (Y + 11) :: .ref (Y + 12) :: .int ld :: .int be :: .int ib :: .ref (Y + 13) :: .ref (Y + 14) :: .ref (Y + 15) :: .ref (Y + 16) :: .ref (Y + 17) :: .int ta :: .int fa :: .int re :: .int ig :: .ref (Y + 18) :: .ref (Y + 19) :: .ref (Y + 20) :: .ref (Y + 21) :: [])
theorem cmpL_lt {x y : Int64} : x < y ↔ x.toInt < y.toInt := Int64.lt_iff_toInt_lt
abbrev BX12_in (w0 : Wd) (Post : Option Value → Wd → Prop) (w : Wd) (pc : Nat) (ls : List (Nat × Value)) (st : List Value) : Prop := GP "in" RX12 cX12_in 6 (some .boolean) 0 0 none w0 Post w pc ls st
abbrev EX12_in (As : List Value) (w : Wd) (Post : Option Value → Wd → Prop) : Prop := EP yX12_in cX12_in 6 (some .boolean) 0 As w Post
theorem mp_in (w : Wd) {v a b : Int64} : EX12_in [.long v, .long a, .long b] w (fun r w' => (r = some (.int (nI 1)) ∧ (a.toInt ≤ v.toInt ∧ v.toInt ≤ b.toInt) ∧ w' = w) ∨ (r = some (.int (nI 0)) ∧ ¬ (a.toInt ≤ v.toInt ∧ v.toInt ≤ b.toInt) ∧ w' = w)) := by
  refine EP.of (plainFor_of_name (by decide)) [(0, .long v), (2, .long a), (4, .long b)] rfl (Nat.le_of_ble_eq_true rfl) (fun r wf h => by rcases h with ⟨rfl, -⟩ | ⟨rfl, -⟩; exact Or.inr rfl; exact Or.inl rfl) ?_
  show BX12_in w _ w 0 [(0, .long v), (2, .long a), (4, .long b)] []
  refine g_lload_n (pc := 0) 0 dX12_in_0 rfl rfl ?_
  refine g_lload_n (pc := 1) 1 dX12_in_1 rfl rfl ?_
  refine g_lcmp_lt (pc := 2) 17 dX12_in_2 dX12_in_3 (by decide) (fun h1 => ?_) (fun h1 => ?_)
  · refine g_iconst (pc := 17) (v := nI 0) dX12_in_17 (by decide) ?_
    exact g_iret (pc := 18) dX12_in_18 (Or.inr ⟨rfl, fun g => by have := cmpL_lt.mp h1; omega, rfl⟩)
  · refine g_lload_n (pc := 6) 0 dX12_in_6 rfl rfl ?_
    refine g_lload (pc := 7) 2 dX12_in_7 rfl ?_
    refine g_lcmp_gt (pc := 9) 17 dX12_in_9 dX12_in_10 (by decide) (fun h2 => ?_) (fun h2 => ?_)
    · refine g_iconst (pc := 17) (v := nI 0) dX12_in_17 (by decide) ?_
      exact g_iret (pc := 18) dX12_in_18 (Or.inr ⟨rfl, fun g => by have := cmpL_lt.mp h2; omega, rfl⟩)
    · refine g_iconst (pc := 13) (v := nI 1) dX12_in_13 (by decide) ?_
      refine g_goto (pc := 14) 18 dX12_in_14 (by decide) ?_
      exact g_iret (pc := 18) dX12_in_18 (Or.inl ⟨rfl, ⟨Int.not_lt.mp (fun g => h1 (cmpL_lt.mpr g)), Int.not_lt.mp (fun g => h2 (cmpL_lt.mpr g))⟩, rfl⟩)
abbrev BX12_size (w0 : Wd) (Post : Option Value → Wd → Prop) (w : Wd) (pc : Nat) (ls : List (Nat × Value)) (st : List Value) : Prop := GP "size" RX12 cX12_size 2 (some .long) 0 0 none w0 Post w pc ls st
abbrev EX12_size (As : List Value) (w : Wd) (Post : Option Value → Wd → Prop) : Prop := EP yX12_size cX12_size 2 (some .long) 0 As w Post
theorem mp_size (w : Wd) {x : Int64} : EX12_size [.long x] w (fun r w' => ∃ y : Int64, r = some (.long y) ∧ (x.toInt < 0 → y = -x) ∧ (¬ x.toInt < 0 → y = x) ∧ w' = w) := by
  refine EP.of (plainFor_of_name (by decide)) [(0, .long x)] rfl (Nat.le_of_ble_eq_true rfl) (fun r wf h => by obtain ⟨y, rfl, -⟩ := h; trivial) ?_
  show BX12_size w _ w 0 [(0, .long x)] []
  refine g_lload_n (pc := 0) 0 dX12_size_0 rfl rfl ?_
  refine g_lconst (pc := 1) (v := 0) dX12_size_1 (by decide) ?_
  refine g_lcmp_ge (pc := 2) 11 dX12_size_2 dX12_size_3 (by decide) (fun h1 => ?_) (fun h1 => ?_)
  · refine g_lload_n (pc := 11) 0 dX12_size_11 rfl rfl ?_
    exact g_lret (pc := 12) dX12_size_12 ⟨_, rfl, fun g => absurd (Int64.le_iff_toInt_le.mp h1) (show ¬ (0 : Int) ≤ x.toInt by omega), fun _ => rfl, rfl⟩
  · refine g_lload_n (pc := 6) 0 dX12_size_6 rfl rfl ?_
    refine g_lneg (pc := 7) dX12_size_7 ?_
    refine g_goto (pc := 8) 12 dX12_size_8 (by decide) ?_
    exact g_lret (pc := 12) dX12_size_12 ⟨_, rfl, fun _ => rfl, fun g => absurd (Int64.le_iff_toInt_le.mpr (Int.not_lt.mp g)) h1, rfl⟩
abbrev BX12_tell (w0 : Wd) (Post : Option Value → Wd → Prop) (w : Wd) (pc : Nat) (ls : List (Nat × Value)) (st : List Value) : Prop := GP "tell" RX12 cX12_tell 2 (some .int) 0 0 none w0 Post w pc ls st
abbrev EX12_tell (As : List Value) (w : Wd) (Post : Option Value → Wd → Prop) : Prop := EP yX12_tell cX12_tell 2 (some .int) 0 As w Post
theorem mp_tell (w : Wd) {Y : Nat} {th st nu dg dd ld be ib ta fa re ig : Int32} (hY : w[Y]? = some (oM Y th st nu dg dd ld be ib ta fa re ig)) {v : Int32} : EX12_tell [.ref Y, .int v] w (fun r w' => r = some (.int v) ∧ w' = w.set Y (oM Y th (nI 0) nu dg dd ld be ib ta fa re ig)) := by
  refine EP.of (plainFor_of_name (by decide)) [(0, .ref Y), (1, .int v)] rfl (Nat.le_of_ble_eq_true rfl) (fun r wf h => by obtain ⟨rfl, -⟩ := h; trivial) ?_
  show BX12_tell w _ w 0 [(0, .ref Y), (1, .int v)] []
  refine g_aload_n (pc := 0) 0 dX12_tell_0 rfl rfl ?_
  refine g_iconst (pc := 1) (v := nI 0) dX12_tell_1 (by decide) ?_
  refine g_put (pc := 2) [.int th, .int (nI 0), .ref (Y + 1), .ref (Y + 2), .ref (Y + 3), .ref (Y + 4), .int nu, .ref (Y + 5), .ref (Y + 6), .ref (Y + 7), .int dg, .ref (Y + 8), .int dd, .ref (Y + 9), .ref (Y + 10), .ref (Y + 11), .ref (Y + 12), .int ld, .int be, .int ib, .ref (Y + 13), .ref (Y + 14), .ref (Y + 15), .ref (Y + 16), .ref (Y + 17), .int ta, .int fa, .int re, .int ig, .ref (Y + 18), .ref (Y + 19), .ref (Y + 20), .ref (Y + 21)] dX12_tell_2 fk_X12_86 hY (Nat.le_of_ble_eq_true rfl) rfl rfl ?_
  refine g_iload_n (pc := 5) 1 dX12_tell_5 rfl rfl ?_
  exact g_iret (pc := 6) dX12_tell_6 ⟨rfl, rfl⟩
abbrev BX12_refuse (w0 : Wd) (Post : Option Value → Wd → Prop) (w : Wd) (pc : Nat) (ls : List (Nat × Value)) (st : List Value) : Prop := GP "refuse" RX12 cX12_refuse 2 (some .int) 0 0 none w0 Post w pc ls st
abbrev EX12_refuse (As : List Value) (w : Wd) (Post : Option Value → Wd → Prop) : Prop := EP yX12_refuse cX12_refuse 2 (some .int) 0 As w Post
theorem mp_refuse (w : Wd) {Y j : Nat} {th st nu dg dd ld be ib ta fa re ig : Int32} {g : Nat → Int32} (hY : w[Y]? = some (oM Y th st nu dg dd ld be ib ta fa re ig)) (h1 : w[Y + 1]? = some (aI 0 7 g)) {v : Int32} (hj : IX (-v) 7 j) : EX12_refuse [.ref Y, .int v] w (fun r w' => r = some (.int v) ∧ w' = (w.set Y (oM Y th v nu dg dd ld be ib ta fa re ig)).set (Y + 1) (aI 0 7 (upd g j (g j + nI 1)))) := by
  refine EP.of (plainFor_of_name (by decide)) [(0, .ref Y), (1, .int v)] rfl (Nat.le_of_ble_eq_true rfl) (fun r wf h => by obtain ⟨rfl, -⟩ := h; trivial) ?_
  show BX12_refuse w _ w 0 [(0, .ref Y), (1, .int v)] []
  refine g_aload_n (pc := 0) 0 dX12_refuse_0 rfl rfl ?_
  refine g_iload_n (pc := 1) 1 dX12_refuse_1 rfl rfl ?_
  refine g_put (pc := 2) [.int th, .int v, .ref (Y + 1), .ref (Y + 2), .ref (Y + 3), .ref (Y + 4), .int nu, .ref (Y + 5), .ref (Y + 6), .ref (Y + 7), .int dg, .ref (Y + 8), .int dd, .ref (Y + 9), .ref (Y + 10), .ref (Y + 11), .ref (Y + 12), .int ld, .int be, .int ib, .ref (Y + 13), .ref (Y + 14), .ref (Y + 15), .ref (Y + 16), .ref (Y + 17), .int ta, .int fa, .int re, .int ig, .ref (Y + 18), .ref (Y + 19), .ref (Y + 20), .ref (Y + 21)] dX12_refuse_2 fk_X12_86 hY (Nat.le_of_ble_eq_true rfl) rfl rfl ?_
  refine g_aload_n (pc := 5) 0 dX12_refuse_5 rfl rfl ?_
  refine g_get (pc := 6) dX12_refuse_6 fk_X12_7 (lk_eq hY) rfl ?_
  refine g_iload_n (pc := 9) 1 dX12_refuse_9 rfl rfl ?_
  refine g_ineg (pc := 10) dX12_refuse_10 ?_
  refine g_dup2 (pc := 11) dX12_refuse_11 rfl rfl ?_
  refine g_iald (pc := 12) j dX12_refuse_12 (lk_ne (show Y ≠ (Y + 1) by omega) h1) hj ?_
  refine g_iconst (pc := 13) (v := nI 1) dX12_refuse_13 (by decide) ?_
  refine g_iadd (pc := 14) dX12_refuse_14 ?_
  refine g_iast (pc := 15) j dX12_refuse_15 (lk_ne (show Y ≠ (Y + 1) by omega) h1) hj ?_
  refine g_iload_n (pc := 16) 1 dX12_refuse_16 rfl rfl ?_
  exact g_iret (pc := 17) dX12_refuse_17 ⟨rfl, rfl⟩
abbrev BX12_copy (w0 : Wd) (Post : Option Value → Wd → Prop) (w : Wd) (pc : Nat) (ls : List (Nat × Value)) (st : List Value) : Prop := GP "copy" RX12 cX12_copy 5 none 0 0 none w0 Post w pc ls st
abbrev EX12_copy (As : List Value) (w : Wd) (Post : Option Value → Wd → Prop) : Prop := EP yX12_copy cX12_copy 5 none 0 As w Post
def cpF (f g : Nat → Int32) (a b k : Nat) : Nat → Int32 := fun i => if b ≤ i ∧ i < b + k then f (a + (i - b)) else g i
theorem cpF_s {f g : Nat → Int32} {a b k : Nat} : upd (cpF f g a b k) (b + k) (f (a + k)) = cpF f g a b (k + 1) := by
  funext i
  by_cases e : i = b + k
  · rw [e, upd_s]
    unfold cpF
    rw [if_pos (by omega), show b + k - b = k by omega]
  · rw [upd_n e]
    unfold cpF
    by_cases h : b ≤ i ∧ i < b + k
    · rw [if_pos h, if_pos (by omega)]
    · rw [if_neg h, if_neg (by omega)]
theorem cpF_0 {f g : Nat → Int32} {a b : Nat} : cpF f g a b 0 = g := by
  funext i
  unfold cpF
  rw [if_neg (by omega)]
theorem cp_loop {w0 w : Wd} {p q n N a b : Nat} {f g : Nat → Int32} (hpq : p ≠ q) (hp : w[p]? = some (aI 0 n f)) (hq : w[q]? = some (aI 0 N g)) (hn : n < 2147483648) (hN : N < 2147483648) (ha : a + 626 ≤ n) (hb : b + 626 ≤ N) : ∀ (z k : Nat), 626 = k + z → BX12_copy w0 (fun r w' => r = none ∧ w' = w.set q (aI 0 N (cpF f g a b 626))) (w.set q (aI 0 N (cpF f g a b k))) 3 [(4, .int (nI k)), (3, .int (nI b)), (2, .ref q), (1, .int (nI a)), (0, .ref p)] [] := by
  intro z
  induction z with
  | zero =>
    intro k hz
    refine g_iload (pc := 3) 0 dX12_copy_3 rfl ?_
    refine g_sipush (pc := 5) (v := nI 626) dX12_copy_5 (by decide) ?_
    refine n_icmp_ge (pc := 8) 29 dX12_copy_8 (by decide) (by omega) (by omega) (fun hb9 => ?_) (fun hb9 => ?_)
    · have e9 : k = 626 := by omega
      subst e9
      exact g_vret (pc := 29) dX12_copy_29 ⟨rfl, rfl⟩
    · exact absurd hb9 (by omega)
  | succ z ih =>
    intro k hz
    refine g_iload (pc := 3) 0 dX12_copy_3 rfl ?_
    refine g_sipush (pc := 5) (v := nI 626) dX12_copy_5 (by decide) ?_
    refine n_icmp_ge (pc := 8) 29 dX12_copy_8 (by decide) (by omega) (by omega) (fun hb9 => ?_) (fun hb9 => ?_)
    · exact absurd hb9 (by omega)
    · refine g_aload_n (pc := 11) 2 dX12_copy_11 rfl rfl ?_
      refine g_iload_n (pc := 12) 1 dX12_copy_12 rfl rfl ?_
      refine g_iload (pc := 13) 0 dX12_copy_13 rfl ?_
      refine n_iadd (pc := 15) dX12_copy_15 ?_
      refine g_aload_n (pc := 16) 4 dX12_copy_16 rfl rfl ?_
      refine g_iload_n (pc := 17) 3 dX12_copy_17 rfl rfl ?_
      refine g_iload (pc := 18) 0 dX12_copy_18 rfl ?_
      refine n_iadd (pc := 20) dX12_copy_20 ?_
      refine g_iald (pc := 21) (a + k) dX12_copy_21 (lk_ne (Ne.symm hpq) hp) (IXn (by omega) (by omega)) ?_
      refine g_iast (pc := 22) (b + k) dX12_copy_22 (lk_eq hq) (IXn (by omega) (by omega)) ?_
      refine GP.weq (w.set q (aI 0 N (upd (cpF f g a b k) (b + k) (f (a + k))))) (by rw [List.set_set]) ?_
      refine n_iinc (pc := 23) (c := 1) [(4, .int (nI (k + 1))), (3, .int (nI b)), (2, .ref q), (1, .int (nI a)), (0, .ref p)] 0 dX12_copy_23 rfl (by decide) (by decide) rfl ?_
      refine g_goto (pc := 26) 3 dX12_copy_26 (by decide) ?_
      rw [cpF_s]
      exact GP.lsub _ (by simp) (ih (k + 1) (by omega))
theorem mp_copy (w : Wd) {p q n N a b : Nat} {f g : Nat → Int32} (hpq : p ≠ q) (hp : w[p]? = some (aI 0 n f)) (hq : w[q]? = some (aI 0 N g)) (hn : n < 2147483648) (hN : N < 2147483648) (ha : a + 626 ≤ n) (hb : b + 626 ≤ N) : EX12_copy [.ref p, .int (nI a), .ref q, .int (nI b)] w (fun r w' => r = none ∧ w' = w.set q (aI 0 N (cpF f g a b 626))) := by
  refine EP.of (plainFor_of_name (by decide)) [(0, .ref p), (1, .int (nI a)), (2, .ref q), (3, .int (nI b))] rfl (Nat.le_of_ble_eq_true rfl) (fun r wf h => by obtain ⟨rfl, -⟩ := h; trivial) ?_
  show BX12_copy w _ w 0 [(0, .ref p), (1, .int (nI a)), (2, .ref q), (3, .int (nI b))] []
  refine g_iconst (pc := 0) (v := nI 0) dX12_copy_0 (by decide) ?_
  refine g_istore (pc := 1) [(4, .int (nI 0)), (0, .ref p), (1, .int (nI a)), (2, .ref q), (3, .int (nI b))] dX12_copy_1 (by decide) rfl ?_
  refine GP.weq (w.set q (aI 0 N (cpF f g a b 0))) (by rw [cpF_0, set_same hq]) ?_
  exact GP.lsub _ (by simp) (cp_loop hpq hp hq hn hN ha hb 626 0 rfl)
