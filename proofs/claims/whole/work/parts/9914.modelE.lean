/-! the reference: numbers of digits: tellNumber, copyNumber, product -/
abbrev BS : Int := 268435456
def sl (dg : Nat → Int64) (s : Nat) : Nat → Int64 := fun i => dg (90 * s + i)
def nuV (dg : Nat → Int64) (m : Nat → Int32) (s n v : Nat) : Prop := m s = nI n ∧ n ≤ 90 ∧ wf (sl dg s) n ∧ vl (sl dg s) n = (v : Int)
def nuF (dg dg' : Nat → Int64) (s : Nat) : Prop := ∀ i, ¬ (90 * s ≤ i ∧ i < 90 * s + 90) → dg' i = dg i
def nuM (m m' : Nat → Int32) (s : Nat) : Prop := ∀ j, j ≠ s → m' j = m j
def nuC (w : Wd) (Y : Nat) (dg : Nat → Int64) (m : Nat → Int32) : Prop := w[Y + 13]? = some (aL 450 dg) ∧ w[Y + 14]? = some (aI 0 5 m)
def nuS (Y i : Nat) : Prop := i = Y + 13 ∨ i = Y + 14
theorem sl_up {dg : Nat → Int64} {s c : Nat} {x : Int64} : sl (vp_updL dg (90 * s + c) x) s = vp_updL (sl dg s) c x := by
  funext i
  by_cases e : i = c
  · rw [e, upL_s]; exact upL_s
  · rw [upL_n e]; exact upL_n (by omega)
theorem sl_cg {dg dg' : Nat → Int64} {s t i : Nat} (h : nuF dg dg' s) (hst : t ≠ s) (hi : i < 90) : sl dg' t i = sl dg t i := h _ (by omega)
theorem nuF.rf {dg : Nat → Int64} {s : Nat} : nuF dg dg s := fun _ _ => rfl
theorem nuF.st {dg dg' : Nat → Int64} {s c : Nat} {x : Int64} (h : nuF dg dg' s) (hc : c < 90) : nuF dg (vp_updL dg' (90 * s + c) x) s := fun i hi => by rw [upL_n (by omega)]; exact h i hi
theorem nuF.tr {a b c : Nat → Int64} {s : Nat} (h1 : nuF a b s) (h2 : nuF b c s) : nuF a c s := fun i hi => (h2 i hi).trans (h1 i hi)
theorem wf_cg {f g : Nat → Int64} {n : Nat} (h : wf f n) (e : ∀ j, j < n → g j = f j) : wf g n := by
  refine ⟨fun i hi => by rw [e i hi]; exact h.1 i hi, ?_⟩
  by_cases h0 : n = 0
  · exact Or.inl h0
  · refine Or.inr ?_
    rw [e (n - 1) (by omega)]
    exact h.2.resolve_left h0
theorem nuV.kp {dg dg' : Nat → Int64} {m m' : Nat → Int32} {s t n v : Nat} (h : nuV dg m t n v) (hF : nuF dg dg' s) (hM : nuM m m' s) (hst : t ≠ s) : nuV dg' m' t n v := by
  obtain ⟨h1, h2, h3, h4⟩ := h
  exact ⟨(hM t hst).trans h1, h2, wf_cg h3 (fun j hj => sl_cg hF hst (by omega)), by rw [← h4]; exact vl_congr (fun j hj => sl_cg hF hst (by omega))⟩
theorem bs_pos (n : Nat) : (0 : Int) < 268435456 ^ n := Int.pow_pos (by decide)
theorem wf_len {f : Nat → Int64} {n N : Nat} (h : wf f n) (hv : vl f n < 268435456 ^ N) : n ≤ N := by
  by_cases h0 : n ≤ N
  · exact h0
  · have h1 := vl_ge h (by omega)
    have h2 := ipow_le (show N ≤ n - 1 by omega)
    omega
theorem nuV.len {dg : Nat → Int64} {m : Nat → Int32} {s n v N : Nat} (h : nuV dg m s n v) (hv : v < 268435456 ^ N) : n ≤ N := by
  refine wf_len h.2.2.1 ?_
  rw [h.2.2.2]
  have e : ((268435456 ^ N : Nat) : Int) = (268435456 : Int) ^ N := by rw [Int.natCast_pow]; rfl
  rw [← e]
  exact Int.ofNat_lt.mpr hv
abbrev BX12_tellNumber (w0 : Wd) (Post : Option Value → Wd → Prop) (w : Wd) (pc : Nat) (ls : List (Nat × Value)) (st : List Value) : Prop := GP "tellNumber" RX12 cX12_tellNumber 7 none 0 0 none w0 Post w pc ls st
abbrev EX12_tellNumber (As : List Value) (w : Wd) (Post : Option Value → Wd → Prop) : Prop := EP yX12_tellNumber cX12_tellNumber 7 none 0 As w Post
def tnI (dg : Nat → Int64) (s v c : Nat) (cur : Nat → Int64) (left : Int64) : Prop := nuF dg cur s ∧ dgs (sl cur s) c ∧ vl (sl cur s) c + left.toInt * 268435456 ^ c = (v : Int) ∧ 0 ≤ left.toInt ∧ (left.toInt = 0 → nrm (sl cur s) c)
theorem tnI_s {dg cur : Nat → Int64} {s v c : Nat} {left : Int64} (h : tnI dg s v c cur left) (hp : 0 < left.toInt) (hc : c < 90) : tnI dg s v (c + 1) (vp_updL cur (90 * s + c) (left &&& 268435455)) (left.toUInt64 >>> ((nI 28).toInt64.toUInt64 &&& Int64.toUInt64 63)).toInt64 ∧ (left.toUInt64 >>> ((nI 28).toInt64.toUInt64 &&& Int64.toUInt64 63)).toInt64.toInt = left.toInt / 268435456 := by
  obtain ⟨h1, h2, h3, h4, h5⟩ := h
  have em := L_mask h4
  have eq := L_ushr (x := left) (k := 28) (s := nI 28) (by decide) (by decide) h4
  rw [show (2 : Int) ^ 28 = 268435456 by decide] at eq
  generalize left &&& 268435455 = M at em ⊢
  generalize (left.toUInt64 >>> ((nI 28).toInt64.toUInt64 &&& Int64.toUInt64 63)).toInt64 = O at eq ⊢
  refine ⟨⟨h1.st hc, ?_, ?_, by omega, ?_⟩, eq⟩
  · rw [sl_up]
    intro i hi
    by_cases e : i = c
    · rw [e, upL_s]; omega
    · rw [upL_n e]; exact h2 i (by omega)
  · rw [sl_up]
    show vl (vp_updL (sl cur s) c M) c + (vp_updL (sl cur s) c M c).toInt * 268435456 ^ c + O.toInt * 268435456 ^ (c + 1) = v
    rw [upL_s, vl_congr (f := vp_updL (sl cur s) c M) (g := sl cur s) (fun j hj => upL_n (by omega)), ← h3, Int.pow_succ]
    generalize (268435456 : Int) ^ c = P
    have h9 : left.toInt = M.toInt + O.toInt * 268435456 := by omega
    have h10 : left.toInt * P = (M.toInt + O.toInt * 268435456) * P := by rw [h9]
    rw [Int.add_mul] at h10
    have h11 : O.toInt * 268435456 * P = O.toInt * (P * 268435456) := by rw [Int.mul_assoc, Int.mul_comm 268435456 P]
    omega
  · intro hO
    refine Or.inr ?_
    rw [Nat.add_sub_cancel, sl_up, upL_s]
    omega
theorem tn_loop {w0 w : Wd} {Y : Nat} {th st nu dg dd ld be ib ta fa re ig : Int32} {dg9 : Nat → Int64} {m9 : Nat → Int32} (hY : w[Y]? = some (oM Y th st nu dg dd ld be ib ta fa re ig)) (hN : nuC w Y dg9 m9) {s v : Nat} (hs : s < 5) : ∀ (z c : Nat) (cur : Nat → Int64) (left : Int64), 3 = c + z → left.toInt < 268435456 ^ z → tnI dg9 s v c cur left → BX12_tellNumber w0 (fun r w' => r = none ∧ ∃ dg' m', nuC w' Y dg' m' ∧ (∃ n, n ≤ 3 ∧ nuV dg' m' s n v) ∧ nuF dg9 dg' s ∧ nuM m9 m' s ∧ FR (nuS Y) w w') (w.set (Y + 13) (aL 450 cur)) 6 [(5, .long left), (4, .int (nI c)), (1, .int (nI (90 * s))), (0, .ref Y)] [] := by
  intro z
  induction z with
  | zero =>
    intro c cur left hz hl h
    have e0 : left.toInt = 0 := by have h1 := h.2.2.2.1; have h2 : left.toInt < 1 := hl; omega
    refine g_lload (pc := 6) 0 dX12_tellNumber_6 rfl ?_
    refine g_lconst (pc := 8) (v := 0) dX12_tellNumber_8 (by decide) ?_
    refine g_lcmp_le (pc := 9) 41 dX12_tellNumber_9 dX12_tellNumber_10 (by decide) (fun hb9 => ?_) (fun hb9 => ?_)
    · refine g_aload_n (pc := 41) 3 dX12_tellNumber_41 rfl rfl ?_
      refine g_get (pc := 42) dX12_tellNumber_42 fk_X12_51 (lk_ne (show (Y + 13) ≠ Y by omega) hY) rfl ?_
      refine g_iload_n (pc := 45) 2 dX12_tellNumber_45 rfl rfl ?_
      refine g_bipush (pc := 46) (v := nI 90) dX12_tellNumber_46 (by decide) ?_
      refine n_idiv (pc := 48) dX12_tellNumber_48 (by omega) (by omega) (by omega) ?_
      refine GP.ti (nI s) (by rw [show 90 * s / 90 = s by omega]) ?_
      refine g_iload (pc := 49) 1 dX12_tellNumber_49 rfl ?_
      refine g_iast (pc := 51) s dX12_tellNumber_51 (lk_ne (show (Y + 13) ≠ (Y + 14) by omega) hN.2) (IXn (by omega) (by omega)) ?_
      exact g_vret (pc := 52) dX12_tellNumber_52 ⟨rfl, cur, _, ⟨(lk_ne (show (Y + 14) ≠ (Y + 13) by omega) (lk_eq hN.1)), (lk_eq (lk_ne (show (Y + 13) ≠ (Y + 14) by omega) hN.2))⟩, ⟨c, by omega, upd_s, by omega, ⟨h.2.1, h.2.2.2.2 e0⟩, by have := h.2.2.1; rw [e0] at this; omega⟩, h.1, fun j hj => upd_n hj, (FR.st (c' := aI 0 5 (upd m9 s (nI c))) (FR.st (c' := aL 450 cur) FR.rf hN.1 rfl (by unfold nuS; omega)) (lk_ne (show (Y + 13) ≠ (Y + 14) by omega) hN.2) rfl (by unfold nuS; omega))⟩
    · rw [Int64.le_iff_toInt_le, L00] at hb9
      exact absurd hb9 (by omega)
  | succ z ih =>
    intro c cur left hz hl h
    refine g_lload (pc := 6) 0 dX12_tellNumber_6 rfl ?_
    refine g_lconst (pc := 8) (v := 0) dX12_tellNumber_8 (by decide) ?_
    refine g_lcmp_le (pc := 9) 41 dX12_tellNumber_9 dX12_tellNumber_10 (by decide) (fun hb9 => ?_) (fun hb9 => ?_)
    · rw [Int64.le_iff_toInt_le, L00] at hb9
      have e0 : left.toInt = 0 := by have h1 := h.2.2.2.1; omega
      refine g_aload_n (pc := 41) 3 dX12_tellNumber_41 rfl rfl ?_
      refine g_get (pc := 42) dX12_tellNumber_42 fk_X12_51 (lk_ne (show (Y + 13) ≠ Y by omega) hY) rfl ?_
      refine g_iload_n (pc := 45) 2 dX12_tellNumber_45 rfl rfl ?_
      refine g_bipush (pc := 46) (v := nI 90) dX12_tellNumber_46 (by decide) ?_
      refine n_idiv (pc := 48) dX12_tellNumber_48 (by omega) (by omega) (by omega) ?_
      refine GP.ti (nI s) (by rw [show 90 * s / 90 = s by omega]) ?_
      refine g_iload (pc := 49) 1 dX12_tellNumber_49 rfl ?_
      refine g_iast (pc := 51) s dX12_tellNumber_51 (lk_ne (show (Y + 13) ≠ (Y + 14) by omega) hN.2) (IXn (by omega) (by omega)) ?_
      exact g_vret (pc := 52) dX12_tellNumber_52 ⟨rfl, cur, _, ⟨(lk_ne (show (Y + 14) ≠ (Y + 13) by omega) (lk_eq hN.1)), (lk_eq (lk_ne (show (Y + 13) ≠ (Y + 14) by omega) hN.2))⟩, ⟨c, by omega, upd_s, by omega, ⟨h.2.1, h.2.2.2.2 e0⟩, by have := h.2.2.1; rw [e0] at this; omega⟩, h.1, fun j hj => upd_n hj, (FR.st (c' := aI 0 5 (upd m9 s (nI c))) (FR.st (c' := aL 450 cur) FR.rf hN.1 rfl (by unfold nuS; omega)) (lk_ne (show (Y + 13) ≠ (Y + 14) by omega) hN.2) rfl (by unfold nuS; omega))⟩
    · rw [Int64.le_iff_toInt_le, L00] at hb9
      have hs9 := tnI_s h (by omega) (by omega)
      refine g_aload_n (pc := 13) 3 dX12_tellNumber_13 rfl rfl ?_
      refine g_get (pc := 14) dX12_tellNumber_14 fk_X12_48 (lk_ne (show (Y + 13) ≠ Y by omega) hY) rfl ?_
      refine g_iload_n (pc := 17) 2 dX12_tellNumber_17 rfl rfl ?_
      refine g_iload (pc := 18) 1 dX12_tellNumber_18 rfl ?_
      refine n_iadd (pc := 20) dX12_tellNumber_20 ?_
      refine g_lload (pc := 21) 0 dX12_tellNumber_21 rfl ?_
      refine g_ldc2 (pc := 23) kc_X12_202 dX12_tellNumber_23 ?_
      refine g_land (pc := 26) dX12_tellNumber_26 ?_
      refine g_last (pc := 27) ((90 * s) + c) dX12_tellNumber_27 (lk_eq hN.1) (IXn (by omega) (by omega)) ?_
      refine GP.weq (w.set (Y + 13) (aL 450 (vp_updL cur ((90 * s) + c) (left &&& (268435455))))) (by rw [List.set_set]) ?_
      refine n_iinc (pc := 28) (c := 1) [(4, .int (nI (c + 1))), (5, .long left), (1, .int (nI (90 * s))), (0, .ref Y)] 1 dX12_tellNumber_28 rfl (by decide) (by decide) rfl ?_
      refine g_lload (pc := 31) 1 dX12_tellNumber_31 rfl ?_
      refine g_bipush (pc := 33) (v := nI 28) dX12_tellNumber_33 (by decide) ?_
      refine g_lushr (pc := 35) dX12_tellNumber_35 ?_
      refine g_lstore (pc := 36) [(5, .long ((left.toUInt64 >>> ((nI 28).toInt64.toUInt64 &&& Int64.toUInt64 63)).toInt64)), (4, .int (nI (c + 1))), (1, .int (nI (90 * s))), (0, .ref Y)] dX12_tellNumber_36 (by decide) rfl ?_
      refine g_goto (pc := 38) 6 dX12_tellNumber_38 (by decide) ?_
      refine GP.lsub _ (by simp) (ih (c + 1) _ _ (by omega) ?_ hs9.1)
      rw [hs9.2]
      rw [Int.pow_succ] at hl
      exact Int.ediv_lt_of_lt_mul (by decide) hl
theorem mp_tellNumber (w : Wd) {Y : Nat} {th st nu dg dd ld be ib ta fa re ig : Int32} {dg9 : Nat → Int64} {m9 : Nat → Int32} (hY : w[Y]? = some (oM Y th st nu dg dd ld be ib ta fa re ig)) (hN : nuC w Y dg9 m9) {s v : Nat} (hs : s < 5) {x : Int64} (hx : x.toInt = (v : Int)) : EX12_tellNumber [.ref Y, .int (nI (90 * s)), .long x] w (fun r w' => r = none ∧ ∃ dg' m', nuC w' Y dg' m' ∧ (∃ n, n ≤ 3 ∧ nuV dg' m' s n v) ∧ nuF dg9 dg' s ∧ nuM m9 m' s ∧ FR (nuS Y) w w') := by
  refine EP.of (plainFor_of_name (by decide)) [(0, .ref Y), (1, .int (nI (90 * s))), (2, .long x)] rfl (Nat.le_of_ble_eq_true rfl) (fun r wf h => by obtain ⟨rfl, -⟩ := h; trivial) ?_
  show BX12_tellNumber w _ w 0 [(0, .ref Y), (1, .int (nI (90 * s))), (2, .long x)] []
  refine g_iconst (pc := 0) (v := nI 0) dX12_tellNumber_0 (by decide) ?_
  refine g_istore (pc := 1) [(4, .int (nI 0)), (0, .ref Y), (1, .int (nI (90 * s))), (2, .long x)] dX12_tellNumber_1 (by decide) rfl ?_
  refine g_lload_n (pc := 3) 3 dX12_tellNumber_3 rfl rfl ?_
  refine g_lstore (pc := 4) [(5, .long x), (4, .int (nI 0)), (0, .ref Y), (1, .int (nI (90 * s))), (2, .long x)] dX12_tellNumber_4 (by decide) rfl ?_
  refine GP.weq (w.set (Y + 13) (aL 450 dg9)) (set_same hN.1).symm ?_
  exact GP.lsub _ (by simp) (tn_loop hY hN hs 3 0 dg9 x (by omega) (by have := L_hi x; omega) ⟨nuF.rf, fun i hi => absurd hi (by omega), by rw [← hx]; show 0 + x.toInt * 1 = _; omega, by omega, fun _ => Or.inl rfl⟩)
abbrev BX12_copyNumber (w0 : Wd) (Post : Option Value → Wd → Prop) (w : Wd) (pc : Nat) (ls : List (Nat × Value)) (st : List Value) : Prop := GP "copyNumber" RX12 cX12_copyNumber 4 none 0 0 none w0 Post w pc ls st
abbrev EX12_copyNumber (As : List Value) (w : Wd) (Post : Option Value → Wd → Prop) : Prop := EP yX12_copyNumber cX12_copyNumber 4 none 0 As w Post
theorem cn_loop {w0 w : Wd} {Y : Nat} {th st nu dg dd ld be ib ta fa re ig : Int32} {dg9 : Nat → Int64} {m9 : Nat → Int32} (hY : w[Y]? = some (oM Y th st nu dg dd ld be ib ta fa re ig)) (hN : nuC w Y dg9 m9) {a b n v : Nat} (ha : a < 5) (hb : b < 5) (hab : a ≠ b) (hv : nuV dg9 m9 a n v) : ∀ (z c : Nat) (cur : Nat → Int64), n = c + z → nuF dg9 cur b → (∀ j, j < c → sl cur b j = sl dg9 a j) → BX12_copyNumber w0 (fun r w' => r = none ∧ ∃ dg' m', nuC w' Y dg' m' ∧ nuV dg' m' b n v ∧ nuF dg9 dg' b ∧ nuM m9 m' b ∧ FR (nuS Y) w w') ((w.set (Y + 14) (aI 0 5 (upd m9 b (nI n)))).set (Y + 13) (aL 450 cur)) 20 [(3, .int (nI c)), (2, .int (nI (90 * b))), (1, .int (nI (90 * a))), (0, .ref Y)] [] := by
  have hn9 := hv.2.1
  intro z
  induction z with
  | zero =>
    intro c cur hz hF hj
    refine g_iload_n (pc := 20) 0 dX12_copyNumber_20 rfl rfl ?_
    refine g_aload_n (pc := 21) 3 dX12_copyNumber_21 rfl rfl ?_
    refine g_get (pc := 22) dX12_copyNumber_22 fk_X12_51 (lk_ne (show (Y + 13) ≠ Y by omega) (lk_ne (show (Y + 14) ≠ Y by omega) hY)) rfl ?_
    refine g_iload_n (pc := 25) 2 dX12_copyNumber_25 rfl rfl ?_
    refine g_bipush (pc := 26) (v := nI 90) dX12_copyNumber_26 (by decide) ?_
    refine n_idiv (pc := 28) dX12_copyNumber_28 (by omega) (by omega) (by omega) ?_
    refine GP.ti (nI a) (by rw [show 90 * a / 90 = a by omega]) ?_
    refine g_iald (pc := 29) a dX12_copyNumber_29 (lk_ne (show (Y + 13) ≠ (Y + 14) by omega) (lk_eq hN.2)) (IXn (by omega) (by omega)) ?_
    refine GP.ti (nI n) ((upd_n hab).trans hv.1) ?_
    refine n_icmp_ge (pc := 30) 55 dX12_copyNumber_30 (by decide) (by omega) (by omega) (fun hb9 => ?_) (fun hb9 => ?_)
    · have e9 : n = c := by omega
      subst e9
      exact g_vret (pc := 55) dX12_copyNumber_55 ⟨rfl, cur, _, ⟨(lk_eq (lk_ne (show (Y + 14) ≠ (Y + 13) by omega) hN.1)), (lk_ne (show (Y + 13) ≠ (Y + 14) by omega) (lk_eq hN.2))⟩, ⟨upd_s, hn9, wf_cg hv.2.2.1 hj, by rw [← hv.2.2.2]; exact vl_congr hj⟩, hF, fun j hj => upd_n hj, (FR.st (c' := aL 450 cur) (FR.st (c' := aI 0 5 (upd m9 b (nI n))) FR.rf hN.2 rfl (by unfold nuS; omega)) (lk_ne (show (Y + 14) ≠ (Y + 13) by omega) hN.1) rfl (by unfold nuS; omega))⟩
    · exact absurd hb9 (by omega)
  | succ z ih =>
    intro c cur hz hF hj
    refine g_iload_n (pc := 20) 0 dX12_copyNumber_20 rfl rfl ?_
    refine g_aload_n (pc := 21) 3 dX12_copyNumber_21 rfl rfl ?_
    refine g_get (pc := 22) dX12_copyNumber_22 fk_X12_51 (lk_ne (show (Y + 13) ≠ Y by omega) (lk_ne (show (Y + 14) ≠ Y by omega) hY)) rfl ?_
    refine g_iload_n (pc := 25) 2 dX12_copyNumber_25 rfl rfl ?_
    refine g_bipush (pc := 26) (v := nI 90) dX12_copyNumber_26 (by decide) ?_
    refine n_idiv (pc := 28) dX12_copyNumber_28 (by omega) (by omega) (by omega) ?_
    refine GP.ti (nI a) (by rw [show 90 * a / 90 = a by omega]) ?_
    refine g_iald (pc := 29) a dX12_copyNumber_29 (lk_ne (show (Y + 13) ≠ (Y + 14) by omega) (lk_eq hN.2)) (IXn (by omega) (by omega)) ?_
    refine GP.ti (nI n) ((upd_n hab).trans hv.1) ?_
    refine n_icmp_ge (pc := 30) 55 dX12_copyNumber_30 (by decide) (by omega) (by omega) (fun hb9 => ?_) (fun hb9 => ?_)
    · exact absurd hb9 (by omega)
    · refine g_aload_n (pc := 33) 3 dX12_copyNumber_33 rfl rfl ?_
      refine g_get (pc := 34) dX12_copyNumber_34 fk_X12_48 (lk_ne (show (Y + 13) ≠ Y by omega) (lk_ne (show (Y + 14) ≠ Y by omega) hY)) rfl ?_
      refine g_iload_n (pc := 37) 1 dX12_copyNumber_37 rfl rfl ?_
      refine g_iload_n (pc := 38) 0 dX12_copyNumber_38 rfl rfl ?_
      refine n_iadd (pc := 39) dX12_copyNumber_39 ?_
      refine g_aload_n (pc := 40) 3 dX12_copyNumber_40 rfl rfl ?_
      refine g_get (pc := 41) dX12_copyNumber_41 fk_X12_48 (lk_ne (show (Y + 13) ≠ Y by omega) (lk_ne (show (Y + 14) ≠ Y by omega) hY)) rfl ?_
      refine g_iload_n (pc := 44) 2 dX12_copyNumber_44 rfl rfl ?_
      refine g_iload_n (pc := 45) 0 dX12_copyNumber_45 rfl rfl ?_
      refine n_iadd (pc := 46) dX12_copyNumber_46 ?_
      refine g_lald (pc := 47) ((90 * a) + c) dX12_copyNumber_47 (lk_eq (lk_ne (show (Y + 14) ≠ (Y + 13) by omega) hN.1)) (IXn (by omega) (by omega)) ?_
      refine g_last (pc := 48) ((90 * b) + c) dX12_copyNumber_48 (lk_eq (lk_ne (show (Y + 14) ≠ (Y + 13) by omega) hN.1)) (IXn (by omega) (by omega)) ?_
      refine GP.weq ((w.set (Y + 14) (aI 0 5 (upd m9 b (nI n)))).set (Y + 13) (aL 450 (vp_updL cur ((90 * b) + c) (cur ((90 * a) + c))))) (by rw [List.set_set]) ?_
      refine n_iinc (pc := 49) (c := 1) [(3, .int (nI (c + 1))), (2, .int (nI (90 * b))), (1, .int (nI (90 * a))), (0, .ref Y)] 0 dX12_copyNumber_49 rfl (by decide) (by decide) rfl ?_
      refine g_goto (pc := 52) 20 dX12_copyNumber_52 (by decide) ?_
      refine GP.lsub _ (by simp) (ih (c + 1) _ (by omega) (hF.st (by omega)) (fun j hj9 => ?_))
      rw [sl_up]
      by_cases e : j = c
      · rw [e, upL_s]; exact hF _ (by omega)
      · rw [upL_n e]; exact hj j (by omega)
theorem mp_copyNumber (w : Wd) {Y : Nat} {th st nu dg dd ld be ib ta fa re ig : Int32} {dg9 : Nat → Int64} {m9 : Nat → Int32} (hY : w[Y]? = some (oM Y th st nu dg dd ld be ib ta fa re ig)) (hN : nuC w Y dg9 m9) {a b n v : Nat} (ha : a < 5) (hb : b < 5) (hab : a ≠ b) (hv : nuV dg9 m9 a n v) : EX12_copyNumber [.ref Y, .int (nI (90 * a)), .int (nI (90 * b))] w (fun r w' => r = none ∧ ∃ dg' m', nuC w' Y dg' m' ∧ nuV dg' m' b n v ∧ nuF dg9 dg' b ∧ nuM m9 m' b ∧ FR (nuS Y) w w') := by
  refine EP.of (plainFor_of_name (by decide)) [(0, .ref Y), (1, .int (nI (90 * a))), (2, .int (nI (90 * b)))] rfl (Nat.le_of_ble_eq_true rfl) (fun r wf h => by obtain ⟨rfl, -⟩ := h; trivial) ?_
  show BX12_copyNumber w _ w 0 [(0, .ref Y), (1, .int (nI (90 * a))), (2, .int (nI (90 * b)))] []
  have hn9 := hv.2.1
  refine g_aload_n (pc := 0) 0 dX12_copyNumber_0 rfl rfl ?_
  refine g_get (pc := 1) dX12_copyNumber_1 fk_X12_51 hY rfl ?_
  refine g_iload_n (pc := 4) 2 dX12_copyNumber_4 rfl rfl ?_
  refine g_bipush (pc := 5) (v := nI 90) dX12_copyNumber_5 (by decide) ?_
  refine n_idiv (pc := 7) dX12_copyNumber_7 (by omega) (by omega) (by omega) ?_
  refine GP.ti (nI b) (by rw [show 90 * b / 90 = b by omega]) ?_
  refine g_aload_n (pc := 8) 0 dX12_copyNumber_8 rfl rfl ?_
  refine g_get (pc := 9) dX12_copyNumber_9 fk_X12_51 hY rfl ?_
  refine g_iload_n (pc := 12) 1 dX12_copyNumber_12 rfl rfl ?_
  refine g_bipush (pc := 13) (v := nI 90) dX12_copyNumber_13 (by decide) ?_
  refine n_idiv (pc := 15) dX12_copyNumber_15 (by omega) (by omega) (by omega) ?_
  refine GP.ti (nI a) (by rw [show 90 * a / 90 = a by omega]) ?_
  refine g_iald (pc := 16) a dX12_copyNumber_16 hN.2 (IXn (by omega) (by omega)) ?_
  refine GP.ti (nI n) hv.1 ?_
  refine g_iast (pc := 17) b dX12_copyNumber_17 hN.2 (IXn (by omega) (by omega)) ?_
  refine g_iconst (pc := 18) (v := nI 0) dX12_copyNumber_18 (by decide) ?_
  refine g_istore_n (pc := 19) [(3, .int (nI 0)), (0, .ref Y), (1, .int (nI (90 * a))), (2, .int (nI (90 * b)))] dX12_copyNumber_19 rfl (by decide) rfl ?_
  refine GP.weq (((w.set (Y + 14) (aI 0 5 (upd m9 b (nI n)))).set (Y + 13) (aL 450 dg9))) (set_same (lk_ne (show (Y + 14) ≠ (Y + 13) by omega) hN.1)).symm ?_
  exact GP.lsub _ (by simp) (cn_loop hY hN ha hb hab hv n 0 dg9 (by omega) nuF.rf (fun j hj => absurd hj (by omega)))
