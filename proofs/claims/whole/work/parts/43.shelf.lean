/-! Shelf -/
abbrev oS (p f : Nat) : Ce := .inr (7, [.ref p, .ref f])
theorem and7 {i : Nat} (h : i < 8) : nI i &&& nI 7 = nI i := by
  rcases (show i = 0 ∨ i = 1 ∨ i = 2 ∨ i = 3 ∨ i = 4 ∨ i = 5 ∨ i = 6 ∨ i = 7 by omega) with h | h | h | h | h | h | h | h <;> subst h <;> decide
def isPo (w : Wd) (v : Nat) : Prop := ∃ fs, w[v]? = some (.inr (6, fs))
theorem isPo_ne {w : Wd} {v i : Nat} {c : Ce} (h : isPo w v) (hc : w[i]? = some c) (hk : ∀ fs, c ≠ .inr (6, fs)) : i ≠ v := fun g => by
  obtain ⟨fs, h⟩ := h
  rw [g, h] at hc
  cases hc
  exact hk fs rfl
def dSum (d : Nat → Nat) : Nat → Nat
  | 0 => 0
  | i + 1 => dSum d i + d i
abbrev BX7_poly (w0 : Wd) (Post : Option Value → Wd → Prop) (w : Wd) (pc : Nat) (ls : List (Nat × Value)) (st : List Value) : Prop := GP "poly" RX7 cX7_poly 2 (some (.object "MahlerBox$Poly")) 0 0 none w0 Post w pc ls st
abbrev EX7_poly (As : List Value) (w : Wd) (Post : Option Value → Wd → Prop) : Prop := EP yX7_poly cX7_poly 2 (some (.object "MahlerBox$Poly")) 0 As w Post
theorem sp_poly (w : Wd) {o p f : Nat} {h : Nat → Option Nat} (ho : w[o]? = some (oS p f)) (hp : w[p]? = some (aR 4 8 h)) {i v : Nat} (hi : i < 8) (hv : h i = some v) : EX7_poly [.ref o, .int (nI i)] w (fun r w' => r = some (.ref v) ∧ w' = w) := by
  refine EP.of (plainFor_of_name (by decide)) [(0, .ref o), (1, .int (nI i))] rfl (Nat.le_of_ble_eq_true rfl) (fun r wf h => by obtain ⟨rfl, -⟩ := h; trivial) ?_
  show BX7_poly w _ w 0 [(0, .ref o), (1, .int (nI i))] []
  refine g_aload_n (pc := 0) 0 dX7_poly_0 rfl rfl ?_
  refine g_get (pc := 1) dX7_poly_1 fk_X7_11 ho rfl ?_
  refine g_iload_n (pc := 4) 1 dX7_poly_4 rfl rfl ?_
  refine g_bipush (pc := 5) (v := nI 7) dX7_poly_5 (by decide) ?_
  refine g_iand (pc := 7) dX7_poly_7 ?_
  refine GP.ti (nI i) (and7 hi) ?_
  refine g_aald (pc := 8) (v := .ref v) i dX7_poly_8 hp (by decide) (IXn (by omega) (by omega)) (by rw [hv]; rfl) ?_
  exact g_aret (pc := 9) dX7_poly_9 ⟨rfl, rfl⟩
abbrev BX7_degrees (w0 : Wd) (Post : Option Value → Wd → Prop) (w : Wd) (pc : Nat) (ls : List (Nat × Value)) (st : List Value) : Prop := GP "degrees" RX7 cX7_degrees 3 (some .int) 0 0 none w0 Post w pc ls st
abbrev EX7_degrees (As : List Value) (w : Wd) (Post : Option Value → Wd → Prop) : Prop := EP yX7_degrees cX7_degrees 3 (some .int) 0 As w Post
theorem dg_loop {w0 w : Wd} {o p f : Nat} {h : Nat → Option Nat} (ho : w[o]? = some (oS p f)) (hp : w[p]? = some (aR 4 8 h)) {dg : Nat → Nat} (hall : ∀ i, i < 8 → ∃ v b, h i = some v ∧ w[v]? = some (oP (dg i) b)) : ∀ (z i : Nat), 8 = i + z → BX7_degrees w0 (fun r w' => r = some (.int (nI (dSum dg 8))) ∧ w' = w) w 4 [(2, .int (nI i)), (1, .int (nI (dSum dg i))), (0, .ref o)] [] := by
  intro z
  induction z with
  | zero =>
    intro i hi
    refine g_iload_n (pc := 4) 0 dX7_degrees_4 rfl rfl ?_
    refine g_bipush (pc := 5) (v := nI 8) dX7_degrees_5 (by decide) ?_
    refine n_icmp_ge (pc := 7) 28 dX7_degrees_7 (by decide) (by omega) (by omega) (fun hb => ?_) (fun hb => ?_)
    · refine g_iload_n (pc := 28) 1 dX7_degrees_28 rfl rfl ?_
      exact g_iret (pc := 29) dX7_degrees_29 ⟨by rw [show 8 = i by omega], rfl⟩
    · exact absurd hb (by omega)
  | succ z ih =>
    intro i hi
    obtain ⟨v, b, hv, hw⟩ := hall i (by omega)
    have h9 := ih (i + 1) (by omega)
    rw [show dSum dg (i + 1) = dSum dg i + dg i from rfl] at h9
    refine g_iload_n (pc := 4) 0 dX7_degrees_4 rfl rfl ?_
    refine g_bipush (pc := 5) (v := nI 8) dX7_degrees_5 (by decide) ?_
    refine n_icmp_ge (pc := 7) 28 dX7_degrees_7 (by decide) (by omega) (by omega) (fun hb => ?_) (fun hb => ?_)
    · exact absurd hb (by omega)
    · refine g_iload_n (pc := 10) 1 dX7_degrees_10 rfl rfl ?_
      refine g_aload_n (pc := 11) 2 dX7_degrees_11 rfl rfl ?_
      refine g_get (pc := 12) dX7_degrees_12 fk_X7_11 ho rfl ?_
      refine g_iload_n (pc := 15) 0 dX7_degrees_15 rfl rfl ?_
      refine g_aald (pc := 16) (v := .ref v) i dX7_degrees_16 hp (by decide) (IXn (by omega) (by omega)) (by rw [hv]; rfl) ?_
      refine g_get (pc := 17) dX7_degrees_17 fk_X7_32 hw rfl ?_
      refine n_iadd (pc := 20) dX7_degrees_20 ?_
      refine g_istore_n (pc := 21) [(1, .int (nI ((dSum dg i) + (dg i)))), (2, .int (nI i)), (0, .ref o)] dX7_degrees_21 rfl (by decide) rfl ?_
      refine n_iinc (pc := 22) (c := 1) [(2, .int (nI (i + 1))), (1, .int (nI ((dSum dg i) + (dg i)))), (0, .ref o)] 1 dX7_degrees_22 rfl (by decide) (by decide) rfl ?_
      refine g_goto (pc := 25) 4 dX7_degrees_25 (by decide) ?_
      exact GP.lsub _ (by simp) h9
theorem sp_degrees (w : Wd) {o p f : Nat} {h : Nat → Option Nat} (ho : w[o]? = some (oS p f)) (hp : w[p]? = some (aR 4 8 h)) {dg : Nat → Nat} (hall : ∀ i, i < 8 → ∃ v b, h i = some v ∧ w[v]? = some (oP (dg i) b)) : EX7_degrees [.ref o] w (fun r w' => r = some (.int (nI (dSum dg 8))) ∧ w' = w) := by
  refine EP.of (plainFor_of_name (by decide)) [(0, .ref o)] rfl (Nat.le_of_ble_eq_true rfl) (fun r wf h => by obtain ⟨rfl, -⟩ := h; trivial) ?_
  show BX7_degrees w _ w 0 [(0, .ref o)] []
  refine g_iconst (pc := 0) (v := nI 0) dX7_degrees_0 (by decide) ?_
  refine g_istore_n (pc := 1) [(1, .int (nI 0)), (0, .ref o)] dX7_degrees_1 rfl (by decide) rfl ?_
  refine g_iconst (pc := 2) (v := nI 0) dX7_degrees_2 (by decide) ?_
  refine g_istore_n (pc := 3) [(2, .int (nI 0)), (1, .int (nI 0)), (0, .ref o)] dX7_degrees_3 rfl (by decide) rfl ?_
  exact GP.lsub _ (by intro q hq; exact hq) (dg_loop ho hp hall 8 0 (by omega))
abbrev BX7_init_ (w0 : Wd) (Post : Option Value → Wd → Prop) (w : Wd) (pc : Nat) (ls : List (Nat × Value)) (st : List Value) : Prop := GP "<init>" RX7 cX7_init_ 4 none 1 39 none w0 Post w pc ls st
abbrev EX7_init_ (As : List Value) (w : Wd) (Post : Option Value → Wd → Prop) : Prop := EP yX7_init_ cX7_init_ 4 none 1 As w Post
theorem sh_loop {w0 w : Wd} {o L x p f y : Nat} {h h0 : Nat → Option Nat} (ho : w[o]? = some (.inr (7, [.ref L, .null]))) (hL : w[L]? = some (aR 4 8 h0)) (hx : w[x]? = some (oS p f)) (hp : w[p]? = some (aR 4 8 h)) (hLo : L ≠ o) (hLx : L ≠ x) (hLp : L ≠ p) (hall : ∀ i, i < 8 → ∃ v, h i = some v ∧ isPo w v) : ∀ (z i : Nat) (ch : Nat → Option Nat), 8 = i + z → (∀ j, j < i → ch j = h j) → BX7_init_ w0 (fun r w' => r = none ∧ ∃ h' : Nat → Option Nat, (∀ j, j < 8 → h' j = h j) ∧ w' = (w.set L (aR 4 8 h')).set o (oS L y)) (w.set L (aR 4 8 ch)) 15 [(3, .int (nI i)), (0, .ref o), (1, .ref x), (2, .ref y)] [] := by
  intro z
  induction z with
  | zero =>
    intro i ch hi h1
    refine g_iload_n (pc := 15) 0 dX7_init__15 rfl rfl ?_
    refine g_bipush (pc := 16) (v := nI 8) dX7_init__16 (by decide) ?_
    refine n_icmp_ge (pc := 18) 39 dX7_init__18 (by decide) (by omega) (by omega) (fun hb => ?_) (fun hb => ?_)
    · refine g_aload_n (pc := 39) 1 dX7_init__39 rfl rfl ?_
      refine g_aload_n (pc := 40) 3 dX7_init__40 rfl rfl ?_
      refine g_putF (pc := 41) [.ref L, .ref y] dX7_init__41 fk_X7_25 (fun _ _ _ h => by cases h; rfl) rfl (lk_ne hLo ho) (Nat.le_of_ble_eq_true rfl) rfl rfl ?_
      exact g_vret (pc := 44) dX7_init__44 ⟨rfl, ch, fun j hj => h1 j (by omega), rfl⟩
    · exact absurd hb (by omega)
  | succ z ih =>
    intro i ch hi h1
    obtain ⟨v, hv, hvP⟩ := hall i (by omega)
    have hLv : L ≠ v := isPo_ne hvP hL (fun _ g9 => by cases g9)
    obtain ⟨fv, hw⟩ := hvP
    refine g_iload_n (pc := 15) 0 dX7_init__15 rfl rfl ?_
    refine g_bipush (pc := 16) (v := nI 8) dX7_init__16 (by decide) ?_
    refine n_icmp_ge (pc := 18) 39 dX7_init__18 (by decide) (by omega) (by omega) (fun hb => ?_) (fun hb => ?_)
    · exact absurd hb (by omega)
    · refine g_aload_n (pc := 21) 1 dX7_init__21 rfl rfl ?_
      refine g_get (pc := 22) dX7_init__22 fk_X7_11 (lk_ne hLo ho) rfl ?_
      refine g_iload_n (pc := 25) 0 dX7_init__25 rfl rfl ?_
      refine g_aload_n (pc := 26) 2 dX7_init__26 rfl rfl ?_
      refine g_get (pc := 27) dX7_init__27 fk_X7_11 (lk_ne hLx hx) rfl ?_
      refine g_iload_n (pc := 30) 0 dX7_init__30 rfl rfl ?_
      refine g_aald (pc := 31) (v := .ref v) i dX7_init__31 (lk_ne hLp hp) (by decide) (IXn (by omega) (by omega)) (by rw [hv]; rfl) ?_
      refine g_aast (pc := 32) i dX7_init__32 (lk_eq hL) (by decide) (IXn (by omega) (by omega)) (lk_ne hLv hw) rfl ?_
      refine GP.weq (w.set L (aR 4 8 (va_up ch i (some v)))) (by rw [List.set_set]) ?_
      refine n_iinc (pc := 33) (c := 1) [(3, .int (nI (i + 1))), (0, .ref o), (1, .ref x), (2, .ref y)] 0 dX7_init__33 rfl (by decide) (by decide) rfl ?_
      refine g_goto (pc := 36) 15 dX7_init__36 (by decide) ?_
      refine GP.lsub _ (by simp) (ih (i + 1) _ (by omega) (fun j hj => ?_))
      by_cases hji : j = i
      · subst hji; rw [vaup_s, hv]
      · rw [vaup_n hji]; exact h1 j (by omega)
theorem sp_shelfCopy (w : Wd) {o x p f y : Nat} {h : Nat → Option Nat} (ho : w[o]? = some (.inr (7, [.null, .null]))) (hx : w[x]? = some (oS p f)) (hp : w[p]? = some (aR 4 8 h)) (hall : ∀ i, i < 8 → ∃ v, h i = some v ∧ isPo w v) : EX7_init_ [.ref o, .ref x, .ref y] w (fun r w' => r = none ∧ ∃ h' : Nat → Option Nat, (∀ j, j < 8 → h' j = h j) ∧ w' = w.set o (oS w.length y) ++ [aR 4 8 h']) := by
  refine EP.of (plainFor_of_name (by decide)) [(0, .ref o), (1, .ref x), (2, .ref y)] rfl (Nat.le_of_ble_eq_true rfl) (fun r wf h => by obtain ⟨rfl, -⟩ := h; trivial) ?_
  show BX7_init_ w _ w 0 [(0, .ref o), (1, .ref x), (2, .ref y)] []
  refine g_aload_n (pc := 0) 0 dX7_init__0 rfl rfl ?_
  refine g_oinit (pc := 1) dX7_init__1 ol_X7_3 oi_in oi_co (by decide) (Nat.le_of_ble_eq_true rfl) (by decide) ?_
  refine g_aload_n (pc := 4) 0 dX7_init__4 rfl rfl ?_
  refine g_bipush (pc := 5) (v := nI 8) dX7_init__5 (by decide) ?_
  refine g_newq (pc := 7) (k := 4) 8 dX7_init__7 cl_X7_9 (Or.inl ⟨rfl, rfl⟩) (by decide) (by decide) ?_
  have ho1 : (w ++ [aR 4 8 (fun _ => none)])[o]? = some (.inr (7, [.null, .null])) := lk_app ho
  refine g_putF (pc := 10) [.ref w.length, .null] dX7_init__10 fk_X7_11 (fun _ _ _ h => by cases h; rfl) rfl ho1 (Nat.le_of_ble_eq_true rfl) rfl rfl ?_
  refine g_iconst (pc := 13) (v := nI 0) dX7_init__13 (by decide) ?_
  refine g_istore_n (pc := 14) [(3, .int (nI 0)), (0, .ref o), (1, .ref x), (2, .ref y)] dX7_init__14 rfl (by decide) rfl ?_
  obtain ⟨w2, hw2⟩ : ∃ w2 : Wd, w2 = ((w ++ [aR 4 8 (fun _ => none)]).set o (.inr (7, [.ref w.length, .null]))) := ⟨_, rfl⟩
  refine GP.weq w2 hw2.symm ?_
  have hox : o ≠ x := fun g9 => by rw [g9, hx] at ho; cases ho
  have hop : o ≠ p := fun g9 => by rw [g9, hp] at ho; cases ho
  have k1 : w2[o]? = some (.inr (7, [.ref w.length, .null])) := by rw [hw2]; exact lk_eq ho1
  have k2 : w2[w.length]? = some (aR 4 8 (fun _ => none)) := by rw [hw2]; exact lk_ne (ne_new ho) lk_new
  have k3 : w2[x]? = some (oS p f) := by rw [hw2]; exact lk_ne hox (lk_app hx)
  have k4 : w2[p]? = some (aR 4 8 h) := by rw [hw2]; exact lk_ne hop (lk_app hp)
  have k5 : ∀ i, i < 8 → ∃ v, h i = some v ∧ isPo w2 v := fun i hi => by
    obtain ⟨v, hv, hvP⟩ := hall i hi
    have hov : o ≠ v := isPo_ne hvP ho (fun _ g9 => by cases g9)
    obtain ⟨fv, hw⟩ := hvP
    exact ⟨v, hv, fv, by rw [hw2]; exact lk_ne hov (lk_app hw)⟩
  refine GP.weq (w2.set w.length (aR 4 8 (fun _ => none))) (set_same k2).symm ?_
  refine GP.post ?_ (GP.lsub _ (by simp) (sh_loop (y := y) k1 k2 k3 k4 (new_ne ho) (new_ne hx) (new_ne hp) k5 8 0 (fun _ => none) (by omega) (fun j hj => absurd hj (by omega))))
  rintro _ _ ⟨rfl, h', hh, rfl⟩
  refine ⟨rfl, h', hh, ?_⟩
  rw [hw2, List.set_comm _ _ (ne_new ho), set_new, set_app ho, set_app (lk_eq ho), List.set_set]
