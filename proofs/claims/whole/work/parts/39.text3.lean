/-! Text: writing -/
def wT3 (s : (Nat → Int32) × Nat) (p : Nat) : (Nat → Int32) × Nat := if 1 < p then wN (wB s (nI 94)) p else s
def wT2 (s : (Nat → Int32) × Nat) (p : Nat) : (Nat → Int32) × Nat := if 0 < p then wB s (nI 120) else s
def wT1 (s : (Nat → Int32) × Nat) (a p : Nat) : (Nat → Int32) × Nat := if a ≠ 1 ∨ p = 0 then wN s a else s
def wT0 (s : (Nat → Int32) × Nat) (v : Int) : (Nat → Int32) × Nat := if v < 0 then wB s (nI 45) else if 0 < s.2 then wB s (nI 43) else s
def wT (s : (Nat → Int32) × Nat) (v : Int) (p : Nat) : (Nat → Int32) × Nat := wT3 (wT2 (wT1 (wT0 s v) v.natAbs p) p) p
theorem wN_le {s : (Nat → Int32) × Nat} {x : Nat} : (wN s x).2 ≤ s.2 + 4 := by
  have d1 := wD_le (s := s) (x := x) (u := 1000)
  have d2 := wD_le (s := wD s x 1000) (x := x) (u := 100)
  have d3 := wD_le (s := wD (wD s x 1000) x 100) (x := x) (u := 10)
  have d4 := wD_le (s := wD (wD (wD s x 1000) x 100) x 10) (x := x) (u := 1)
  show (wD (wD (wD (wD s x 1000) x 100) x 10) x 1).2 ≤ _
  omega
theorem wB_2 {s : (Nat → Int32) × Nat} {x : Int32} : (wB s x).2 = s.2 + 1 := rfl
theorem wT3_le {s : (Nat → Int32) × Nat} {p : Nat} : (wT3 s p).2 ≤ s.2 + 5 := by
  unfold wT3
  split
  · have := wN_le (s := wB s (nI 94)) (x := p); rw [wB_2] at this; omega
  · omega
theorem wT2_le {s : (Nat → Int32) × Nat} {p : Nat} : (wT2 s p).2 ≤ s.2 + 1 := by
  unfold wT2
  split
  · rw [wB_2]; omega
  · omega
theorem wT1_le {s : (Nat → Int32) × Nat} {a p : Nat} : (wT1 s a p).2 ≤ s.2 + 4 := by
  unfold wT1
  split
  · exact wN_le
  · omega
theorem wT0_le {s : (Nat → Int32) × Nat} {v : Int} : (wT0 s v).2 ≤ s.2 + 1 := by
  unfold wT0
  split
  · rw [wB_2]; omega
  · split
    · rw [wB_2]; omega
    · omega
theorem wT_le {s : (Nat → Int32) × Nat} {v : Int} {p : Nat} : (wT s v p).2 ≤ s.2 + 11 := by
  have h0 := wT0_le (s := s) (v := v)
  have h1 := wT1_le (s := wT0 s v) (a := v.natAbs) (p := p)
  have h2 := wT2_le (s := wT1 (wT0 s v) v.natAbs p) (p := p)
  have h3 := wT3_le (s := wT2 (wT1 (wT0 s v) v.natAbs p) p) (p := p)
  unfold wT
  omega
/-- the terms from n downwards, m powers of them -/
def wAll (F : Nat → Int) (s : (Nat → Int32) × Nat) (n : Nat) : Nat → (Nat → Int32) × Nat
  | 0 => s
  | m + 1 => if F (n - m) = 0 then wAll F s n m else wT (wAll F s n m) (F (n - m)) (n - m)
theorem wAll_le {F : Nat → Int} {s : (Nat → Int32) × Nat} {n : Nat} : ∀ m, (wAll F s n m).2 ≤ s.2 + m * 11
  | 0 => by show s.2 ≤ _; omega
  | m + 1 => by
    have ih := wAll_le (F := F) (s := s) (n := n) m
    simp only [wAll]
    split
    · omega
    · have := wT_le (s := wAll F s n m) (v := F (n - m)) (p := n - m)
      omega
abbrev BX9_writeTerm (w0 : Wd) (Post : Option Value → Wd → Prop) (w : Wd) (pc : Nat) (ls : List (Nat × Value)) (st : List Value) : Prop := GP "writeTerm" RX9 cX9_writeTerm 4 none 2 78 none w0 Post w pc ls st
abbrev EX9_writeTerm (As : List Value) (w : Wd) (Post : Option Value → Wd → Prop) : Prop := EP yX9_writeTerm cX9_writeTerm 4 none 2 As w Post
theorem wu_55 {w0 w : Wd} {o b pl p a : Nat} {x : Int32} {s0 : (Nat → Int32) × Nat} (ho : w[o]? = some (oT b s0.2 pl)) (hb : w[b]? = some (aI 2 400 s0.1)) (hob : o ≠ b) (hp : p ≤ 12) (ha : a ≤ 9999) {s e : (Nat → Int32) × Nat} (hs : s.2 + 5 ≤ 400) (he : e = wT3 s p) : BX9_writeTerm w0 (fun r w' => r = none ∧ w' = (w.set b (aI 2 400 (e).1)).set o (oT b (e).2 pl)) ((w.set b (aI 2 400 (s).1)).set o (oT b (s).2 pl)) 55 [(3, .int (nI a)), (0, .int x), (1, .int (nI p)), (2, .ref o)] [] := by
  refine g_iload_n (pc := 55) 2 dX9_writeTerm_55 rfl rfl ?_
  refine g_iconst (pc := 56) (v := nI 1) dX9_writeTerm_56 (by decide) ?_
  refine n_icmp_le (pc := 57) 71 dX9_writeTerm_57 (by decide) (by omega) (by omega) (fun h1 => ?_) (fun h1 => ?_)
  · rw [show wT3 s p = s from if_neg (by omega)] at he
    subst he
    exact g_vret (pc := 71) dX9_writeTerm_71 ⟨rfl, rfl⟩
  · rw [show wT3 s p = wN (wB s (nI 94)) p from if_pos (by omega)] at he
    subst he
    refine g_aload_n (pc := 60) 3 dX9_writeTerm_60 rfl rfl ?_
    refine g_bipush (pc := 61) (v := nI 94) dX9_writeTerm_61 (by decide) ?_
    refine g_callV (pc := 63) [.int (nI 94)] dX9_writeTerm_63 cv_X9_72.1 cv_X9_72.2.1 cv_X9_72.2.2.1 cv_X9_72.2.2.2 (lk_eq (lk_ne (Ne.symm hob) ho)) rfl rfl (Nat.le_of_ble_eq_true rfl) (by decide) (by decide) (sp_addByte _ (s := s) (lk_eq (lk_ne (Ne.symm hob) ho)) (lk_ne hob (lk_eq hb)) hob (by omega)) ?_
    rintro _ w9 ⟨rfl, e9⟩
    refine GP.weq _ (e9.trans (wd_again hob)) ?_
    refine g_aload_n (pc := 66) 3 dX9_writeTerm_66 rfl rfl ?_
    refine g_iload_n (pc := 67) 2 dX9_writeTerm_67 rfl rfl ?_
    refine g_callV (pc := 68) [.int (nI p)] dX9_writeTerm_68 cv_X9_76.1 cv_X9_76.2.1 cv_X9_76.2.2.1 cv_X9_76.2.2.2 (lk_eq (lk_ne (Ne.symm hob) ho)) rfl rfl (Nat.le_of_ble_eq_true rfl) (by decide) (by decide) (sp_addNumber _ (s := wB s (nI 94)) (lk_eq (lk_ne (Ne.symm hob) ho)) (lk_ne hob (lk_eq hb)) hob (by omega) (by rw [wB_2]; omega)) ?_
    rintro _ w9 ⟨rfl, e9⟩
    refine GP.weq _ (e9.trans (wd_again hob)) ?_
    exact g_vret (pc := 71) dX9_writeTerm_71 ⟨rfl, rfl⟩
theorem wu_45 {w0 w : Wd} {o b pl p a : Nat} {x : Int32} {s0 : (Nat → Int32) × Nat} (ho : w[o]? = some (oT b s0.2 pl)) (hb : w[b]? = some (aI 2 400 s0.1)) (hob : o ≠ b) (hp : p ≤ 12) (ha : a ≤ 9999) {s e : (Nat → Int32) × Nat} (hs : s.2 + 6 ≤ 400) (he : e = wT3 (wT2 s p) p) : BX9_writeTerm w0 (fun r w' => r = none ∧ w' = (w.set b (aI 2 400 (e).1)).set o (oT b (e).2 pl)) ((w.set b (aI 2 400 (s).1)).set o (oT b (s).2 pl)) 45 [(3, .int (nI a)), (0, .int x), (1, .int (nI p)), (2, .ref o)] [] := by
  refine g_iload_n (pc := 45) 2 dX9_writeTerm_45 rfl rfl ?_
  refine n_if_le (pc := 46) 55 dX9_writeTerm_46 (by decide) (by omega) (fun h1 => ?_) (fun h1 => ?_)
  · exact wu_55 ho hb hob hp ha (by omega) (by rw [he, show wT2 s p = s from if_neg (by omega)])
  · refine g_aload_n (pc := 49) 3 dX9_writeTerm_49 rfl rfl ?_
    refine g_bipush (pc := 50) (v := nI 120) dX9_writeTerm_50 (by decide) ?_
    refine g_callV (pc := 52) [.int (nI 120)] dX9_writeTerm_52 cv_X9_72.1 cv_X9_72.2.1 cv_X9_72.2.2.1 cv_X9_72.2.2.2 (lk_eq (lk_ne (Ne.symm hob) ho)) rfl rfl (Nat.le_of_ble_eq_true rfl) (by decide) (by decide) (sp_addByte _ (s := s) (lk_eq (lk_ne (Ne.symm hob) ho)) (lk_ne hob (lk_eq hb)) hob (by omega)) ?_
    rintro _ w9 ⟨rfl, e9⟩
    refine GP.weq _ (e9.trans (wd_again hob)) ?_
    exact wu_55 ho hb hob hp ha (by rw [wB_2]; omega) (by rw [he, show wT2 s p = wB s (nI 120) from if_pos (by omega)])
theorem wu_31 {w0 w : Wd} {o b pl p a : Nat} {x : Int32} {s0 : (Nat → Int32) × Nat} (ho : w[o]? = some (oT b s0.2 pl)) (hb : w[b]? = some (aI 2 400 s0.1)) (hob : o ≠ b) (hp : p ≤ 12) (ha : a ≤ 9999) {s e : (Nat → Int32) × Nat} (hs : s.2 + 10 ≤ 400) (he : e = wT3 (wT2 (wT1 s a p) p) p) : BX9_writeTerm w0 (fun r w' => r = none ∧ w' = (w.set b (aI 2 400 (e).1)).set o (oT b (e).2 pl)) ((w.set b (aI 2 400 (s).1)).set o (oT b (s).2 pl)) 31 [(3, .int (nI a)), (0, .int x), (1, .int (nI p)), (2, .ref o)] [] := by
  refine g_iload_n (pc := 31) 0 dX9_writeTerm_31 rfl rfl ?_
  refine g_iconst (pc := 32) (v := nI 1) dX9_writeTerm_32 (by decide) ?_
  refine n_icmp_ne (pc := 33) 40 dX9_writeTerm_33 (by decide) (by omega) (by omega) (fun h1 => ?_) (fun h1 => ?_)
  · refine g_aload_n (pc := 40) 3 dX9_writeTerm_40 rfl rfl ?_
    refine g_iload_n (pc := 41) 0 dX9_writeTerm_41 rfl rfl ?_
    refine g_callV (pc := 42) [.int (nI a)] dX9_writeTerm_42 cv_X9_76.1 cv_X9_76.2.1 cv_X9_76.2.2.1 cv_X9_76.2.2.2 (lk_eq (lk_ne (Ne.symm hob) ho)) rfl rfl (Nat.le_of_ble_eq_true rfl) (by decide) (by decide) (sp_addNumber _ (s := s) (lk_eq (lk_ne (Ne.symm hob) ho)) (lk_ne hob (lk_eq hb)) hob ha (by omega)) ?_
    rintro _ w9 ⟨rfl, e9⟩
    refine GP.weq _ (e9.trans (wd_again hob)) ?_
    exact wu_45 ho hb hob hp ha (by have := wN_le (s := s) (x := a); omega) (by rw [he, show wT1 s a p = wN s a from if_pos (Or.inl h1)])
  · refine g_iload_n (pc := 36) 2 dX9_writeTerm_36 rfl rfl ?_
    refine n_if_ne (pc := 37) 45 dX9_writeTerm_37 (by decide) (by omega) (fun h2 => ?_) (fun h2 => ?_)
    · exact wu_45 ho hb hob hp ha (by omega) (by rw [he, show wT1 s a p = s from if_neg (by omega)])
    · refine g_aload_n (pc := 40) 3 dX9_writeTerm_40 rfl rfl ?_
      refine g_iload_n (pc := 41) 0 dX9_writeTerm_41 rfl rfl ?_
      refine g_callV (pc := 42) [.int (nI a)] dX9_writeTerm_42 cv_X9_76.1 cv_X9_76.2.1 cv_X9_76.2.2.1 cv_X9_76.2.2.2 (lk_eq (lk_ne (Ne.symm hob) ho)) rfl rfl (Nat.le_of_ble_eq_true rfl) (by decide) (by decide) (sp_addNumber _ (s := s) (lk_eq (lk_ne (Ne.symm hob) ho)) (lk_ne hob (lk_eq hb)) hob ha (by omega)) ?_
      rintro _ w9 ⟨rfl, e9⟩
      refine GP.weq _ (e9.trans (wd_again hob)) ?_
      exact wu_45 ho hb hob hp ha (by have := wN_le (s := s) (x := a); omega) (by rw [he, show wT1 s a p = wN s a from if_pos (Or.inr (by omega))])
theorem sp_writeTerm (w : Wd) {o b pl p : Nat} {x : Int32} {s0 : (Nat → Int32) × Nat} (ho : w[o]? = some (oT b s0.2 pl)) (hb : w[b]? = some (aI 2 400 s0.1)) (hob : o ≠ b) (hp : p ≤ 12) (hx : -9999 ≤ x.toInt ∧ x.toInt ≤ 9999) (hs : s0.2 + 11 ≤ 400) : EX9_writeTerm [.int x, .int (nI p), .ref o] w (fun r w' => r = none ∧ w' = (w.set b (aI 2 400 (wT s0 x.toInt p).1)).set o (oT b (wT s0 x.toInt p).2 pl)) := by
  refine EP.of (plainFor_of_name (by decide)) [(0, .int x), (1, .int (nI p)), (2, .ref o)] rfl (Nat.le_of_ble_eq_true rfl) (fun r wf h => by obtain ⟨rfl, -⟩ := h; trivial) ?_
  show BX9_writeTerm w _ w 0 [(0, .int x), (1, .int (nI p)), (2, .ref o)] []
  refine GP.weq _ (wd_self ho hb) ?_
  refine g_iload_n (pc := 0) 0 dX9_writeTerm_0 rfl rfl ?_
  refine g_callS (pc := 1) [.int x] dX9_writeTerm_1 cs_X9_66.1 cs_X9_66.2 rfl rfl (Nat.le_of_ble_eq_true rfl) (by decide) (by decide) (sp_absI _ x) ?_
  rintro _ w9 ⟨rfl, e9⟩
  refine GP.weq _ e9 ?_
  refine GP.ti (nI x.toInt.natAbs) (abs_nI (by omega)) ?_
  refine g_istore_n (pc := 4) [(3, .int (nI x.toInt.natAbs)), (0, .int x), (1, .int (nI p)), (2, .ref o)] dX9_writeTerm_4 rfl (by decide) rfl ?_
  refine g_iload_n (pc := 5) 1 dX9_writeTerm_5 rfl rfl ?_
  refine g_if_ge (pc := 6) 18 dX9_writeTerm_6 (by decide) (fun h1 => ?_) (fun h1 => ?_)
  · replace h1 : 0 ≤ x.toInt := Int32.le_iff_toInt_le.mp h1
    refine g_aload_n (pc := 18) 3 dX9_writeTerm_18 rfl rfl ?_
    refine g_get (pc := 19) dX9_writeTerm_19 fk_X9_34 (lk_eq (lk_ne (Ne.symm hob) ho)) rfl ?_
    refine n_if_le (pc := 22) 31 dX9_writeTerm_22 (by decide) (by omega) (fun h2 => ?_) (fun h2 => ?_)
    · exact GP.lsub [(3, .int (nI x.toInt.natAbs)), (0, .int x), (1, .int (nI p)), (2, .ref o)] (by simp) (wu_31 ho hb hob hp (by omega) (by omega) (by unfold wT; rw [show wT0 s0 x.toInt = s0 from by unfold wT0; rw [if_neg (by omega), if_neg (by omega)]]))
    · refine g_aload_n (pc := 25) 3 dX9_writeTerm_25 rfl rfl ?_
      refine g_bipush (pc := 26) (v := nI 43) dX9_writeTerm_26 (by decide) ?_
      refine g_callV (pc := 28) [.int (nI 43)] dX9_writeTerm_28 cv_X9_72.1 cv_X9_72.2.1 cv_X9_72.2.2.1 cv_X9_72.2.2.2 (lk_eq (lk_ne (Ne.symm hob) ho)) rfl rfl (Nat.le_of_ble_eq_true rfl) (by decide) (by decide) (sp_addByte _ (s := s0) (lk_eq (lk_ne (Ne.symm hob) ho)) (lk_ne hob (lk_eq hb)) hob (by omega)) ?_
      rintro _ w9 ⟨rfl, e9⟩
      refine GP.weq _ (e9.trans (wd_again hob)) ?_
      exact GP.lsub [(3, .int (nI x.toInt.natAbs)), (0, .int x), (1, .int (nI p)), (2, .ref o)] (by simp) (wu_31 ho hb hob hp (by omega) (by rw [wB_2]; omega) (by unfold wT; rw [show wT0 s0 x.toInt = wB s0 (nI 43) from by unfold wT0; rw [if_neg (by omega), if_pos (by omega)]]))
  · replace h1 : ¬ 0 ≤ x.toInt := fun g => h1 (Int32.le_iff_toInt_le.mpr g)
    refine g_aload_n (pc := 9) 3 dX9_writeTerm_9 rfl rfl ?_
    refine g_bipush (pc := 10) (v := nI 45) dX9_writeTerm_10 (by decide) ?_
    refine g_callV (pc := 12) [.int (nI 45)] dX9_writeTerm_12 cv_X9_72.1 cv_X9_72.2.1 cv_X9_72.2.2.1 cv_X9_72.2.2.2 (lk_eq (lk_ne (Ne.symm hob) ho)) rfl rfl (Nat.le_of_ble_eq_true rfl) (by decide) (by decide) (sp_addByte _ (s := s0) (lk_eq (lk_ne (Ne.symm hob) ho)) (lk_ne hob (lk_eq hb)) hob (by omega)) ?_
    rintro _ w9 ⟨rfl, e9⟩
    refine GP.weq _ (e9.trans (wd_again hob)) ?_
    refine g_goto (pc := 15) 31 dX9_writeTerm_15 (by decide) ?_
    exact GP.lsub [(3, .int (nI x.toInt.natAbs)), (0, .int x), (1, .int (nI p)), (2, .ref o)] (by simp) (wu_31 ho hb hob hp (by omega) (by rw [wB_2]; omega) (by unfold wT; rw [show wT0 s0 x.toInt = wB s0 (nI 45) from by unfold wT0; rw [if_pos (by omega)]]))
abbrev BX9_write (w0 : Wd) (Post : Option Value → Wd → Prop) (w : Wd) (pc : Nat) (ls : List (Nat × Value)) (st : List Value) : Prop := GP "write" RX9 cX9_write 3 none 3 117 none w0 Post w pc ls st
abbrev EX9_write (As : List Value) (w : Wd) (Post : Option Value → Wd → Prop) : Prop := EP yX9_write cX9_write 3 none 3 As w Post
theorem wr_loop {w0 w : Wd} {o b y z n ln pl : Nat} {f h : Nat → Int32} (ho : w[o]? = some (oT b ln pl)) (hb : w[b]? = some (aI 2 400 f)) (hy : w[y]? = some (oP n z)) (hz : w[z]? = some (aI 0 (n + 1) h)) (hob : o ≠ b) (hoy : o ≠ y) (hoz : o ≠ z) (hby : b ≠ y) (hbz : b ≠ z) (hn : n ≤ 12) (hh : ∀ t, t ≤ n → -9999 ≤ (h t).toInt ∧ (h t).toInt ≤ 9999) : ∀ c : Nat, c ≤ n + 1 → BX9_write w0 (fun r w' => r = none ∧ w' = (w.set b (aI 2 400 (wAll (toJ h) (f, 0) n (n + 1)).1)).set o (oT b (wAll (toJ h) (f, 0) n (n + 1)).2 pl)) ((w.set b (aI 2 400 (wAll (toJ h) (f, 0) n (n + 1 - c)).1)).set o (oT b (wAll (toJ h) (f, 0) n (n + 1 - c)).2 pl)) 10 [(2, .int (nI c - 1)), (0, .ref y), (1, .ref o)] [] := by
  intro c
  induction c with
  | zero =>
    intro hc
    rw [nI_dec0]
    refine g_iload_n (pc := 10) 0 dX9_write_10 rfl rfl ?_
    refine g_if_lt (pc := 11) 40 dX9_write_11 (by decide) (fun h1 => ?_) (fun h1 => ?_)
    · exact g_vret (pc := 40) dX9_write_40 ⟨rfl, rfl⟩
    · exact absurd (by decide) h1
  | succ c ih =>
    intro hc
    rw [nI_pred]
    have hle := wAll_le (F := toJ h) (s := (f, 0)) (n := n) (n + 1 - (c + 1))
    have hc9 := hh c (by omega)
    have e1 : wAll (toJ h) (f, 0) n (n + 1 - c) = if (h c).toInt = 0 then wAll (toJ h) (f, 0) n (n + 1 - (c + 1)) else wT (wAll (toJ h) (f, 0) n (n + 1 - (c + 1))) (h c).toInt c := by
      rw [show n + 1 - c = n + 1 - (c + 1) + 1 by omega]
      simp only [wAll]
      rw [show n - (n + 1 - (c + 1)) = c by omega]
      rfl
    simp only at hle
    refine g_iload_n (pc := 10) 0 dX9_write_10 rfl rfl ?_
    refine n_if_lt (pc := 11) 40 dX9_write_11 (by decide) (by omega) ?_
    refine g_aload_n (pc := 14) 1 dX9_write_14 rfl rfl ?_
    refine g_get (pc := 15) dX9_write_15 fk_X9_58 (lk_ne hoy (lk_ne hby hy)) rfl ?_
    refine g_iload_n (pc := 18) 0 dX9_write_18 rfl rfl ?_
    refine g_iald (pc := 19) c dX9_write_19 (lk_ne hoz (lk_ne hbz hz)) (IXn (by omega) (by omega)) ?_
    refine g_if_eq (pc := 20) 34 dX9_write_20 (by decide) (fun h1 => ?_) (fun h1 => ?_)
    · refine g_iinc (pc := 34) [(2, .int (nI c - 1)), (0, .ref y), (1, .ref o)] 0 dX9_write_34 rfl (dec1 _) (by decide) rfl ?_
      refine g_goto (pc := 37) 10 dX9_write_37 (by decide) ?_
      rw [if_pos (I0.mpr h1)] at e1
      rw [← e1]
      exact ih (by omega)
    · refine g_aload_n (pc := 23) 1 dX9_write_23 rfl rfl ?_
      refine g_get (pc := 24) dX9_write_24 fk_X9_58 (lk_ne hoy (lk_ne hby hy)) rfl ?_
      refine g_iload_n (pc := 27) 0 dX9_write_27 rfl rfl ?_
      refine g_iald (pc := 28) c dX9_write_28 (lk_ne hoz (lk_ne hbz hz)) (IXn (by omega) (by omega)) ?_
      refine g_iload_n (pc := 29) 0 dX9_write_29 rfl rfl ?_
      refine g_aload_n (pc := 30) 2 dX9_write_30 rfl rfl ?_
      refine g_callS (pc := 31) [.int (h c), .int (nI c), .ref o] dX9_write_31 cs_X9_62.1 cs_X9_62.2 rfl rfl (Nat.le_of_ble_eq_true rfl) (by decide) (by decide) (sp_writeTerm _ (s0 := wAll (toJ h) (f, 0) n (n + 1 - (c + 1))) (lk_eq (lk_ne (Ne.symm hob) ho)) (lk_ne hob (lk_eq hb)) hob (by omega) hc9 (by omega)) ?_
      rintro _ w9 ⟨rfl, e9⟩
      refine GP.weq _ (e9.trans (wd_again hob)) ?_
      refine g_iinc (pc := 34) [(2, .int (nI c - 1)), (0, .ref y), (1, .ref o)] 0 dX9_write_34 rfl (dec1 _) (by decide) rfl ?_
      refine g_goto (pc := 37) 10 dX9_write_37 (by decide) ?_
      rw [if_neg (fun g => h1 (I0.mp g))] at e1
      rw [← e1]
      exact ih (by omega)
theorem sp_write (w : Wd) {o b y z n ln pl : Nat} {f h : Nat → Int32} (ho : w[o]? = some (oT b ln pl)) (hb : w[b]? = some (aI 2 400 f)) (hy : w[y]? = some (oP n z)) (hz : w[z]? = some (aI 0 (n + 1) h)) (hob : o ≠ b) (hoy : o ≠ y) (hoz : o ≠ z) (hby : b ≠ y) (hbz : b ≠ z) (hn : n ≤ 12) (hh : ∀ t, t ≤ n → -9999 ≤ (h t).toInt ∧ (h t).toInt ≤ 9999) : EX9_write [.ref y, .ref o] w (fun r w' => r = none ∧ w' = (w.set b (aI 2 400 (wAll (toJ h) (f, 0) n (n + 1)).1)).set o (oT b (wAll (toJ h) (f, 0) n (n + 1)).2 pl)) := by
  refine EP.of (plainFor_of_name (by decide)) [(0, .ref y), (1, .ref o)] rfl (Nat.le_of_ble_eq_true rfl) (fun r wf h => by obtain ⟨rfl, -⟩ := h; trivial) ?_
  show BX9_write w _ w 0 [(0, .ref y), (1, .ref o)] []
  refine GP.weq _ (set_same hb).symm ?_
  refine g_aload_n (pc := 0) 1 dX9_write_0 rfl rfl ?_
  refine g_iconst (pc := 1) (v := nI 0) dX9_write_1 (by decide) ?_
  refine g_put (pc := 2) [.ref b, .int (nI 0), .int (nI pl)] dX9_write_2 fk_X9_34 (lk_ne (Ne.symm hob) ho) (Nat.le_of_ble_eq_true rfl) rfl rfl ?_
  refine g_aload_n (pc := 5) 0 dX9_write_5 rfl rfl ?_
  refine g_get (pc := 6) dX9_write_6 fk_X9_55 (lk_ne hoy (lk_ne hby hy)) rfl ?_
  refine g_istore_n (pc := 9) [(2, .int (nI n)), (0, .ref y), (1, .ref o)] dX9_write_9 rfl (by decide) rfl ?_
  have h9 := wr_loop (w0 := w) ho hb hy hz hob hoy hoz hby hbz hn hh (n + 1) (Nat.le_refl _)
  rw [nI_pred, show n + 1 - (n + 1) = 0 by omega] at h9
  exact GP.lsub _ (by simp) h9
