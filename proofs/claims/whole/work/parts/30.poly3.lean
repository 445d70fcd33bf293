/-! Poly: writeTurned, what is told of one -/
/-- the ways of turn(), but for SQUARED, as far as powers below i have been taken -/
def trp (h : Nat) (f : Nat → Int) (n i j : Nat) : Int := match h with
  | 0 => if j ≤ n ∧ n - j < i then f (n - j) else 0
  | 1 => if j < i then (if j % 2 = 0 then f j else -f j) else 0
  | 2 => if j % 2 = 0 ∧ j / 2 < i then f (j / 2) else 0
  | 3 => if j < i then -f j else 0
  | _ => if j + 1 < i then (j + 1 : Nat) * f (j + 1) else 0
abbrev BX6_writeTurned (w0 : Wd) (Post : Option Value → Wd → Prop) (w : Wd) (pc : Nat) (ls : List (Nat × Value)) (st : List Value) : Prop := GP "writeTurned" RX6 cX6_writeTurned 4 none 1 39 none w0 Post w pc ls st
abbrev EX6_writeTurned (As : List Value) (w : Wd) (Post : Option Value → Wd → Prop) : Prop := EP yX6_writeTurned cX6_writeTurned 4 none 1 As w Post
theorem wu_loop0 {w0 w : Wd} {Post : Option Value → Wd → Prop} {o b n q : Nat} {f : Nat → Int32} {g : Nat → Int64} (ho : w[o]? = some (oP n b)) (hb : w[b]? = some (aI 0 (n + 1) f)) (hq : w[q]? = some (aL 25 g)) (hqo : q ≠ o) (hqb : q ≠ b) (hn : n ≤ 12) (hf : ∀ t, t ≤ n → -9999 ≤ (f t).toInt ∧ (f t).toInt ≤ 9999) (hx : ∀ cur : Nat → Int64, (∀ j, j < 25 → (cur j).toInt = trp 0 (toJ f) n (n + 1) j) → Post none (w.set q (aL 25 cur))) : ∀ (k i : Nat) (cur : Nat → Int64), n + 1 = i + k → (∀ j, j < 25 → (cur j).toInt = trp 0 (toJ f) n i j) → BX6_writeTurned w0 Post (w.set q (aL 25 cur)) 7 [(3, .int (nI i)), (0, .ref o), (1, .int (nI 0)), (2, .ref q)] [] := by
  intro k
  induction k with
  | zero =>
    intro i cur hi h
    refine g_iload_n (pc := 7) 0 dX6_writeTurned_7 rfl rfl ?_
    refine g_aload_n (pc := 8) 1 dX6_writeTurned_8 rfl rfl ?_
    refine g_get (pc := 9) dX6_writeTurned_9 fk_X6_18 (lk_ne hqo ho) rfl ?_
    refine n_icmp_gt (pc := 12) 158 dX6_writeTurned_12 (by decide) (by omega) (by omega) (fun hz => ?_) (fun hz => ?_)
    · exact g_vret (pc := 158) dX6_writeTurned_158 (hx cur (fun j hj => by rw [h j hj, show i = n + 1 by omega]))
    · exact absurd hz (by omega)
  | succ k ih =>
    intro i cur hi h
    refine g_iload_n (pc := 7) 0 dX6_writeTurned_7 rfl rfl ?_
    refine g_aload_n (pc := 8) 1 dX6_writeTurned_8 rfl rfl ?_
    refine g_get (pc := 9) dX6_writeTurned_9 fk_X6_18 (lk_ne hqo ho) rfl ?_
    refine n_icmp_gt (pc := 12) 158 dX6_writeTurned_12 (by decide) (by omega) (by omega) (fun hz => ?_) (fun hz => ?_)
    · exact absurd hz (by omega)
    · refine g_iconst (pc := 15) (v := nI 2) dX6_writeTurned_15 (by decide) ?_
      refine g_iload_n (pc := 16) 0 dX6_writeTurned_16 rfl rfl ?_
      refine n_imul (pc := 17) dX6_writeTurned_17 ?_
      refine g_aload_n (pc := 18) 3 dX6_writeTurned_18 rfl rfl ?_
      refine g_alen (pc := 19) dX6_writeTurned_19 (lk_eq hq) (by decide) ?_
      refine n_icmp_ge (pc := 20) 158 dX6_writeTurned_20 (by decide) (by omega) (by omega) (fun hz2 => ?_) (fun hz2 => ?_)
      · exact absurd hz2 (by omega)
      · have hfi := hf i (by omega)
        refine g_iload_n (pc := 23) 2 dX6_writeTurned_23 rfl rfl ?_
        refine g_tabIn (pc := 24) (off := 32) 56 dX6_writeTurned_24 (by decide) (by decide) (by decide) (by decide) ?_
        refine g_aload_n (pc := 56) 3 dX6_writeTurned_56 rfl rfl ?_
        refine g_aload_n (pc := 57) 1 dX6_writeTurned_57 rfl rfl ?_
        refine g_get (pc := 58) dX6_writeTurned_58 fk_X6_18 (lk_ne hqo ho) rfl ?_
        refine g_iload_n (pc := 61) 0 dX6_writeTurned_61 rfl rfl ?_
        refine n_isub (pc := 62) dX6_writeTurned_62 (by omega) ?_
        refine g_aload_n (pc := 63) 1 dX6_writeTurned_63 rfl rfl ?_
        refine g_get (pc := 64) dX6_writeTurned_64 fk_X6_24 (lk_ne hqo ho) rfl ?_
        refine g_iload_n (pc := 67) 0 dX6_writeTurned_67 rfl rfl ?_
        refine g_iald (pc := 68) i dX6_writeTurned_68 (lk_ne hqb hb) (IXn (by omega) (by omega)) ?_
        refine g_i2l (pc := 69) dX6_writeTurned_69 ?_
        refine g_last (pc := 70) (n - i) dX6_writeTurned_70 (lk_eq hq) (IXn (by omega) (by omega)) ?_
        refine GP.weq (w.set q (aL 25 (vp_updL cur (n - i) ((f i).toInt64)))) (by rw [List.set_set]) ?_
        refine g_goto (pc := 71) 152 dX6_writeTurned_71 (by decide) ?_
        refine n_iinc (pc := 152) (c := 1) [(3, .int (nI (i + 1))), (0, .ref o), (1, .int (nI 0)), (2, .ref q)] 0 dX6_writeTurned_152 rfl (by decide) (by decide) rfl ?_
        refine g_goto (pc := 155) 7 dX6_writeTurned_155 (by decide) ?_
        refine GP.lsub _ (by simp) (ih (i + 1) _ (by omega) (fun j hj => ?_))
        have hh := h j hj
        by_cases hji : j = n - i
        · rw [hji, upL_s, IL]
          simp only [trp]
          rw [if_pos (by omega), show n - (n - i) = i by omega]; rfl
        · rw [upL_n hji, hh]
          simp only [trp]
          split <;> split <;> first | rfl | omega
theorem sp_writeTurned0 (w : Wd) {o b n q : Nat} {f : Nat → Int32} {g : Nat → Int64} (ho : w[o]? = some (oP n b)) (hb : w[b]? = some (aI 0 (n + 1) f)) (hq : w[q]? = some (aL 25 g)) (hqo : q ≠ o) (hqb : q ≠ b) (hn : n ≤ 12) (hf : ∀ t, t ≤ n → -9999 ≤ (f t).toInt ∧ (f t).toInt ≤ 9999) : EX6_writeTurned [.ref o, .int (nI 0), .ref q] w (fun r w' => r = none ∧ ∃ g' : Nat → Int64, (∀ j, j < 25 → (g' j).toInt = trp 0 (toJ f) n (n + 1) j) ∧ w' = w.set q (aL 25 g')) := by
  refine EP.of (plainFor_of_name (by decide)) [(0, .ref o), (1, .int (nI 0)), (2, .ref q)] rfl (Nat.le_of_ble_eq_true rfl) (fun r wf h => by obtain ⟨rfl, -⟩ := h; trivial) ?_
  show BX6_writeTurned w _ w 0 [(0, .ref o), (1, .int (nI 0)), (2, .ref q)] []
  refine g_aload_n (pc := 0) 2 dX6_writeTurned_0 rfl rfl ?_
  refine g_lconst (pc := 1) (v := 0) dX6_writeTurned_1 (by decide) ?_
  refine g_callS (pc := 2) [.ref q, .long 0] dX6_writeTurned_2 cs_X6_32.1 cs_X6_32.2 rfl rfl (Nat.le_of_ble_eq_true rfl) (by decide) (by decide) (sp_fill1 _ q 25 g 0 hq (by decide)) ?_
  rintro _ w9 ⟨rfl, e9⟩
  refine GP.weq _ e9 ?_
  refine g_iconst (pc := 5) (v := nI 0) dX6_writeTurned_5 (by decide) ?_
  refine g_istore_n (pc := 6) [(3, .int (nI 0)), (0, .ref o), (1, .int (nI 0)), (2, .ref q)] dX6_writeTurned_6 rfl (by decide) rfl ?_
  refine GP.lsub _ (by simp) (wu_loop0 ho hb hq hqo hqb hn hf (fun cur h => ⟨rfl, cur, h, rfl⟩) (n + 1) 0 _ (by omega) (fun j hj => ?_))
  rw [fill0 hj]
  simp [trp]
theorem wu_loop1 {w0 w : Wd} {Post : Option Value → Wd → Prop} {o b n q : Nat} {f : Nat → Int32} {g : Nat → Int64} (ho : w[o]? = some (oP n b)) (hb : w[b]? = some (aI 0 (n + 1) f)) (hq : w[q]? = some (aL 25 g)) (hqo : q ≠ o) (hqb : q ≠ b) (hn : n ≤ 12) (hf : ∀ t, t ≤ n → -9999 ≤ (f t).toInt ∧ (f t).toInt ≤ 9999) (hx : ∀ cur : Nat → Int64, (∀ j, j < 25 → (cur j).toInt = trp 1 (toJ f) n (n + 1) j) → Post none (w.set q (aL 25 cur))) : ∀ (k i : Nat) (cur : Nat → Int64), n + 1 = i + k → (∀ j, j < 25 → (cur j).toInt = trp 1 (toJ f) n i j) → BX6_writeTurned w0 Post (w.set q (aL 25 cur)) 7 [(3, .int (nI i)), (0, .ref o), (1, .int (nI 1)), (2, .ref q)] [] := by
  intro k
  induction k with
  | zero =>
    intro i cur hi h
    refine g_iload_n (pc := 7) 0 dX6_writeTurned_7 rfl rfl ?_
    refine g_aload_n (pc := 8) 1 dX6_writeTurned_8 rfl rfl ?_
    refine g_get (pc := 9) dX6_writeTurned_9 fk_X6_18 (lk_ne hqo ho) rfl ?_
    refine n_icmp_gt (pc := 12) 158 dX6_writeTurned_12 (by decide) (by omega) (by omega) (fun hz => ?_) (fun hz => ?_)
    · exact g_vret (pc := 158) dX6_writeTurned_158 (hx cur (fun j hj => by rw [h j hj, show i = n + 1 by omega]))
    · exact absurd hz (by omega)
  | succ k ih =>
    intro i cur hi h
    refine g_iload_n (pc := 7) 0 dX6_writeTurned_7 rfl rfl ?_
    refine g_aload_n (pc := 8) 1 dX6_writeTurned_8 rfl rfl ?_
    refine g_get (pc := 9) dX6_writeTurned_9 fk_X6_18 (lk_ne hqo ho) rfl ?_
    refine n_icmp_gt (pc := 12) 158 dX6_writeTurned_12 (by decide) (by omega) (by omega) (fun hz => ?_) (fun hz => ?_)
    · exact absurd hz (by omega)
    · refine g_iconst (pc := 15) (v := nI 2) dX6_writeTurned_15 (by decide) ?_
      refine g_iload_n (pc := 16) 0 dX6_writeTurned_16 rfl rfl ?_
      refine n_imul (pc := 17) dX6_writeTurned_17 ?_
      refine g_aload_n (pc := 18) 3 dX6_writeTurned_18 rfl rfl ?_
      refine g_alen (pc := 19) dX6_writeTurned_19 (lk_eq hq) (by decide) ?_
      refine n_icmp_ge (pc := 20) 158 dX6_writeTurned_20 (by decide) (by omega) (by omega) (fun hz2 => ?_) (fun hz2 => ?_)
      · exact absurd hz2 (by omega)
      · have hfi := hf i (by omega)
        refine g_iload_n (pc := 23) 2 dX6_writeTurned_23 rfl rfl ?_
        refine g_tabIn (pc := 24) (off := 50) 74 dX6_writeTurned_24 (by decide) (by decide) (by decide) (by decide) ?_
        refine g_aload_n (pc := 74) 3 dX6_writeTurned_74 rfl rfl ?_
        refine g_iload_n (pc := 75) 0 dX6_writeTurned_75 rfl rfl ?_
        refine g_iload_n (pc := 76) 0 dX6_writeTurned_76 rfl rfl ?_
        refine g_iconst (pc := 77) (v := nI 2) dX6_writeTurned_77 (by decide) ?_
        refine n_irem (pc := 78) dX6_writeTurned_78 (by omega) (by omega) (by omega) ?_
        refine n_if_ne (pc := 79) 92 dX6_writeTurned_79 (by decide) (by omega) (fun hev => ?_) (fun hev => ?_)
        · refine g_aload_n (pc := 92) 1 dX6_writeTurned_92 rfl rfl ?_
          refine g_get (pc := 93) dX6_writeTurned_93 fk_X6_24 (lk_ne hqo ho) rfl ?_
          refine g_iload_n (pc := 96) 0 dX6_writeTurned_96 rfl rfl ?_
          refine g_iald (pc := 97) i dX6_writeTurned_97 (lk_ne hqb hb) (IXn (by omega) (by omega)) ?_
          refine g_ineg (pc := 98) dX6_writeTurned_98 ?_
          refine g_i2l (pc := 99) dX6_writeTurned_99 ?_
          refine g_last (pc := 100) i dX6_writeTurned_100 (lk_eq hq) (IXn (by omega) (by omega)) ?_
          refine GP.weq (w.set q (aL 25 (vp_updL cur i ((-(f i)).toInt64)))) (by rw [List.set_set]) ?_
          refine g_goto (pc := 101) 152 dX6_writeTurned_101 (by decide) ?_
          refine n_iinc (pc := 152) (c := 1) [(3, .int (nI (i + 1))), (0, .ref o), (1, .int (nI 1)), (2, .ref q)] 0 dX6_writeTurned_152 rfl (by decide) (by decide) rfl ?_
          refine g_goto (pc := 155) 7 dX6_writeTurned_155 (by decide) ?_
          refine GP.lsub _ (by simp) (ih (i + 1) _ (by omega) (fun j hj => ?_))
          have hh := h j hj
          by_cases hji : j = i
          · rw [hji, upL_s, IL]
            simp only [trp]
            rw [if_pos (by omega), if_neg (by omega), I_neg (by omega)]; rfl
          · rw [upL_n hji, hh]
            simp only [trp]
            split <;> split <;> first | rfl | omega
        · refine g_aload_n (pc := 82) 1 dX6_writeTurned_82 rfl rfl ?_
          refine g_get (pc := 83) dX6_writeTurned_83 fk_X6_24 (lk_ne hqo ho) rfl ?_
          refine g_iload_n (pc := 86) 0 dX6_writeTurned_86 rfl rfl ?_
          refine g_iald (pc := 87) i dX6_writeTurned_87 (lk_ne hqb hb) (IXn (by omega) (by omega)) ?_
          refine g_i2l (pc := 88) dX6_writeTurned_88 ?_
          refine g_goto (pc := 89) 100 dX6_writeTurned_89 (by decide) ?_
          refine g_last (pc := 100) i dX6_writeTurned_100 (lk_eq hq) (IXn (by omega) (by omega)) ?_
          refine GP.weq (w.set q (aL 25 (vp_updL cur i ((f i).toInt64)))) (by rw [List.set_set]) ?_
          refine g_goto (pc := 101) 152 dX6_writeTurned_101 (by decide) ?_
          refine n_iinc (pc := 152) (c := 1) [(3, .int (nI (i + 1))), (0, .ref o), (1, .int (nI 1)), (2, .ref q)] 0 dX6_writeTurned_152 rfl (by decide) (by decide) rfl ?_
          refine g_goto (pc := 155) 7 dX6_writeTurned_155 (by decide) ?_
          refine GP.lsub _ (by simp) (ih (i + 1) _ (by omega) (fun j hj => ?_))
          have hh := h j hj
          by_cases hji : j = i
          · rw [hji, upL_s, IL]
            simp only [trp]
            rw [if_pos (by omega), if_pos (by omega)]; rfl
          · rw [upL_n hji, hh]
            simp only [trp]
            split <;> split <;> first | rfl | omega
theorem sp_writeTurned1 (w : Wd) {o b n q : Nat} {f : Nat → Int32} {g : Nat → Int64} (ho : w[o]? = some (oP n b)) (hb : w[b]? = some (aI 0 (n + 1) f)) (hq : w[q]? = some (aL 25 g)) (hqo : q ≠ o) (hqb : q ≠ b) (hn : n ≤ 12) (hf : ∀ t, t ≤ n → -9999 ≤ (f t).toInt ∧ (f t).toInt ≤ 9999) : EX6_writeTurned [.ref o, .int (nI 1), .ref q] w (fun r w' => r = none ∧ ∃ g' : Nat → Int64, (∀ j, j < 25 → (g' j).toInt = trp 1 (toJ f) n (n + 1) j) ∧ w' = w.set q (aL 25 g')) := by
  refine EP.of (plainFor_of_name (by decide)) [(0, .ref o), (1, .int (nI 1)), (2, .ref q)] rfl (Nat.le_of_ble_eq_true rfl) (fun r wf h => by obtain ⟨rfl, -⟩ := h; trivial) ?_
  show BX6_writeTurned w _ w 0 [(0, .ref o), (1, .int (nI 1)), (2, .ref q)] []
  refine g_aload_n (pc := 0) 2 dX6_writeTurned_0 rfl rfl ?_
  refine g_lconst (pc := 1) (v := 0) dX6_writeTurned_1 (by decide) ?_
  refine g_callS (pc := 2) [.ref q, .long 0] dX6_writeTurned_2 cs_X6_32.1 cs_X6_32.2 rfl rfl (Nat.le_of_ble_eq_true rfl) (by decide) (by decide) (sp_fill1 _ q 25 g 0 hq (by decide)) ?_
  rintro _ w9 ⟨rfl, e9⟩
  refine GP.weq _ e9 ?_
  refine g_iconst (pc := 5) (v := nI 0) dX6_writeTurned_5 (by decide) ?_
  refine g_istore_n (pc := 6) [(3, .int (nI 0)), (0, .ref o), (1, .int (nI 1)), (2, .ref q)] dX6_writeTurned_6 rfl (by decide) rfl ?_
  refine GP.lsub _ (by simp) (wu_loop1 ho hb hq hqo hqb hn hf (fun cur h => ⟨rfl, cur, h, rfl⟩) (n + 1) 0 _ (by omega) (fun j hj => ?_))
  rw [fill0 hj]
  simp [trp]
theorem wu_loop2 {w0 w : Wd} {Post : Option Value → Wd → Prop} {o b n q : Nat} {f : Nat → Int32} {g : Nat → Int64} (ho : w[o]? = some (oP n b)) (hb : w[b]? = some (aI 0 (n + 1) f)) (hq : w[q]? = some (aL 25 g)) (hqo : q ≠ o) (hqb : q ≠ b) (hn : n ≤ 12) (hf : ∀ t, t ≤ n → -9999 ≤ (f t).toInt ∧ (f t).toInt ≤ 9999) (hx : ∀ cur : Nat → Int64, (∀ j, j < 25 → (cur j).toInt = trp 2 (toJ f) n (n + 1) j) → Post none (w.set q (aL 25 cur))) : ∀ (k i : Nat) (cur : Nat → Int64), n + 1 = i + k → (∀ j, j < 25 → (cur j).toInt = trp 2 (toJ f) n i j) → BX6_writeTurned w0 Post (w.set q (aL 25 cur)) 7 [(3, .int (nI i)), (0, .ref o), (1, .int (nI 2)), (2, .ref q)] [] := by
  intro k
  induction k with
  | zero =>
    intro i cur hi h
    refine g_iload_n (pc := 7) 0 dX6_writeTurned_7 rfl rfl ?_
    refine g_aload_n (pc := 8) 1 dX6_writeTurned_8 rfl rfl ?_
    refine g_get (pc := 9) dX6_writeTurned_9 fk_X6_18 (lk_ne hqo ho) rfl ?_
    refine n_icmp_gt (pc := 12) 158 dX6_writeTurned_12 (by decide) (by omega) (by omega) (fun hz => ?_) (fun hz => ?_)
    · exact g_vret (pc := 158) dX6_writeTurned_158 (hx cur (fun j hj => by rw [h j hj, show i = n + 1 by omega]))
    · exact absurd hz (by omega)
  | succ k ih =>
    intro i cur hi h
    refine g_iload_n (pc := 7) 0 dX6_writeTurned_7 rfl rfl ?_
    refine g_aload_n (pc := 8) 1 dX6_writeTurned_8 rfl rfl ?_
    refine g_get (pc := 9) dX6_writeTurned_9 fk_X6_18 (lk_ne hqo ho) rfl ?_
    refine n_icmp_gt (pc := 12) 158 dX6_writeTurned_12 (by decide) (by omega) (by omega) (fun hz => ?_) (fun hz => ?_)
    · exact absurd hz (by omega)
    · refine g_iconst (pc := 15) (v := nI 2) dX6_writeTurned_15 (by decide) ?_
      refine g_iload_n (pc := 16) 0 dX6_writeTurned_16 rfl rfl ?_
      refine n_imul (pc := 17) dX6_writeTurned_17 ?_
      refine g_aload_n (pc := 18) 3 dX6_writeTurned_18 rfl rfl ?_
      refine g_alen (pc := 19) dX6_writeTurned_19 (lk_eq hq) (by decide) ?_
      refine n_icmp_ge (pc := 20) 158 dX6_writeTurned_20 (by decide) (by omega) (by omega) (fun hz2 => ?_) (fun hz2 => ?_)
      · exact absurd hz2 (by omega)
      · have hfi := hf i (by omega)
        refine g_iload_n (pc := 23) 2 dX6_writeTurned_23 rfl rfl ?_
        refine g_tabIn (pc := 24) (off := 80) 104 dX6_writeTurned_24 (by decide) (by decide) (by decide) (by decide) ?_
        refine g_aload_n (pc := 104) 3 dX6_writeTurned_104 rfl rfl ?_
        refine g_iconst (pc := 105) (v := nI 2) dX6_writeTurned_105 (by decide) ?_
        refine g_iload_n (pc := 106) 0 dX6_writeTurned_106 rfl rfl ?_
        refine n_imul (pc := 107) dX6_writeTurned_107 ?_
        refine g_aload_n (pc := 108) 1 dX6_writeTurned_108 rfl rfl ?_
        refine g_get (pc := 109) dX6_writeTurned_109 fk_X6_24 (lk_ne hqo ho) rfl ?_
        refine g_iload_n (pc := 112) 0 dX6_writeTurned_112 rfl rfl ?_
        refine g_iald (pc := 113) i dX6_writeTurned_113 (lk_ne hqb hb) (IXn (by omega) (by omega)) ?_
        refine g_i2l (pc := 114) dX6_writeTurned_114 ?_
        refine g_last (pc := 115) (2 * i) dX6_writeTurned_115 (lk_eq hq) (IXn (by omega) (by omega)) ?_
        refine GP.weq (w.set q (aL 25 (vp_updL cur (2 * i) ((f i).toInt64)))) (by rw [List.set_set]) ?_
        refine g_goto (pc := 116) 152 dX6_writeTurned_116 (by decide) ?_
        refine n_iinc (pc := 152) (c := 1) [(3, .int (nI (i + 1))), (0, .ref o), (1, .int (nI 2)), (2, .ref q)] 0 dX6_writeTurned_152 rfl (by decide) (by decide) rfl ?_
        refine g_goto (pc := 155) 7 dX6_writeTurned_155 (by decide) ?_
        refine GP.lsub _ (by simp) (ih (i + 1) _ (by omega) (fun j hj => ?_))
        have hh := h j hj
        by_cases hji : j = 2 * i
        · rw [hji, upL_s, IL]
          simp only [trp]
          rw [if_pos (by omega), show 2 * i / 2 = i by omega]; rfl
        · rw [upL_n hji, hh]
          simp only [trp]
          split <;> split <;> first | rfl | omega
theorem sp_writeTurned2 (w : Wd) {o b n q : Nat} {f : Nat → Int32} {g : Nat → Int64} (ho : w[o]? = some (oP n b)) (hb : w[b]? = some (aI 0 (n + 1) f)) (hq : w[q]? = some (aL 25 g)) (hqo : q ≠ o) (hqb : q ≠ b) (hn : n ≤ 12) (hf : ∀ t, t ≤ n → -9999 ≤ (f t).toInt ∧ (f t).toInt ≤ 9999) : EX6_writeTurned [.ref o, .int (nI 2), .ref q] w (fun r w' => r = none ∧ ∃ g' : Nat → Int64, (∀ j, j < 25 → (g' j).toInt = trp 2 (toJ f) n (n + 1) j) ∧ w' = w.set q (aL 25 g')) := by
  refine EP.of (plainFor_of_name (by decide)) [(0, .ref o), (1, .int (nI 2)), (2, .ref q)] rfl (Nat.le_of_ble_eq_true rfl) (fun r wf h => by obtain ⟨rfl, -⟩ := h; trivial) ?_
  show BX6_writeTurned w _ w 0 [(0, .ref o), (1, .int (nI 2)), (2, .ref q)] []
  refine g_aload_n (pc := 0) 2 dX6_writeTurned_0 rfl rfl ?_
  refine g_lconst (pc := 1) (v := 0) dX6_writeTurned_1 (by decide) ?_
  refine g_callS (pc := 2) [.ref q, .long 0] dX6_writeTurned_2 cs_X6_32.1 cs_X6_32.2 rfl rfl (Nat.le_of_ble_eq_true rfl) (by decide) (by decide) (sp_fill1 _ q 25 g 0 hq (by decide)) ?_
  rintro _ w9 ⟨rfl, e9⟩
  refine GP.weq _ e9 ?_
  refine g_iconst (pc := 5) (v := nI 0) dX6_writeTurned_5 (by decide) ?_
  refine g_istore_n (pc := 6) [(3, .int (nI 0)), (0, .ref o), (1, .int (nI 2)), (2, .ref q)] dX6_writeTurned_6 rfl (by decide) rfl ?_
  refine GP.lsub _ (by simp) (wu_loop2 ho hb hq hqo hqb hn hf (fun cur h => ⟨rfl, cur, h, rfl⟩) (n + 1) 0 _ (by omega) (fun j hj => ?_))
  rw [fill0 hj]
  simp [trp]
theorem wu_loop3 {w0 w : Wd} {Post : Option Value → Wd → Prop} {o b n q : Nat} {f : Nat → Int32} {g : Nat → Int64} (ho : w[o]? = some (oP n b)) (hb : w[b]? = some (aI 0 (n + 1) f)) (hq : w[q]? = some (aL 25 g)) (hqo : q ≠ o) (hqb : q ≠ b) (hn : n ≤ 12) (hf : ∀ t, t ≤ n → -9999 ≤ (f t).toInt ∧ (f t).toInt ≤ 9999) (hx : ∀ cur : Nat → Int64, (∀ j, j < 25 → (cur j).toInt = trp 3 (toJ f) n (n + 1) j) → Post none (w.set q (aL 25 cur))) : ∀ (k i : Nat) (cur : Nat → Int64), n + 1 = i + k → (∀ j, j < 25 → (cur j).toInt = trp 3 (toJ f) n i j) → BX6_writeTurned w0 Post (w.set q (aL 25 cur)) 7 [(3, .int (nI i)), (0, .ref o), (1, .int (nI 3)), (2, .ref q)] [] := by
  intro k
  induction k with
  | zero =>
    intro i cur hi h
    refine g_iload_n (pc := 7) 0 dX6_writeTurned_7 rfl rfl ?_
    refine g_aload_n (pc := 8) 1 dX6_writeTurned_8 rfl rfl ?_
    refine g_get (pc := 9) dX6_writeTurned_9 fk_X6_18 (lk_ne hqo ho) rfl ?_
    refine n_icmp_gt (pc := 12) 158 dX6_writeTurned_12 (by decide) (by omega) (by omega) (fun hz => ?_) (fun hz => ?_)
    · exact g_vret (pc := 158) dX6_writeTurned_158 (hx cur (fun j hj => by rw [h j hj, show i = n + 1 by omega]))
    · exact absurd hz (by omega)
  | succ k ih =>
    intro i cur hi h
    refine g_iload_n (pc := 7) 0 dX6_writeTurned_7 rfl rfl ?_
    refine g_aload_n (pc := 8) 1 dX6_writeTurned_8 rfl rfl ?_
    refine g_get (pc := 9) dX6_writeTurned_9 fk_X6_18 (lk_ne hqo ho) rfl ?_
    refine n_icmp_gt (pc := 12) 158 dX6_writeTurned_12 (by decide) (by omega) (by omega) (fun hz => ?_) (fun hz => ?_)
    · exact absurd hz (by omega)
    · refine g_iconst (pc := 15) (v := nI 2) dX6_writeTurned_15 (by decide) ?_
      refine g_iload_n (pc := 16) 0 dX6_writeTurned_16 rfl rfl ?_
      refine n_imul (pc := 17) dX6_writeTurned_17 ?_
      refine g_aload_n (pc := 18) 3 dX6_writeTurned_18 rfl rfl ?_
      refine g_alen (pc := 19) dX6_writeTurned_19 (lk_eq hq) (by decide) ?_
      refine n_icmp_ge (pc := 20) 158 dX6_writeTurned_20 (by decide) (by omega) (by omega) (fun hz2 => ?_) (fun hz2 => ?_)
      · exact absurd hz2 (by omega)
      · have hfi := hf i (by omega)
        refine g_iload_n (pc := 23) 2 dX6_writeTurned_23 rfl rfl ?_
        refine g_tabIn (pc := 24) (off := 95) 119 dX6_writeTurned_24 (by decide) (by decide) (by decide) (by decide) ?_
        refine g_aload_n (pc := 119) 3 dX6_writeTurned_119 rfl rfl ?_
        refine g_iload_n (pc := 120) 0 dX6_writeTurned_120 rfl rfl ?_
        refine g_aload_n (pc := 121) 1 dX6_writeTurned_121 rfl rfl ?_
        refine g_get (pc := 122) dX6_writeTurned_122 fk_X6_24 (lk_ne hqo ho) rfl ?_
        refine g_iload_n (pc := 125) 0 dX6_writeTurned_125 rfl rfl ?_
        refine g_iald (pc := 126) i dX6_writeTurned_126 (lk_ne hqb hb) (IXn (by omega) (by omega)) ?_
        refine g_ineg (pc := 127) dX6_writeTurned_127 ?_
        refine g_i2l (pc := 128) dX6_writeTurned_128 ?_
        refine g_last (pc := 129) i dX6_writeTurned_129 (lk_eq hq) (IXn (by omega) (by omega)) ?_
        refine GP.weq (w.set q (aL 25 (vp_updL cur i ((-(f i)).toInt64)))) (by rw [List.set_set]) ?_
        refine g_goto (pc := 130) 152 dX6_writeTurned_130 (by decide) ?_
        refine n_iinc (pc := 152) (c := 1) [(3, .int (nI (i + 1))), (0, .ref o), (1, .int (nI 3)), (2, .ref q)] 0 dX6_writeTurned_152 rfl (by decide) (by decide) rfl ?_
        refine g_goto (pc := 155) 7 dX6_writeTurned_155 (by decide) ?_
        refine GP.lsub _ (by simp) (ih (i + 1) _ (by omega) (fun j hj => ?_))
        have hh := h j hj
        by_cases hji : j = i
        · rw [hji, upL_s, IL]
          simp only [trp]
          rw [if_pos (by omega), I_neg (by omega)]; rfl
        · rw [upL_n hji, hh]
          simp only [trp]
          split <;> split <;> first | rfl | omega
theorem sp_writeTurned3 (w : Wd) {o b n q : Nat} {f : Nat → Int32} {g : Nat → Int64} (ho : w[o]? = some (oP n b)) (hb : w[b]? = some (aI 0 (n + 1) f)) (hq : w[q]? = some (aL 25 g)) (hqo : q ≠ o) (hqb : q ≠ b) (hn : n ≤ 12) (hf : ∀ t, t ≤ n → -9999 ≤ (f t).toInt ∧ (f t).toInt ≤ 9999) : EX6_writeTurned [.ref o, .int (nI 3), .ref q] w (fun r w' => r = none ∧ ∃ g' : Nat → Int64, (∀ j, j < 25 → (g' j).toInt = trp 3 (toJ f) n (n + 1) j) ∧ w' = w.set q (aL 25 g')) := by
  refine EP.of (plainFor_of_name (by decide)) [(0, .ref o), (1, .int (nI 3)), (2, .ref q)] rfl (Nat.le_of_ble_eq_true rfl) (fun r wf h => by obtain ⟨rfl, -⟩ := h; trivial) ?_
  show BX6_writeTurned w _ w 0 [(0, .ref o), (1, .int (nI 3)), (2, .ref q)] []
  refine g_aload_n (pc := 0) 2 dX6_writeTurned_0 rfl rfl ?_
  refine g_lconst (pc := 1) (v := 0) dX6_writeTurned_1 (by decide) ?_
  refine g_callS (pc := 2) [.ref q, .long 0] dX6_writeTurned_2 cs_X6_32.1 cs_X6_32.2 rfl rfl (Nat.le_of_ble_eq_true rfl) (by decide) (by decide) (sp_fill1 _ q 25 g 0 hq (by decide)) ?_
  rintro _ w9 ⟨rfl, e9⟩
  refine GP.weq _ e9 ?_
  refine g_iconst (pc := 5) (v := nI 0) dX6_writeTurned_5 (by decide) ?_
  refine g_istore_n (pc := 6) [(3, .int (nI 0)), (0, .ref o), (1, .int (nI 3)), (2, .ref q)] dX6_writeTurned_6 rfl (by decide) rfl ?_
  refine GP.lsub _ (by simp) (wu_loop3 ho hb hq hqo hqb hn hf (fun cur h => ⟨rfl, cur, h, rfl⟩) (n + 1) 0 _ (by omega) (fun j hj => ?_))
  rw [fill0 hj]
  simp [trp]
theorem wu_loop4 {w0 w : Wd} {Post : Option Value → Wd → Prop} {o b n q : Nat} {f : Nat → Int32} {g : Nat → Int64} (ho : w[o]? = some (oP n b)) (hb : w[b]? = some (aI 0 (n + 1) f)) (hq : w[q]? = some (aL 25 g)) (hqo : q ≠ o) (hqb : q ≠ b) (hn : n ≤ 12) (hf : ∀ t, t ≤ n → -9999 ≤ (f t).toInt ∧ (f t).toInt ≤ 9999) (hx : ∀ cur : Nat → Int64, (∀ j, j < 25 → (cur j).toInt = trp 4 (toJ f) n (n + 1) j) → Post none (w.set q (aL 25 cur))) : ∀ (k i : Nat) (cur : Nat → Int64), n + 1 = i + k → (∀ j, j < 25 → (cur j).toInt = trp 4 (toJ f) n i j) → BX6_writeTurned w0 Post (w.set q (aL 25 cur)) 7 [(3, .int (nI i)), (0, .ref o), (1, .int (nI 4)), (2, .ref q)] [] := by
  intro k
  induction k with
  | zero =>
    intro i cur hi h
    refine g_iload_n (pc := 7) 0 dX6_writeTurned_7 rfl rfl ?_
    refine g_aload_n (pc := 8) 1 dX6_writeTurned_8 rfl rfl ?_
    refine g_get (pc := 9) dX6_writeTurned_9 fk_X6_18 (lk_ne hqo ho) rfl ?_
    refine n_icmp_gt (pc := 12) 158 dX6_writeTurned_12 (by decide) (by omega) (by omega) (fun hz => ?_) (fun hz => ?_)
    · exact g_vret (pc := 158) dX6_writeTurned_158 (hx cur (fun j hj => by rw [h j hj, show i = n + 1 by omega]))
    · exact absurd hz (by omega)
  | succ k ih =>
    intro i cur hi h
    refine g_iload_n (pc := 7) 0 dX6_writeTurned_7 rfl rfl ?_
    refine g_aload_n (pc := 8) 1 dX6_writeTurned_8 rfl rfl ?_
    refine g_get (pc := 9) dX6_writeTurned_9 fk_X6_18 (lk_ne hqo ho) rfl ?_
    refine n_icmp_gt (pc := 12) 158 dX6_writeTurned_12 (by decide) (by omega) (by omega) (fun hz => ?_) (fun hz => ?_)
    · exact absurd hz (by omega)
    · refine g_iconst (pc := 15) (v := nI 2) dX6_writeTurned_15 (by decide) ?_
      refine g_iload_n (pc := 16) 0 dX6_writeTurned_16 rfl rfl ?_
      refine n_imul (pc := 17) dX6_writeTurned_17 ?_
      refine g_aload_n (pc := 18) 3 dX6_writeTurned_18 rfl rfl ?_
      refine g_alen (pc := 19) dX6_writeTurned_19 (lk_eq hq) (by decide) ?_
      refine n_icmp_ge (pc := 20) 158 dX6_writeTurned_20 (by decide) (by omega) (by omega) (fun hz2 => ?_) (fun hz2 => ?_)
      · exact absurd hz2 (by omega)
      · have hfi := hf i (by omega)
        refine g_iload_n (pc := 23) 2 dX6_writeTurned_23 rfl rfl ?_
        refine g_tabOut (pc := 24) 133 dX6_writeTurned_24 (by decide) (by decide) ?_
        refine g_iload_n (pc := 133) 0 dX6_writeTurned_133 rfl rfl ?_
        refine n_if_le (pc := 134) 152 dX6_writeTurned_134 (by decide) (by omega) (fun hev => ?_) (fun hev => ?_)
        · refine n_iinc (pc := 152) (c := 1) [(3, .int (nI (i + 1))), (0, .ref o), (1, .int (nI 4)), (2, .ref q)] 0 dX6_writeTurned_152 rfl (by decide) (by decide) rfl ?_
          refine g_goto (pc := 155) 7 dX6_writeTurned_155 (by decide) ?_
          refine GP.lsub _ (by simp) (ih (i + 1) cur (by omega) (fun j hj => ?_))
          rw [h j hj]
          simp only [trp]
          rw [if_neg (by omega), if_neg (by omega)]
        · refine g_aload_n (pc := 137) 3 dX6_writeTurned_137 rfl rfl ?_
          refine g_iload_n (pc := 138) 0 dX6_writeTurned_138 rfl rfl ?_
          refine g_iconst (pc := 139) (v := nI 1) dX6_writeTurned_139 (by decide) ?_
          refine n_isub (pc := 140) dX6_writeTurned_140 (by omega) ?_
          refine g_iload_n (pc := 141) 0 dX6_writeTurned_141 rfl rfl ?_
          refine g_i2l (pc := 142) dX6_writeTurned_142 ?_
          refine g_aload_n (pc := 143) 1 dX6_writeTurned_143 rfl rfl ?_
          refine g_get (pc := 144) dX6_writeTurned_144 fk_X6_24 (lk_ne hqo ho) rfl ?_
          refine g_iload_n (pc := 147) 0 dX6_writeTurned_147 rfl rfl ?_
          refine g_iald (pc := 148) i dX6_writeTurned_148 (lk_ne hqb hb) (IXn (by omega) (by omega)) ?_
          refine g_i2l (pc := 149) dX6_writeTurned_149 ?_
          refine g_lmul (pc := 150) dX6_writeTurned_150 ?_
          refine g_last (pc := 151) (i - 1) dX6_writeTurned_151 (lk_eq hq) (IXn (by omega) (by omega)) ?_
          refine GP.weq (w.set q (aL 25 (vp_updL cur (i - 1) (((nI i).toInt64) * ((f i).toInt64))))) (by rw [List.set_set]) ?_
          refine n_iinc (pc := 152) (c := 1) [(3, .int (nI (i + 1))), (0, .ref o), (1, .int (nI 4)), (2, .ref q)] 0 dX6_writeTurned_152 rfl (by decide) (by decide) rfl ?_
          refine g_goto (pc := 155) 7 dX6_writeTurned_155 (by decide) ?_
          have hi0 : (nI i).toInt = (i : Int) := nI_toInt (by omega)
          have hp := sm_prod (x := nI i) (y := f i) (c := 9999) (by omega) hfi (by decide)
          refine GP.lsub _ (by simp) (ih (i + 1) _ (by omega) (fun j hj => ?_))
          have hh := h j hj
          by_cases hji : j = i - 1
          · rw [hji, upL_s, hp.1, hi0]
            simp only [trp]
            rw [if_pos (by omega), show i - 1 + 1 = i by omega]; rfl
          · rw [upL_n hji, hh]
            simp only [trp]
            split <;> split <;> first | rfl | omega
theorem sp_writeTurned4 (w : Wd) {o b n q : Nat} {f : Nat → Int32} {g : Nat → Int64} (ho : w[o]? = some (oP n b)) (hb : w[b]? = some (aI 0 (n + 1) f)) (hq : w[q]? = some (aL 25 g)) (hqo : q ≠ o) (hqb : q ≠ b) (hn : n ≤ 12) (hf : ∀ t, t ≤ n → -9999 ≤ (f t).toInt ∧ (f t).toInt ≤ 9999) : EX6_writeTurned [.ref o, .int (nI 4), .ref q] w (fun r w' => r = none ∧ ∃ g' : Nat → Int64, (∀ j, j < 25 → (g' j).toInt = trp 4 (toJ f) n (n + 1) j) ∧ w' = w.set q (aL 25 g')) := by
  refine EP.of (plainFor_of_name (by decide)) [(0, .ref o), (1, .int (nI 4)), (2, .ref q)] rfl (Nat.le_of_ble_eq_true rfl) (fun r wf h => by obtain ⟨rfl, -⟩ := h; trivial) ?_
  show BX6_writeTurned w _ w 0 [(0, .ref o), (1, .int (nI 4)), (2, .ref q)] []
  refine g_aload_n (pc := 0) 2 dX6_writeTurned_0 rfl rfl ?_
  refine g_lconst (pc := 1) (v := 0) dX6_writeTurned_1 (by decide) ?_
  refine g_callS (pc := 2) [.ref q, .long 0] dX6_writeTurned_2 cs_X6_32.1 cs_X6_32.2 rfl rfl (Nat.le_of_ble_eq_true rfl) (by decide) (by decide) (sp_fill1 _ q 25 g 0 hq (by decide)) ?_
  rintro _ w9 ⟨rfl, e9⟩
  refine GP.weq _ e9 ?_
  refine g_iconst (pc := 5) (v := nI 0) dX6_writeTurned_5 (by decide) ?_
  refine g_istore_n (pc := 6) [(3, .int (nI 0)), (0, .ref o), (1, .int (nI 4)), (2, .ref q)] dX6_writeTurned_6 rfl (by decide) rfl ?_
  refine GP.lsub _ (by simp) (wu_loop4 ho hb hq hqo hqb hn hf (fun cur h => ⟨rfl, cur, h, rfl⟩) (n + 1) 0 _ (by omega) (fun j hj => ?_))
  rw [fill0 hj]
  simp [trp]
