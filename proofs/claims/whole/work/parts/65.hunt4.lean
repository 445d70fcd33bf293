/-! Hunt: keep -/
def kpS (G H i : Nat) : Prop := i = H ∨ i = H + 5 ∨ (G + 16 ≤ i ∧ i ≤ G + 23)
/-- entry ia is written, the others stay -/
def keptE (en en' : Nat → Int32) (ia n tp : Nat) (row : Nat → Int) (R : Nat → Int64) : Prop := (∀ j, (j < ia * 16 ∨ ia * 16 + 16 ≤ j) → en' j = en j) ∧ (∀ p, p < 13 → (en' (ia * 16 + p)).toInt = row p) ∧ ∃ hi lw, isHigh R n tp hi ∧ isLow R n tp lw ∧ en' (ia * 16 + 13) = nI hi ∧ en' (ia * 16 + 14) = nI lw ∧ en' (ia * 16 + 15) = nI tp
abbrev BX3_keep (w0 : Wd) (Post : Option Value → Wd → Prop) (w : Wd) (pc : Nat) (ls : List (Nat × Value)) (st : List Value) : Prop := GP "keep" RX3 cX3_keep 5 none 6 234 none w0 Post w pc ls st
abbrev EX3_keep (As : List Value) (w : Wd) (Post : Option Value → Wd → Prop) : Prop := EP yX3_keep cX3_keep 5 none 6 As w Post
theorem kpf_loop {w0 w : Wd} {G H lo O n h lv ia lk on tp : Nat} {bb bl : Int32} {R : Nat → Nat → Int64} {rw9 : Nat → Int64} {en : Nat → Int32} (hH : w[H]? = some (oH H n h lv ia lk on)) (hr : w[H + 4]? = some (aL 13 rw9)) (hE : w[H + 5]? = some (aI 0 480 en)) (hG : gauC w G bb bl) (hL : ladC w lo O n tp R) (hn : n ≤ 12) (htp : tp ≤ 6) (hia : ia < 10000) (hpos : 0 < sqs (R tp) (n + 1)) (hrow : ∀ p, p < 13 → -1000000000 ≤ (rw9 p).toInt ∧ (rw9 p).toInt ≤ 1000000000) (d1 : H + 19 < G ∨ G + 39 < H) (d2 : lo < H ∨ H + 19 < lo) (d3 : O + 7 < H ∨ H + 19 < O) (d4 : lo < G ∨ G + 39 < lo) (d5 : O + 7 < G ∨ G + 39 < O) (h30 : ia < 30) : ∀ (z p : Nat) (cur : Nat → Int32), 13 = p + z → (∀ j, (j < ia * 16 ∨ ia * 16 + 16 ≤ j) → cur j = en j) → (∀ q, q < p → (cur (ia * 16 + q)).toInt = toI rw9 q) → BX3_keep w0 (fun r w' => r = none ∧ w'[H]? = some (oH H n h lv (ia + 1) lk on) ∧ gauC w' G bb bl ∧ FR (kpS G H) w w' ∧ ∃ en', w'[H + 5]? = some (aI 0 480 en') ∧ ((ia < 30 ∧ keptE en en' ia n tp (toI rw9) (R tp)) ∨ (¬ ia < 30 ∧ en' = en))) (w.set (H + 5) (aI 0 480 cur)) 20 [(4, .int (nI p)), (3, .int (nI (ia * 16))), (0, .ref H), (1, .ref lo), (2, .ref G)] [] := by
  intro z
  induction z with
  | zero =>
    intro p cur hz h1 h2
    refine g_iload (pc := 20) 0 dX3_keep_20 rfl ?_
    refine g_bipush (pc := 22) (v := nI 13) dX3_keep_22 (by decide) ?_
    refine n_icmp_ge (pc := 24) 50 dX3_keep_24 (by decide) (by omega) (by omega) (fun hb => ?_) (fun hb => ?_)
    · refine g_aload_n (pc := 50) 2 dX3_keep_50 rfl rfl ?_
      refine g_get (pc := 51) dX3_keep_51 fk_X3_30 (lk_ne (by omega) hH) rfl ?_
      refine g_iload_n (pc := 54) 1 dX3_keep_54 rfl rfl ?_
      refine g_bipush (pc := 55) (v := nI 13) dX3_keep_55 (by decide) ?_
      refine n_iadd (pc := 57) dX3_keep_57 ?_
      refine g_aload_n (pc := 58) 4 dX3_keep_58 rfl rfl ?_
      refine g_aload_n (pc := 59) 3 dX3_keep_59 rfl rfl ?_
      refine g_aload_n (pc := 60) 3 dX3_keep_60 rfl rfl ?_
      refine g_get (pc := 61) dX3_keep_61 fk_X3_108 (lk_ne (by omega) hL.1) rfl ?_
      obtain ⟨w2, hw2⟩ : ∃ w2 : Wd, w2 = (w.set (H + 5) (aI 0 480 cur)) := ⟨_, rfl⟩
      refine GP.weq w2 hw2.symm ?_
      have hF1 : FR (fun i => i = H + 5) w w2 := by rw [hw2]; exact FR.set hE rfl rfl
      have hE2 : w2[H + 5]? = some (aI 0 480 cur) := by rw [hw2]; exact lk_eq hE
      have hH2 := hF1.lk (show ¬ H = H + 5 by omega) hH
      have hS2 : ∀ i, i = H + 5 → ¬ (G + 1 ≤ i ∧ i ≤ G + 15) ∧ ¬ (G + 24 ≤ i ∧ i ≤ G + 39) := fun i hi => by omega
      have hG2 : gauC w2 G bb bl := by
        obtain ⟨g1, g2, g3, g4, g5, g6, g7⟩ := hG
        exact ⟨hF1.lk (by omega) g1, g2.fr hF1 hS2, g3.fr hF1 hS2, g4.fr hF1 (by omega) (by omega), g5.fr hF1 (by omega) (by omega), g6.fr hF1 (by omega) (by omega), g7.fr hF1 (by omega) (by omega)⟩
      have hL2 := hL.fr hF1 (by omega) (fun i _ _ => by omega)
      refine g_callV (pc := 64) [.ref lo, .int (nI tp)] dX3_keep_64 cv_X3_111.1 cv_X3_111.2.1 cv_X3_111.2.2.1 cv_X3_111.2.2.2 hG2.1 rfl rfl (Nat.le_of_ble_eq_true rfl) (by decide) (by decide) (sp_highBy _ (k := tp) hG2 hL2 hn htp d4 d5 hpos) ?_
      rintro _ w3 ⟨hi, rfl, hHi, hG3, hF3⟩
      have UG : ∀ i, (i < G ∨ G + 39 < i) → ¬ gauS2 G i := fun i h9 h8 => by unfold gauS2 at h8; omega
      have hH3 := hF3.lk (UG _ (by omega)) hH2
      have hE3 := hF3.lk (UG _ (by omega)) hE2
      have hL3 := hL2.fr hF3 (UG _ (by omega)) (fun i _ _ => UG _ (by omega))
      refine g_iast (pc := 67) ((ia * 16) + 13) dX3_keep_67 hE3 (IXn (by omega) (by omega)) ?_
      refine g_aload_n (pc := 68) 2 dX3_keep_68 rfl rfl ?_
      refine g_get (pc := 69) dX3_keep_69 fk_X3_30 (lk_ne (by omega) hH3) rfl ?_
      refine g_iload_n (pc := 72) 1 dX3_keep_72 rfl rfl ?_
      refine g_bipush (pc := 73) (v := nI 14) dX3_keep_73 (by decide) ?_
      refine n_iadd (pc := 75) dX3_keep_75 ?_
      refine g_aload_n (pc := 76) 4 dX3_keep_76 rfl rfl ?_
      refine g_aload_n (pc := 77) 3 dX3_keep_77 rfl rfl ?_
      refine g_aload_n (pc := 78) 3 dX3_keep_78 rfl rfl ?_
      refine g_get (pc := 79) dX3_keep_79 fk_X3_108 (lk_ne (by omega) hL3.1) rfl ?_
      obtain ⟨w4, hw4⟩ : ∃ w4 : Wd, w4 = (w3.set (H + 5) (aI 0 480 (upd cur ((ia * 16) + 13) (nI hi)))) := ⟨_, rfl⟩
      refine GP.weq w4 hw4.symm ?_
      have hF4 : FR (fun i => i = H + 5) w3 w4 := by rw [hw4]; exact FR.set hE3 rfl rfl
      have hE4 : w4[H + 5]? = some (aI 0 480 (upd cur (ia * 16 + 13) (nI hi))) := by rw [hw4]; exact lk_eq hE3
      have hH4 := hF4.lk (show ¬ H = H + 5 by omega) hH3
      have hG4 : gauC w4 G bb bl := by
        obtain ⟨g1, g2, g3, g4, g5, g6, g7⟩ := hG3
        exact ⟨hF4.lk (by omega) g1, g2.fr hF4 hS2, g3.fr hF4 hS2, g4.fr hF4 (by omega) (by omega), g5.fr hF4 (by omega) (by omega), g6.fr hF4 (by omega) (by omega), g7.fr hF4 (by omega) (by omega)⟩
      have hL4 := hL3.fr hF4 (by omega) (fun i _ _ => by omega)
      refine g_callV (pc := 82) [.ref lo, .int (nI tp)] dX3_keep_82 cv_X3_115.1 cv_X3_115.2.1 cv_X3_115.2.2.1 cv_X3_115.2.2.2 hG4.1 rfl rfl (Nat.le_of_ble_eq_true rfl) (by decide) (by decide) (sp_lowBy _ (k := tp) hG4 hL4 hn htp d4 d5) ?_
      rintro _ w5 ⟨lw, rfl, hLw, hG5, hF5⟩
      have hH5 := hF5.lk (UG _ (by omega)) hH4
      have hE5 := hF5.lk (UG _ (by omega)) hE4
      have hL5 := hL4.fr hF5 (UG _ (by omega)) (fun i _ _ => UG _ (by omega))
      refine g_iast (pc := 85) ((ia * 16) + 14) dX3_keep_85 hE5 (IXn (by omega) (by omega)) ?_
      refine g_aload_n (pc := 86) 2 dX3_keep_86 rfl rfl ?_
      refine g_get (pc := 87) dX3_keep_87 fk_X3_30 (lk_ne (by omega) hH5) rfl ?_
      refine g_iload_n (pc := 90) 1 dX3_keep_90 rfl rfl ?_
      refine g_bipush (pc := 91) (v := nI 15) dX3_keep_91 (by decide) ?_
      refine n_iadd (pc := 93) dX3_keep_93 ?_
      refine g_aload_n (pc := 94) 3 dX3_keep_94 rfl rfl ?_
      refine g_get (pc := 95) dX3_keep_95 fk_X3_108 (lk_ne (by omega) hL5.1) rfl ?_
      refine g_iast (pc := 98) ((ia * 16) + 15) dX3_keep_98 (lk_eq hE5) (IXn (by omega) (by omega)) ?_
      refine GP.weq (w5.set (H + 5) (aI 0 480 (upd (upd (upd cur (ia * 16 + 13) (nI hi)) ((ia * 16) + 14) (nI lw)) ((ia * 16) + 15) (nI tp)))) (by rw [List.set_set]) ?_
      refine g_aload_n (pc := 99) 2 dX3_keep_99 rfl rfl ?_
      refine g_dup (pc := 100) dX3_keep_100 rfl ?_
      refine g_get (pc := 101) dX3_keep_101 fk_X3_44 (lk_ne (by omega) hH5) rfl ?_
      refine g_iconst (pc := 104) (v := nI 1) dX3_keep_104 (by decide) ?_
      refine n_iadd (pc := 105) dX3_keep_105 ?_
      refine g_put (pc := 106) [.ref (H + 1), .ref (H + 2), .ref (H + 4), .ref (H + 5), .int (nI n), .int (nI h), .int (nI lv), .int (nI (ia + 1)), .int (nI lk), .int (nI on)] dX3_keep_106 fk_X3_44 (lk_ne (by omega) hH5) (Nat.le_of_ble_eq_true rfl) rfl rfl ?_
      have hF6 : FR (fun i => i = H ∨ i = H + 5) w5 ((w5.set (H + 5) (aI 0 480 (upd (upd (upd cur (ia * 16 + 13) (nI hi)) ((ia * 16) + 14) (nI lw)) ((ia * 16) + 15) (nI tp)))).set H (.inr (3, [.ref (H + 1), .ref (H + 2), .ref (H + 4), .ref (H + 5), .int (nI n), .int (nI h), .int (nI lv), .int (nI (ia + 1)), .int (nI lk), .int (nI on)]))) := (FR.st (c' := .inr (3, [.ref (H + 1), .ref (H + 2), .ref (H + 4), .ref (H + 5), .int (nI n), .int (nI h), .int (nI lv), .int (nI (ia + 1)), .int (nI lk), .int (nI on)])) (FR.st (c' := aI 0 480 (upd (upd (upd cur (ia * 16 + 13) (nI hi)) ((ia * 16) + 14) (nI lw)) ((ia * 16) + 15) (nI tp))) FR.rf hE5 rfl (by omega)) (lk_ne (by omega) hH5) rfl (by omega))
      have hS3 : ∀ i, (i = H ∨ i = H + 5) → ¬ (G + 1 ≤ i ∧ i ≤ G + 15) ∧ ¬ (G + 24 ≤ i ∧ i ≤ G + 39) := fun i hi => by omega
      have hG6 := hG5
      obtain ⟨g1, g2, g3, g4, g5, g6, g7⟩ := hG6
      have hFF := (((hF1.mono (S' := kpS G H) (fun i hi => Or.inr (Or.inl hi))).tr (hF3.mono (S' := kpS G H) (fun i hi => Or.inr (Or.inr hi)))).tr (hF4.mono (S' := kpS G H) (fun i hi => Or.inr (Or.inl hi)))).tr (hF5.mono (S' := kpS G H) (fun i hi => Or.inr (Or.inr hi)))
      exact g_vret (pc := 109) dX3_keep_109 ⟨rfl, (lk_eq (lk_ne (by omega) hH5)), ⟨hF6.lk (by omega) g1, g2.fr hF6 hS3, g3.fr hF6 hS3, g4.fr hF6 (by omega) (by omega), g5.fr hF6 (by omega) (by omega), g6.fr hF6 (by omega) (by omega), g7.fr hF6 (by omega) (by omega)⟩, hFF.tr (hF6.mono (fun i hi => by unfold kpS; omega)), _, (lk_ne (by omega) (lk_eq hE5)), Or.inl ⟨h30, fun j hj => by rw [upd_n (by omega), upd_n (by omega), upd_n (by omega)]; exact h1 j hj, fun q hq => by rw [upd_n (by omega), upd_n (by omega), upd_n (by omega)]; exact h2 q (by omega), hi, lw, hHi, hLw, by rw [upd_n (by omega), upd_n (by omega), upd_s], by rw [upd_n (by omega), upd_s], by rw [upd_s]⟩⟩
    · exact absurd hb (by omega)
  | succ z ih =>
    intro p cur hz h1 h2
    have hrp := hrow p (by omega)
    refine g_iload (pc := 20) 0 dX3_keep_20 rfl ?_
    refine g_bipush (pc := 22) (v := nI 13) dX3_keep_22 (by decide) ?_
    refine n_icmp_ge (pc := 24) 50 dX3_keep_24 (by decide) (by omega) (by omega) (fun hb => ?_) (fun hb => ?_)
    · exact absurd hb (by omega)
    · refine g_aload_n (pc := 27) 2 dX3_keep_27 rfl rfl ?_
      refine g_get (pc := 28) dX3_keep_28 fk_X3_30 (lk_ne (by omega) hH) rfl ?_
      refine g_iload_n (pc := 31) 1 dX3_keep_31 rfl rfl ?_
      refine g_iload (pc := 32) 0 dX3_keep_32 rfl ?_
      refine n_iadd (pc := 34) dX3_keep_34 ?_
      refine g_aload_n (pc := 35) 2 dX3_keep_35 rfl rfl ?_
      refine g_get (pc := 36) dX3_keep_36 fk_X3_24 (lk_ne (by omega) hH) rfl ?_
      refine g_iload (pc := 39) 0 dX3_keep_39 rfl ?_
      refine g_lald (pc := 41) p dX3_keep_41 (lk_ne (by omega) hr) (IXn (by omega) (by omega)) ?_
      refine g_l2i (pc := 42) dX3_keep_42 ?_
      refine g_iast (pc := 43) ((ia * 16) + p) dX3_keep_43 (lk_eq hE) (IXn (by omega) (by omega)) ?_
      refine GP.weq (w.set (H + 5) (aI 0 480 (upd cur ((ia * 16) + p) ((rw9 p).toInt32)))) (by rw [List.set_set]) ?_
      refine n_iinc (pc := 44) (c := 1) [(4, .int (nI (p + 1))), (3, .int (nI (ia * 16))), (0, .ref H), (1, .ref lo), (2, .ref G)] 0 dX3_keep_44 rfl (by decide) (by decide) rfl ?_
      refine g_goto (pc := 47) 20 dX3_keep_47 (by decide) ?_
      refine GP.lsub _ (by simp) (ih (p + 1) _ (by omega) (fun j hj => ?_) (fun q hq => ?_))
      · rw [upd_n (by omega)]
        exact h1 j hj
      · by_cases e : q = p
        · subst e
          rw [upd_s, LI (by omega) (by omega)]
          rfl
        · rw [upd_n (by omega)]
          exact h2 q (by omega)
theorem sp_keepFound (w : Wd) {G H lo O n h lv ia lk on tp : Nat} {bb bl : Int32} {R : Nat → Nat → Int64} {rw9 : Nat → Int64} {en : Nat → Int32} (hH : w[H]? = some (oH H n h lv ia lk on)) (hr : w[H + 4]? = some (aL 13 rw9)) (hE : w[H + 5]? = some (aI 0 480 en)) (hG : gauC w G bb bl) (hL : ladC w lo O n tp R) (hn : n ≤ 12) (htp : tp ≤ 6) (hia : ia < 10000) (hpos : 0 < sqs (R tp) (n + 1)) (hrow : ∀ p, p < 13 → -1000000000 ≤ (rw9 p).toInt ∧ (rw9 p).toInt ≤ 1000000000) (d1 : H + 19 < G ∨ G + 39 < H) (d2 : lo < H ∨ H + 19 < lo) (d3 : O + 7 < H ∨ H + 19 < O) (d4 : lo < G ∨ G + 39 < lo) (d5 : O + 7 < G ∨ G + 39 < O) : EX3_keep [.ref H, .ref lo, .ref G] w (fun r w' => r = none ∧ w'[H]? = some (oH H n h lv (ia + 1) lk on) ∧ gauC w' G bb bl ∧ FR (kpS G H) w w' ∧ ∃ en', w'[H + 5]? = some (aI 0 480 en') ∧ ((ia < 30 ∧ keptE en en' ia n tp (toI rw9) (R tp)) ∨ (¬ ia < 30 ∧ en' = en))) := by
  refine EP.of (plainFor_of_name (by decide)) [(0, .ref H), (1, .ref lo), (2, .ref G)] rfl (Nat.le_of_ble_eq_true rfl) (fun r wf h => by obtain ⟨rfl, -⟩ := h; trivial) ?_
  show BX3_keep w _ w 0 [(0, .ref H), (1, .ref lo), (2, .ref G)] []
  refine g_aload_n (pc := 0) 0 dX3_keep_0 rfl rfl ?_
  refine g_get (pc := 1) dX3_keep_1 fk_X3_44 hH rfl ?_
  refine g_bipush (pc := 4) (v := nI 30) dX3_keep_4 (by decide) ?_
  refine n_icmp_ge (pc := 6) 99 dX3_keep_6 (by decide) (by omega) (by omega) (fun h30 => ?_) (fun h30 => ?_)
  · refine g_aload_n (pc := 99) 0 dX3_keep_99 rfl rfl ?_
    refine g_dup (pc := 100) dX3_keep_100 rfl ?_
    refine g_get (pc := 101) dX3_keep_101 fk_X3_44 hH rfl ?_
    refine g_iconst (pc := 104) (v := nI 1) dX3_keep_104 (by decide) ?_
    refine n_iadd (pc := 105) dX3_keep_105 ?_
    refine g_put (pc := 106) [.ref (H + 1), .ref (H + 2), .ref (H + 4), .ref (H + 5), .int (nI n), .int (nI h), .int (nI lv), .int (nI (ia + 1)), .int (nI lk), .int (nI on)] dX3_keep_106 fk_X3_44 hH (Nat.le_of_ble_eq_true rfl) rfl rfl ?_
    have hF6 : FR (fun i => i = H) w (w.set H (.inr (3, [.ref (H + 1), .ref (H + 2), .ref (H + 4), .ref (H + 5), .int (nI n), .int (nI h), .int (nI lv), .int (nI (ia + 1)), .int (nI lk), .int (nI on)]))) := (FR.st (c' := .inr (3, [.ref (H + 1), .ref (H + 2), .ref (H + 4), .ref (H + 5), .int (nI n), .int (nI h), .int (nI lv), .int (nI (ia + 1)), .int (nI lk), .int (nI on)])) FR.rf hH rfl rfl)
    have hS3 : ∀ i, i = H → ¬ (G + 1 ≤ i ∧ i ≤ G + 15) ∧ ¬ (G + 24 ≤ i ∧ i ≤ G + 39) := fun i hi => by omega
    obtain ⟨g1, g2, g3, g4, g5, g6, g7⟩ := hG
    exact g_vret (pc := 109) dX3_keep_109 ⟨rfl, (lk_eq hH), ⟨hF6.lk (by omega) g1, g2.fr hF6 hS3, g3.fr hF6 hS3, g4.fr hF6 (by omega) (by omega), g5.fr hF6 (by omega) (by omega), g6.fr hF6 (by omega) (by omega), g7.fr hF6 (by omega) (by omega)⟩, hF6.mono (fun i hi => Or.inl hi), en, (lk_ne (by omega) hE), Or.inr ⟨by omega, rfl⟩⟩
  · refine g_aload_n (pc := 9) 0 dX3_keep_9 rfl rfl ?_
    refine g_get (pc := 10) dX3_keep_10 fk_X3_44 hH rfl ?_
    refine g_bipush (pc := 13) (v := nI 16) dX3_keep_13 (by decide) ?_
    refine n_imul (pc := 15) dX3_keep_15 ?_
    refine g_istore_n (pc := 16) [(3, .int (nI (ia * 16))), (0, .ref H), (1, .ref lo), (2, .ref G)] dX3_keep_16 rfl (by decide) rfl ?_
    refine g_iconst (pc := 17) (v := nI 0) dX3_keep_17 (by decide) ?_
    refine g_istore (pc := 18) [(4, .int (nI 0)), (3, .int (nI (ia * 16))), (0, .ref H), (1, .ref lo), (2, .ref G)] dX3_keep_18 (by decide) rfl ?_
    refine GP.weq (w.set (H + 5) (aI 0 480 en)) (set_same hE).symm ?_
    exact GP.lsub _ (by simp) (kpf_loop hH hr hE hG hL hn htp hia hpos hrow d1 d2 d3 d4 d5 (by omega) 13 0 en (by omega) (fun _ _ => rfl) (fun q hq => absurd hq (by omega)))
