/-! Hunt: setLimits, isFound -/
def limV (v k : Nat) : Nat := v ^ (2 ^ (k + 1)) / 1000000 ^ (2 ^ k)
def hunT (w : Wd) (H : Nat) : Prop := (∃ tf, w[H + 1]? = some (aR 6 7 tf) ∧ ∀ k, k < 7 → tf k = some (H + 6 + 2 * k)) ∧ ∀ k, k < 7 → whC w (H + 6 + 2 * k) 24
theorem hunT.fr {S : Nat → Prop} {w w' : Wd} {H : Nat} (h : hunT w H) (hF : FR S w w') (hS : ∀ i, H ≤ i → i ≤ H + 19 → i ≠ H → i ≠ H + 2 → i ≠ H + 3 → i ≠ H + 4 → i ≠ H + 5 → ¬ S i) : hunT w' H := by
  obtain ⟨⟨tf, h1, h2⟩, h3⟩ := h
  exact ⟨⟨tf, hF.lk (hS _ (by omega) (by omega) (by omega) (by omega) (by omega) (by omega) (by omega)) h1, h2⟩, fun k hk => (h3 k hk).fr hF (hS _ (by omega) (by omega) (by omega) (by omega) (by omega) (by omega) (by omega)) (hS _ (by omega) (by omega) (by omega) (by omega) (by omega) (by omega) (by omega))⟩
def slS (G H i : Nat) : Prop := i = H ∨ (G + 20 ≤ i ∧ i ≤ G + 23) ∨ (H + 6 ≤ i ∧ i ≤ H + 19)
abbrev BX3_setLimits (w0 : Wd) (Post : Option Value → Wd → Prop) (w : Wd) (pc : Nat) (ls : List (Nat × Value)) (st : List Value) : Prop := GP "setLimits" RX3 cX3_setLimits 5 none 5 195 none w0 Post w pc ls st
abbrev EX3_setLimits (As : List Value) (w : Wd) (Post : Option Value → Wd → Prop) : Prop := EP yX3_setLimits cX3_setLimits 5 none 5 As w Post
theorem ls_loop {w0 w : Wd} {G H n h lv ia lk on l v : Nat} {bb bl : Int32} (hd : H + 19 < G ∨ G + 39 < H) (hl : l ≤ 6) (hv : v ≤ 9999) : ∀ (z k : Nat) (w1 : Wd), l + 1 = k + z → w1[H]? = some (oH H n h l ia lk on) → hunT w1 H → (∀ j, j < k → whV w1 (H + 6 + 2 * j) 24 (limV v j : Nat)) → gauC w1 G bb bl → FR (slS G H) w w1 → BX3_setLimits w0 (fun r w' => r = none ∧ w'[H]? = some (oH H n h l ia lk on) ∧ hunT w' H ∧ (∀ k, k ≤ l → whV w' (H + 6 + 2 * k) 24 (limV v k : Nat)) ∧ gauC w' G bb bl ∧ FR (slS G H) w w') w1 17 [(4, .int (nI k)), (0, .ref H), (1, .int (nI l)), (2, .int (nI v)), (3, .ref G)] [] := by
  intro z
  induction z with
  | zero =>
    intro k w1 hz hH hT hV hG hF
    have hg := hG.1
    obtain ⟨⟨tf, ht, htf⟩, hW⟩ := id hT
    refine g_iload (pc := 17) 0 dX3_setLimits_17 rfl ?_
    refine g_aload_n (pc := 19) 1 dX3_setLimits_19 rfl rfl ?_
    refine g_get (pc := 20) dX3_setLimits_20 fk_X3_41 hH rfl ?_
    refine n_icmp_gt (pc := 23) 46 dX3_setLimits_23 (by decide) (by omega) (by omega) (fun hb => ?_) (fun hb => ?_)
    · exact g_vret (pc := 46) dX3_setLimits_46 ⟨rfl, hH, hT, fun j hj => hV j (by omega), hG, hF⟩
    · exact absurd hb (by omega)
  | succ z ih =>
    intro k w1 hz hH hT hV hG hF
    have hg := hG.1
    obtain ⟨⟨tf, ht, htf⟩, hW⟩ := id hT
    refine g_iload (pc := 17) 0 dX3_setLimits_17 rfl ?_
    refine g_aload_n (pc := 19) 1 dX3_setLimits_19 rfl rfl ?_
    refine g_get (pc := 20) dX3_setLimits_20 fk_X3_41 hH rfl ?_
    refine n_icmp_gt (pc := 23) 46 dX3_setLimits_23 (by decide) (by omega) (by omega) (fun hb => ?_) (fun hb => ?_)
    · exact absurd hb (by omega)
    · refine g_aload_n (pc := 26) 4 dX3_setLimits_26 rfl rfl ?_
      refine g_iload_n (pc := 27) 3 dX3_setLimits_27 rfl rfl ?_
      refine g_iload (pc := 28) 0 dX3_setLimits_28 rfl ?_
      refine g_aload_n (pc := 30) 1 dX3_setLimits_30 rfl rfl ?_
      refine g_get (pc := 31) dX3_setLimits_31 fk_X3_11 hH rfl ?_
      refine g_iload (pc := 34) 0 dX3_setLimits_34 rfl ?_
      refine g_aald (pc := 36) (v := .ref (H + 6 + 2 * k)) k dX3_setLimits_36 ht (by decide) (IXn (by omega) (by omega)) (by rw [htf k (by omega)]; rfl) ?_
      refine g_callV (pc := 37) [.int (nI v), .int (nI k), .ref (H + 6 + 2 * k)] dX3_setLimits_37 cv_X3_75.1 cv_X3_75.2.1 cv_X3_75.2.2.1 cv_X3_75.2.2.2 hg rfl rfl (Nat.le_of_ble_eq_true rfl) (by decide) (by decide) (sp_setLimit _ (v := v) (k := k) hG (hW k (by omega)) (by omega) hv (by omega)) ?_
      rintro _ w2 ⟨rfl, hV2, hG2, hF2⟩
      have U : ∀ i, i ≠ H + 6 + 2 * k → i ≠ H + 6 + 2 * k + 1 → H ≤ i → i ≤ H + 19 → ¬ limS G (H + 6 + 2 * k) i := fun i h1 h2 h3 h4 h5 => by unfold limS at h5; omega
      have hT2 : hunT w2 H := ⟨⟨tf, hF2.lk (U _ (by omega) (by omega) (by omega) (by omega)) ht, htf⟩, fun j hj => by
        by_cases e : j = k
        · subst e; exact hV2.c
        · exact (hW j hj).fr hF2 (U _ (by omega) (by omega) (by omega) (by omega)) (U _ (by omega) (by omega) (by omega) (by omega))⟩
      refine n_iinc (pc := 40) (c := 1) [(4, .int (nI (k + 1))), (0, .ref H), (1, .int (nI l)), (2, .int (nI v)), (3, .ref G)] 0 dX3_setLimits_40 rfl (by decide) (by decide) rfl ?_
      refine g_goto (pc := 43) 17 dX3_setLimits_43 (by decide) ?_
      refine GP.lsub _ (by simp) (ih (k + 1) w2 (by omega) (hF2.lk (U _ (by omega) (by omega) (by omega) (by omega)) hH) hT2 (fun j hj => ?_) hG2 (hF.tr (hF2.mono (fun i hi => ?_))))
      · by_cases e : j = k
        · subst e; exact hV2
        · exact (hV j (by omega)).fr hF2 (U _ (by omega) (by omega) (by omega) (by omega)) (U _ (by omega) (by omega) (by omega) (by omega))
      · unfold limS at hi
        unfold slS
        omega
theorem sp_setLimits (w : Wd) {G H n h lv ia lk on l v : Nat} {bb bl : Int32} (hd : H + 19 < G ∨ G + 39 < H) (hl : l ≤ 6) (hv : v ≤ 9999) (hH : w[H]? = some (oH H n h lv ia lk on)) (hT : hunT w H) (hG : gauC w G bb bl) : EX3_setLimits [.ref H, .int (nI l), .int (nI v), .ref G] w (fun r w' => r = none ∧ w'[H]? = some (oH H n h l ia lk on) ∧ hunT w' H ∧ (∀ k, k ≤ l → whV w' (H + 6 + 2 * k) 24 (limV v k : Nat)) ∧ gauC w' G bb bl ∧ FR (slS G H) w w') := by
  refine EP.of (plainFor_of_name (by decide)) [(0, .ref H), (1, .int (nI l)), (2, .int (nI v)), (3, .ref G)] rfl (Nat.le_of_ble_eq_true rfl) (fun r wf h => by obtain ⟨rfl, -⟩ := h; trivial) ?_
  show BX3_setLimits w _ w 0 [(0, .ref H), (1, .int (nI l)), (2, .int (nI v)), (3, .ref G)] []
  refine g_aload_n (pc := 0) 0 dX3_setLimits_0 rfl rfl ?_
  refine g_iconst (pc := 1) (v := nI 0) dX3_setLimits_1 (by decide) ?_
  refine g_iload_n (pc := 2) 1 dX3_setLimits_2 rfl rfl ?_
  refine g_bipush (pc := 3) (v := nI 6) dX3_setLimits_3 (by decide) ?_
  refine g_callS (pc := 5) [.int (nI l), .int (nI 6)] dX3_setLimits_5 cs_X3_53.1 cs_X3_53.2 rfl rfl (Nat.le_of_ble_eq_true rfl) (by decide) (by decide) (sp_minI _ (nI l) (nI 6)) ?_
  rintro _ w9 ⟨rfl, e9⟩
  refine GP.weq _ e9 ?_
  refine GP.ti (nI l) (by rw [minN (by omega) (by omega)]; congr 1; omega) ?_
  refine g_callS (pc := 8) [.int (nI 0), .int (nI l)] dX3_setLimits_8 cs_X3_59.1 cs_X3_59.2 rfl rfl (Nat.le_of_ble_eq_true rfl) (by decide) (by decide) (sp_maxI _ (nI 0) (nI l)) ?_
  rintro _ w9 ⟨rfl, e9⟩
  refine GP.weq _ e9 ?_
  refine GP.ti (nI l) (by rw [maxN (by omega) (by omega), Nat.zero_max]) ?_
  refine g_put (pc := 11) [.ref (H + 1), .ref (H + 2), .ref (H + 4), .ref (H + 5), .int (nI n), .int (nI h), .int (nI l), .int (nI ia), .int (nI lk), .int (nI on)] dX3_setLimits_11 fk_X3_41 hH (Nat.le_of_ble_eq_true rfl) rfl rfl ?_
  refine g_iconst (pc := 14) (v := nI 0) dX3_setLimits_14 (by decide) ?_
  refine g_istore (pc := 15) [(4, .int (nI 0)), (0, .ref H), (1, .int (nI l)), (2, .int (nI v)), (3, .ref G)] dX3_setLimits_15 (by decide) rfl ?_
  obtain ⟨w2, hw2⟩ : ∃ w2 : Wd, w2 = (w.set H (.inr (3, [.ref (H + 1), .ref (H + 2), .ref (H + 4), .ref (H + 5), .int (nI n), .int (nI h), .int (nI l), .int (nI ia), .int (nI lk), .int (nI on)]))) := ⟨_, rfl⟩
  refine GP.weq w2 hw2.symm ?_
  have hF1 : FR (fun i => i = H) w w2 := by rw [hw2]; exact FR.set hH rfl rfl
  have hH2 : w2[H]? = some (oH H n h l ia lk on) := by rw [hw2]; exact lk_eq hH
  have hS2 : ∀ i, i = H → ¬ (G + 1 ≤ i ∧ i ≤ G + 15) ∧ ¬ (G + 24 ≤ i ∧ i ≤ G + 39) := fun i hi => by omega
  obtain ⟨g1, g2, g3, g4, g5, g6, g7⟩ := hG
  have hG2 : gauC w2 G bb bl := ⟨hF1.lk (by omega) g1, g2.fr hF1 hS2, g3.fr hF1 hS2, g4.fr hF1 (by omega) (by omega), g5.fr hF1 (by omega) (by omega), g6.fr hF1 (by omega) (by omega), g7.fr hF1 (by omega) (by omega)⟩
  exact GP.lsub _ (by simp) (ls_loop (lv := lv) hd hl hv (l + 1) 0 w2 (by omega) hH2 (hT.fr hF1 (fun i _ _ h3 _ _ _ _ => h3)) (fun j hj => absurd hj (by omega)) hG2 (hF1.mono (fun i hi => Or.inl hi)))
def ifS (H C lo O i : Nat) : Prop := i = H ∨ i = H + 2 ∨ i = H + 3 ∨ cirS C i ∨ ladS lo O i
/-- number i of a box tells that its measure is one -/
def isOneF (F : Nat → Int) (T : Nat) : Prop := (F T = 1 ∨ F T = -1) ∧ ∃ F', coC 43 F T F' 0
def noOneF (F : Nat → Int) (T : Nat) : Prop := (F T ≠ 1 ∧ F T ≠ -1) ∨ ∃ F' T', coC 43 F T F' T' ∧ T' ≠ 0
abbrev BX3_isFound (w0 : Wd) (Post : Option Value → Wd → Prop) (w : Wd) (pc : Nat) (ls : List (Nat × Value)) (st : List Value) : Prop := GP "isFound" RX3 cX3_isFound 4 (some .boolean) 5 195 none w0 Post w pc ls st
abbrev EX3_isFound (As : List Value) (w : Wd) (Post : Option Value → Wd → Prop) : Prop := EP yX3_isFound cX3_isFound 4 (some .boolean) 5 As w Post
theorem sp_isFound (w : Wd) {H C lo O n0 tp n h lv ia lk on v : Nat} {R : Nat → Nat → Int64} {rw9 : Nat → Int64} (hH : w[H]? = some (oH H n h lv ia lk on)) (hr : w[H + 4]? = some (aL 13 rw9)) (hT : hunT w H) (hV : ∀ k, k ≤ lv → whV w (H + 6 + 2 * k) 24 (limV v k : Nat)) (hQ : whC w (H + 2) 8) (hA : cirA w C) (hL : ladC w lo O n0 tp R) (hn : n ≤ 12) (hlv : lv ≤ 6) (hbd : ∀ j, j ≤ n → -1000000000 ≤ toI rw9 j ∧ toI rw9 j ≤ 1000000000) (hlO : lo < O ∨ O + 7 < lo) (d1 : H + 19 < C ∨ C + 59 < H) (d2 : lo < H ∨ H + 19 < lo) (d3 : O + 7 < H ∨ H + 19 < O) (d4 : lo < C ∨ C + 59 < lo) (d5 : O + 7 < C ∨ C + 59 < O) : EX3_isFound [.ref H, .ref lo, .ref C] w (fun r w' => (r = some (.int (nI 0)) ∧ isOneF (toI rw9) n ∧ w'[H]? = some (oH H n h lv ia (lk + 1) (on + 1)) ∧ ladC w' lo O n0 tp R ∧ cirA w' C ∧ whC w' (H + 2) 8 ∧ FR (ifS H C lo O) w w') ∨ (noOneF (toI rw9) n ∧ ∃ b R', topL (toI rw9) n lv b ∧ lvF R' (toI rw9) n b ∧ ladC w' lo O n b R' ∧ ((r = some (.int (nI 1)) ∧ sqs (R' b) (n + 1) ≤ limV v b) ∨ (r = some (.int (nI 0)) ∧ ¬ sqs (R' b) (n + 1) ≤ limV v b)) ∧ w'[H]? = some (oH H n h lv ia (lk + 1) on) ∧ cirA w' C ∧ whC w' (H + 2) 8 ∧ FR (ifS H C lo O) w w')) := by
  refine EP.of (plainFor_of_name (by decide)) [(0, .ref H), (1, .ref lo), (2, .ref C)] rfl (Nat.le_of_ble_eq_true rfl) (fun r wf h => by rcases h with ⟨rfl, -⟩ | ⟨-, b, R', -, -, -, ⟨rfl, -⟩ | ⟨rfl, -⟩, -⟩; exact Or.inl rfl; exact Or.inr rfl; exact Or.inl rfl) ?_
  show BX3_isFound w _ w 0 [(0, .ref H), (1, .ref lo), (2, .ref C)] []
  obtain ⟨tpc, mkc, lfc, hc, hcr⟩ := id hA
  refine g_aload_n (pc := 0) 0 dX3_isFound_0 rfl rfl ?_
  refine g_dup (pc := 1) dX3_isFound_1 rfl ?_
  refine g_get (pc := 2) dX3_isFound_2 fk_X3_47 hH rfl ?_
  refine g_iconst (pc := 5) (v := nI 1) dX3_isFound_5 (by decide) ?_
  refine n_iadd (pc := 6) dX3_isFound_6 ?_
  refine g_put (pc := 7) [.ref (H + 1), .ref (H + 2), .ref (H + 4), .ref (H + 5), .int (nI n), .int (nI h), .int (nI lv), .int (nI ia), .int (nI (lk + 1)), .int (nI on)] dX3_isFound_7 fk_X3_47 hH (Nat.le_of_ble_eq_true rfl) rfl rfl ?_
  refine g_aload_n (pc := 10) 2 dX3_isFound_10 rfl rfl ?_
  refine g_aload_n (pc := 11) 0 dX3_isFound_11 rfl rfl ?_
  refine g_get (pc := 12) dX3_isFound_12 fk_X3_24 (lk_eq hH) rfl ?_
  refine g_aload_n (pc := 15) 0 dX3_isFound_15 rfl rfl ?_
  refine g_get (pc := 16) dX3_isFound_16 fk_X3_34 (lk_eq hH) rfl ?_
  obtain ⟨w2, hw2⟩ : ∃ w2 : Wd, w2 = (w.set H (.inr (3, [.ref (H + 1), .ref (H + 2), .ref (H + 4), .ref (H + 5), .int (nI n), .int (nI h), .int (nI lv), .int (nI ia), .int (nI (lk + 1)), .int (nI on)]))) := ⟨_, rfl⟩
  refine GP.weq w2 hw2.symm ?_
  have hF1 : FR (fun i => i = H) w w2 := by rw [hw2]; exact FR.set hH rfl rfl
  have hH2 : w2[H]? = some (oH H n h lv ia (lk + 1) on) := by rw [hw2]; exact lk_eq hH
  have hr2 := hF1.lk (show ¬ H + 4 = H by omega) hr
  have hA2 := hA.fr hF1 (fun i _ _ h9 => by omega)
  obtain ⟨tp2, mk2, lf2, hc2, -⟩ := id hA2
  refine g_callV (pc := 19) [.ref (H + 4), .int (nI n)] dX3_isFound_19 cv_X3_81.1 cv_X3_81.2.1 cv_X3_81.2.2.1 cv_X3_81.2.2.2 hc2 rfl rfl (Nat.le_of_ble_eq_true rfl) (by decide) (by decide) (sp_beginRow _ (n := n) hA2 hr2 (by omega) hn hbd) ?_
  rintro _ w3 ⟨rfl, hM3, hF3⟩
  have hH3 := hF3.lk (show ¬ cirS C H by unfold cirS; omega) hH2
  have hr3 := hF3.lk (show ¬ cirS C (H + 4) by unfold cirS; omega) hr2
  obtain ⟨-, -, mk3, lf3, ⟨hc3, -⟩, -⟩ := id hM3
  refine g_aload_n (pc := 22) 2 dX3_isFound_22 rfl rfl ?_
  refine g_callV (pc := 23) [] dX3_isFound_23 cv_X3_87.1 cv_X3_87.2.1 cv_X3_87.2.2.1 cv_X3_87.2.2.2 hc3 rfl rfl (Nat.le_of_ble_eq_true rfl) (by decide) (by decide) (sp_isOne _ hM3) ?_
  rintro _ w9 (⟨rfl, h1, h2, hA4, hF4⟩ | ⟨rfl, hno, hA4, hF4⟩)
  · skip
    have h12 : isOneF (toI rw9) n := ⟨h1, h2⟩
    clear h1 h2
    have hH4 := hF4.lk (show ¬ cirS C H by unfold cirS; omega) hH3
    have hr4 := hF4.lk (show ¬ cirS C (H + 4) by unfold cirS; omega) hr3
    have hFa : FR (ifS H C lo O) w w9 := ((hF1.mono (fun i hi => Or.inl hi)).tr (hF3.mono (fun i hi => Or.inr (Or.inr (Or.inr (Or.inl hi)))))).tr (hF4.mono (fun i hi => Or.inr (Or.inr (Or.inr (Or.inl hi)))))
    have UC : ∀ i, i < C ∨ C + 59 < i → ¬ cirS C i := fun i h9 h8 => by unfold cirS at h8; omega
    have hL4 := ((hL.fr hF1 (by omega) (fun i h1 h2 => by omega)).fr hF3 (UC _ d4) (fun i h1 h2 => UC _ (by omega))).fr hF4 (UC _ d4) (fun i h1 h2 => UC _ (by omega))
    have hQ4 := ((hQ.fr hF1 (by omega) (by omega)).fr hF3 (UC _ (by omega)) (UC _ (by omega))).fr hF4 (UC _ (by omega)) (UC _ (by omega))
    refine n_if_eq (pc := 26) 41 dX3_isFound_26 (by decide) (by omega) (fun g1 => ?_) (fun g1 => ?_)
    · exact absurd g1 (by decide)
    · refine g_aload_n (pc := 29) 0 dX3_isFound_29 rfl rfl ?_
      refine g_dup (pc := 30) dX3_isFound_30 rfl ?_
      refine g_get (pc := 31) dX3_isFound_31 fk_X3_50 hH4 rfl ?_
      refine g_iconst (pc := 34) (v := nI 1) dX3_isFound_34 (by decide) ?_
      refine n_iadd (pc := 35) dX3_isFound_35 ?_
      refine g_put (pc := 36) [.ref (H + 1), .ref (H + 2), .ref (H + 4), .ref (H + 5), .int (nI n), .int (nI h), .int (nI lv), .int (nI ia), .int (nI (lk + 1)), .int (nI (on + 1))] dX3_isFound_36 fk_X3_50 hH4 (Nat.le_of_ble_eq_true rfl) rfl rfl ?_
      refine g_iconst (pc := 39) (v := nI 0) dX3_isFound_39 (by decide) ?_
      have hF5 : FR (fun i => i = H) w9 (w9.set H (.inr (3, [.ref (H + 1), .ref (H + 2), .ref (H + 4), .ref (H + 5), .int (nI n), .int (nI h), .int (nI lv), .int (nI ia), .int (nI (lk + 1)), .int (nI (on + 1))]))) := FR.set hH4 rfl rfl
      exact g_iret (pc := 40) dX3_isFound_40 (Or.inl ⟨rfl, h12, lk_eq hH4, hL4.fr hF5 (by omega) (fun i h1 h2 => by omega), hA4.fr hF5 (fun i _ _ h9 => by omega), hQ4.fr hF5 (by omega) (by omega), hFa.tr (hF5.mono (fun i hi => Or.inl hi))⟩)
  · skip
    have hno2 : noOneF (toI rw9) n := hno
    clear hno
    have hH4 := hF4.lk (show ¬ cirS C H by unfold cirS; omega) hH3
    have hr4 := hF4.lk (show ¬ cirS C (H + 4) by unfold cirS; omega) hr3
    have hFa : FR (ifS H C lo O) w w9 := ((hF1.mono (fun i hi => Or.inl hi)).tr (hF3.mono (fun i hi => Or.inr (Or.inr (Or.inr (Or.inl hi)))))).tr (hF4.mono (fun i hi => Or.inr (Or.inr (Or.inr (Or.inl hi)))))
    have UC : ∀ i, i < C ∨ C + 59 < i → ¬ cirS C i := fun i h9 h8 => by unfold cirS at h8; omega
    have hL4 := ((hL.fr hF1 (by omega) (fun i h1 h2 => by omega)).fr hF3 (UC _ d4) (fun i h1 h2 => UC _ (by omega))).fr hF4 (UC _ d4) (fun i h1 h2 => UC _ (by omega))
    have hQ4 := ((hQ.fr hF1 (by omega) (by omega)).fr hF3 (UC _ (by omega)) (UC _ (by omega))).fr hF4 (UC _ (by omega)) (UC _ (by omega))
    refine n_if_eq (pc := 26) 41 dX3_isFound_26 (by decide) (by omega) (fun g1 => ?_) (fun g1 => ?_)
    · refine g_aload_n (pc := 41) 1 dX3_isFound_41 rfl rfl ?_
      refine g_aload_n (pc := 42) 0 dX3_isFound_42 rfl rfl ?_
      refine g_get (pc := 43) dX3_isFound_43 fk_X3_24 hH4 rfl ?_
      refine g_aload_n (pc := 46) 0 dX3_isFound_46 rfl rfl ?_
      refine g_get (pc := 47) dX3_isFound_47 fk_X3_34 hH4 rfl ?_
      refine g_aload_n (pc := 50) 0 dX3_isFound_50 rfl rfl ?_
      refine g_get (pc := 51) dX3_isFound_51 fk_X3_41 hH4 rfl ?_
      refine g_callV (pc := 54) [.ref (H + 4), .int (nI n), .int (nI lv)] dX3_isFound_54 cv_X3_91.1 cv_X3_91.2.1 cv_X3_91.2.2.1 cv_X3_91.2.2.2 hL4.1 rfl rfl (Nat.le_of_ble_eq_true rfl) (by decide) (by decide) (sp_climbRow _ (n := n) (k := lv) hL4 hn hlv hlO hr4 (by omega) (by decide) (by omega) (by omega)) ?_
      rintro _ w5 ⟨b, R', rfl, hTop, hlf, hL5, hF5⟩
      have UL : ∀ i, i ≠ lo → (i < O ∨ O + 7 < i) → ¬ ladS lo O i := fun i h1 h2 h3 => by unfold ladS at h3; omega
      have hH5 := hF5.lk (UL _ (by omega) (by omega)) hH4
      obtain ⟨hlo5, ⟨rf, hO5, hrf⟩, hrows⟩ := id hL5
      have hb := hTop.1
      have hrb := hrows b (by omega)
      have hQ5 := hQ4.fr hF5 (UL _ (by omega) (by omega)) (UL _ (by omega) (by omega))
      have hT5 := (((hT.fr hF1 (fun i _ _ h3 _ _ _ _ => h3)).fr hF3 (fun i h1 h2 _ _ _ _ _ => UC _ (by omega))).fr hF4 (fun i h1 h2 _ _ _ _ _ => UC _ (by omega))).fr hF5 (fun i h1 h2 _ _ _ _ _ => UL _ (by omega) (by omega))
      have hV5 := ((((hV b (by omega)).fr hF1 (by omega) (by omega)).fr hF3 (UC _ (by omega)) (UC _ (by omega))).fr hF4 (UC _ (by omega)) (UC _ (by omega))).fr hF5 (UL _ (by omega) (by omega)) (UL _ (by omega) (by omega))
      obtain ⟨⟨tf5, ht5, htf5⟩, -⟩ := id hT5
      obtain ⟨nq, dq, hq5, -⟩ := id hQ5
      have hA5 := hA4.fr hF5 (fun i h1 h2 => UL _ (by omega) (by omega))
      refine g_istore_n (pc := 57) [(3, .int (nI b)), (0, .ref H), (1, .ref lo), (2, .ref C)] dX3_isFound_57 rfl (by decide) rfl ?_
      refine g_aload_n (pc := 58) 1 dX3_isFound_58 rfl rfl ?_
      refine g_get (pc := 59) dX3_isFound_59 fk_X3_20 hH5 rfl ?_
      refine g_aload_n (pc := 62) 2 dX3_isFound_62 rfl rfl ?_
      refine g_get (pc := 63) dX3_isFound_63 fk_X3_97 hlo5 rfl ?_
      refine g_iload_n (pc := 66) 0 dX3_isFound_66 rfl rfl ?_
      refine g_aald (pc := 67) (v := .ref (O + 1 + b)) b dX3_isFound_67 hO5 (by decide) (IXn (by omega) (by omega)) (by rw [hrf b (by omega)]; rfl) ?_
      refine g_aload_n (pc := 68) 1 dX3_isFound_68 rfl rfl ?_
      refine g_get (pc := 69) dX3_isFound_69 fk_X3_34 hH5 rfl ?_
      refine g_callV (pc := 72) [.ref (O + 1 + b), .int (nI n)] dX3_isFound_72 cv_X3_101.1 cv_X3_101.2.1 cv_X3_101.2.2.1 cv_X3_101.2.2.2 hq5 rfl rfl (Nat.le_of_ble_eq_true rfl) (by decide) (by decide) (wh_squares _ (n := n) hQ5 hrb (by omega) (by decide) (by decide) (by decide) (by omega) hn) ?_
      rintro _ w6 ⟨rfl, hV6, hF6⟩
      obtain ⟨n6, d6, hq6, -⟩ := id hV6
      have hV7 := hV5.fr hF6 (by unfold wS; omega) (by unfold wS; omega)
      have hFb : FR (ifS H C lo O) w w6 := (hFa.tr (hF5.mono (fun i hi => Or.inr (Or.inr (Or.inr (Or.inr hi)))))).tr (hF6.mono (fun i hi => by unfold wS at hi; unfold ifS; omega))
      have hL6 := hL5.fr hF6 (by unfold wS; omega) (fun i h1 h2 => by unfold wS; omega)
      have hA6 := hA5.fr hF6 (fun i h1 h2 => by unfold wS; omega)
      have hH6 := hF6.lk (show ¬ wS (H + 2) H by unfold wS; omega) hH5
      refine g_aload_n (pc := 75) 1 dX3_isFound_75 rfl rfl ?_
      refine g_get (pc := 76) dX3_isFound_76 fk_X3_20 (hF6.lk (by unfold wS; omega) hH5) rfl ?_
      refine g_aload_n (pc := 79) 1 dX3_isFound_79 rfl rfl ?_
      refine g_get (pc := 80) dX3_isFound_80 fk_X3_11 (hF6.lk (by unfold wS; omega) hH5) rfl ?_
      refine g_iload_n (pc := 83) 0 dX3_isFound_83 rfl rfl ?_
      refine g_aald (pc := 84) (v := .ref (H + 6 + 2 * b)) b dX3_isFound_84 (hF6.lk (by unfold wS; omega) ht5) (by decide) (IXn (by omega) (by omega)) (by rw [htf5 b (by omega)]; rfl) ?_
      refine g_callV (pc := 85) [.ref (H + 6 + 2 * b)] dX3_isFound_85 cv_X3_104.1 cv_X3_104.2.1 cv_X3_104.2.2.1 cv_X3_104.2.2.2 hq6 rfl rfl (Nat.le_of_ble_eq_true rfl) (by decide) (by decide) (wh_isAbove _ hV6 hV7 (by decide) (by decide)) ?_
      rintro _ w9 (⟨rfl, hlt, e9⟩ | ⟨rfl, hlt, e9⟩)
      · refine GP.weq _ e9 ?_
        refine n_if_ne (pc := 88) 95 dX3_isFound_88 (by decide) (by omega) (fun g2 => ?_) (fun g2 => ?_)
        · refine g_iconst (pc := 95) (v := nI 0) dX3_isFound_95 (by decide) ?_
          exact g_iret (pc := 96) dX3_isFound_96 (Or.inr ⟨hno2, b, R', hTop, hlf, hL6, Or.inr ⟨rfl, by omega⟩, hH6, hA6, hV6.c, hFb⟩)
        · exact absurd g2 (by decide)
      · refine GP.weq _ e9 ?_
        refine n_if_ne (pc := 88) 95 dX3_isFound_88 (by decide) (by omega) (fun g2 => ?_) (fun g2 => ?_)
        · exact absurd rfl g2
        · refine g_iconst (pc := 91) (v := nI 1) dX3_isFound_91 (by decide) ?_
          refine g_goto (pc := 92) 96 dX3_isFound_92 (by decide) ?_
          exact g_iret (pc := 96) dX3_isFound_96 (Or.inr ⟨hno2, b, R', hTop, hlf, hL6, Or.inl ⟨rfl, by omega⟩, hH6, hA6, hV6.c, hFb⟩)
    · exact absurd rfl g1
