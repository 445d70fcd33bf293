/-! Gauge: findGreatestLow, findLeastHigh, setLimit -/
theorem ladC.fr {S : Nat → Prop} {w w' : Wd} {lo O n tp : Nat} {R : Nat → Nat → Int64} (h : ladC w lo O n tp R) (hF : FR S w w') (h1 : ¬ S lo) (h2 : ∀ i, O ≤ i → i ≤ O + 7 → ¬ S i) : ladC w' lo O n tp R := by
  obtain ⟨a, ⟨rf, b, c⟩, d⟩ := h
  exact ⟨hF.lk h1 a, ⟨rf, hF.lk (h2 _ (by omega) (by omega)) b, c⟩, fun t ht => hF.lk (h2 _ (by omega) (by omega)) (d t ht)⟩
theorem gauC.put {w : Wd} {G : Nat} {bb bl : Int32} (bb' bl' : Int32) (h : gauC w G bb bl) : gauC (w.set G (oG G bb' bl')) G bb' bl' ∧ FR (gauS G) w (w.set G (oG G bb' bl')) := by
  obtain ⟨g1, g2, g3, g4, g5, g6, g7⟩ := h
  have hF : FR (fun i => i = G) w (w.set G (oG G bb' bl')) := FR.set g1 rfl rfl
  have hS2 : ∀ i, i = G → ¬ (G + 1 ≤ i ∧ i ≤ G + 15) ∧ ¬ (G + 24 ≤ i ∧ i ≤ G + 39) := fun i hi => by omega
  exact ⟨⟨lk_eq g1, g2.fr hF hS2, g3.fr hF hS2, g4.fr hF (by omega) (by omega), g5.fr hF (by omega) (by omega), g6.fr hF (by omega) (by omega), g7.fr hF (by omega) (by omega)⟩, hF.mono (fun i hi => Or.inl hi)⟩
/-- keeps a fact out of omega's sight -/
def Hid (p : Prop) : Prop := p
theorem isLow.le {f : Nat → Int64} {n k t : Nat} (h : isLow f n k t) : t ≤ 268435455 := by
  obtain ⟨b, -, -, h, -⟩ := h
  exact h
theorem isHigh.le {f : Nat → Int64} {n k t : Nat} (h : isHigh f n k t) : t ≤ 268435456 := by
  obtain ⟨u, rfl, h, -⟩ := h
  omega
abbrev BX2_findGreatestLow (w0 : Wd) (Post : Option Value → Wd → Prop) (w : Wd) (pc : Nat) (ls : List (Nat × Value)) (st : List Value) : Prop := GP "findGreatestLow" RX2 cX2_findGreatestLow 4 none 6 234 none w0 Post w pc ls st
abbrev EX2_findGreatestLow (As : List Value) (w : Wd) (Post : Option Value → Wd → Prop) : Prop := EP yX2_findGreatestLow cX2_findGreatestLow 4 none 6 As w Post
theorem fgl_loop {w0 w : Wd} {G lo O n tp : Nat} {R : Nat → Nat → Int64} (hL : ladC w lo O n tp R) (hn : n ≤ 12) (htp : tp ≤ 6) (hd1 : lo < G ∨ G + 39 < lo) (hd2 : O + 7 < G ∨ G + 39 < O) : ∀ (z k : Nat) (w1 : Wd) (bb bl : Int32) (L : Nat → Nat), tp + 1 = k + z → gauC w1 G bb bl → FR (gauS G) w w1 → (∀ j, j < k → isLow (R j) n j (L j)) → Hid ((k = 0 ∧ bb.toInt = -2147483648) ∨ ∃ kb, kb < k ∧ bb = nI (L kb) ∧ bl = nI kb ∧ (∀ j, j < k → L j ≤ L kb) ∧ ∀ j, j < kb → L j < L kb) → BX2_findGreatestLow w0 (fun r w' => r = none ∧ ∃ (L : Nat → Nat) (kb : Nat), (∀ j, j ≤ tp → isLow (R j) n j (L j)) ∧ kb ≤ tp ∧ ((∀ j, j < tp + 1 → L j ≤ L kb) ∧ ∀ j, j < kb → L j < L kb) ∧ gauC w' G (nI (L kb)) (nI kb) ∧ FR (gauS G) w w') w1 8 [(2, .int (nI k)), (0, .ref G), (1, .ref lo)] [] := by
  intro z
  induction z with
  | zero =>
    intro k w1 bb bl L hz hG hF hj hI
    have hg := hG.1
    have hGl : G ≠ lo := by omega
    have hL1 := hL.fr hF (by unfold gauS; omega) (fun i h1 h2 => by unfold gauS; omega)
    have hlo := hL1.1
    refine g_iload_n (pc := 8) 0 dX2_findGreatestLow_8 rfl rfl ?_
    refine g_aload_n (pc := 9) 2 dX2_findGreatestLow_9 rfl rfl ?_
    refine g_get (pc := 10) dX2_findGreatestLow_10 fk_X2_99 hlo rfl ?_
    refine n_icmp_gt (pc := 13) 47 dX2_findGreatestLow_13 (by decide) (by omega) (by omega) (fun hb => ?_) (fun hb => ?_)
    · rcases hI with ⟨hk0, -⟩ | ⟨kb, hkb, e1, e2, g1, g2⟩
      · exact absurd hk0 (by omega)
      · subst e1 e2
        exact g_vret (pc := 47) dX2_findGreatestLow_47 ⟨rfl, L, kb, fun j h9 => hj j (by omega), by omega, ⟨fun j h9 => g1 j (by omega), g2⟩, hG, hF⟩
    · exact absurd hb (by omega)
  | succ z ih =>
    intro k w1 bb bl L hz hG hF hj hI
    have hg := hG.1
    have hGl : G ≠ lo := by omega
    have hL1 := hL.fr hF (by unfold gauS; omega) (fun i h1 h2 => by unfold gauS; omega)
    have hlo := hL1.1
    refine g_iload_n (pc := 8) 0 dX2_findGreatestLow_8 rfl rfl ?_
    refine g_aload_n (pc := 9) 2 dX2_findGreatestLow_9 rfl rfl ?_
    refine g_get (pc := 10) dX2_findGreatestLow_10 fk_X2_99 hlo rfl ?_
    refine n_icmp_gt (pc := 13) 47 dX2_findGreatestLow_13 (by decide) (by omega) (by omega) (fun hb => ?_) (fun hb => ?_)
    · exact absurd hb (by omega)
    · refine g_aload_n (pc := 16) 1 dX2_findGreatestLow_16 rfl rfl ?_
      refine g_aload_n (pc := 17) 2 dX2_findGreatestLow_17 rfl rfl ?_
      refine g_iload_n (pc := 18) 0 dX2_findGreatestLow_18 rfl rfl ?_
      refine g_callV (pc := 19) [.ref lo, .int (nI k)] dX2_findGreatestLow_19 cv_X2_102.1 cv_X2_102.2.1 cv_X2_102.2.2.1 cv_X2_102.2.2.2 hg rfl rfl (Nat.le_of_ble_eq_true rfl) (by decide) (by decide) (sp_lowBy _ (k := k) hG hL1 hn (by omega) hd1 hd2) ?_
      rintro _ w2 ⟨t, rfl, hT, hG2, hF2⟩
      have hF3 : FR (gauS G) w w2 := hF.tr (hF2.mono (fun i hi => by unfold gauS2 at hi; unfold gauS; omega))
      have hg2 := hG2.1
      have htl := hT.le
      have hj2 : ∀ j, j < k + 1 → isLow (R j) n j ((fun j => if j = k then t else L j) j) := fun j h9 => by
        by_cases e : j = k
        · subst e
          simp only [↓reduceIte]
          exact hT
        · simp only [if_neg e]
          exact hj j (by omega)
      refine g_istore_n (pc := 22) [(3, .int (nI t)), (2, .int (nI k)), (0, .ref G), (1, .ref lo)] dX2_findGreatestLow_22 rfl (by decide) rfl ?_
      refine g_iload_n (pc := 23) 0 dX2_findGreatestLow_23 rfl rfl ?_
      refine g_aload_n (pc := 24) 2 dX2_findGreatestLow_24 rfl rfl ?_
      refine g_get (pc := 25) dX2_findGreatestLow_25 fk_X2_38 hg2 rfl ?_
      refine g_icmp_le (pc := 28) 41 dX2_findGreatestLow_28 (by decide) (fun hc => ?_) (fun hc => ?_)
      · rw [Int32.le_iff_toInt_le, nI_toInt (by omega)] at hc
        refine n_iinc (pc := 41) (c := 1) [(2, .int (nI (k + 1))), (3, .int (nI t)), (0, .ref G), (1, .ref lo)] 1 dX2_findGreatestLow_41 rfl (by decide) (by decide) rfl ?_
        refine g_goto (pc := 44) 8 dX2_findGreatestLow_44 (by decide) ?_
        refine GP.lsub _ (by simp) (ih (k + 1) w2 bb bl (fun j => if j = k then t else L j) (by omega) hG2 hF3 hj2 ?_)
        rcases hI with ⟨hk0, hb0⟩ | ⟨kb, hkb, e1, e2, g1, g2⟩
        · exfalso
          rw [hb0] at hc
          omega
        · refine Or.inr ⟨kb, by omega, by simp only [if_neg (show ¬ kb = k by omega)]; exact e1, e2, fun j h9 => ?_, fun j h9 => ?_⟩
          · simp only [if_neg (show ¬ kb = k by omega)]
            rw [e1, nI_toInt (by have := (hj kb hkb).le; omega)] at hc
            by_cases e : j = k
            · rw [if_pos e]
              omega
            · rw [if_neg e]
              exact g1 j (by omega)
          · simp only [if_neg (show ¬ kb = k by omega), if_neg (show ¬ j = k by omega)]
            exact g2 j h9
      · rw [Int32.le_iff_toInt_le, nI_toInt (by omega)] at hc
        refine g_aload_n (pc := 31) 2 dX2_findGreatestLow_31 rfl rfl ?_
        refine g_iload_n (pc := 32) 0 dX2_findGreatestLow_32 rfl rfl ?_
        refine g_put (pc := 33) [.ref (G + 1), .ref (G + 2), .ref (G + 16), .ref (G + 18), .ref (G + 20), .ref (G + 22), .int (nI t), .int bl] dX2_findGreatestLow_33 fk_X2_38 hg2 (Nat.le_of_ble_eq_true rfl) rfl rfl ?_
        refine g_aload_n (pc := 36) 2 dX2_findGreatestLow_36 rfl rfl ?_
        refine g_iload_n (pc := 37) 1 dX2_findGreatestLow_37 rfl rfl ?_
        refine g_put (pc := 38) [.ref (G + 1), .ref (G + 2), .ref (G + 16), .ref (G + 18), .ref (G + 20), .ref (G + 22), .int (nI t), .int (nI k)] dX2_findGreatestLow_38 fk_X2_42 (lk_eq hg2) (Nat.le_of_ble_eq_true rfl) rfl rfl ?_
        refine GP.weq (w2.set G (.inr (2, [.ref (G + 1), .ref (G + 2), .ref (G + 16), .ref (G + 18), .ref (G + 20), .ref (G + 22), .int (nI t), .int (nI k)]))) (by rw [List.set_set]) ?_
        refine n_iinc (pc := 41) (c := 1) [(2, .int (nI (k + 1))), (3, .int (nI t)), (0, .ref G), (1, .ref lo)] 1 dX2_findGreatestLow_41 rfl (by decide) (by decide) rfl ?_
        refine g_goto (pc := 44) 8 dX2_findGreatestLow_44 (by decide) ?_
        obtain ⟨hG3, hF4⟩ := hG2.put (nI t) (nI k)
        refine GP.lsub _ (by simp) (ih (k + 1) _ (nI t) (nI k) (fun j => if j = k then t else L j) (by omega) hG3 (hF3.tr hF4) hj2 ?_)
        refine Or.inr ⟨k, by omega, by simp only [↓reduceIte], rfl, fun j h9 => ?_, fun j h9 => ?_⟩
        · simp only [↓reduceIte]
          by_cases e : j = k
          · rw [if_pos e]
            exact Nat.le_refl _
          · rw [if_neg e]
            rcases hI with ⟨hk0, hb0⟩ | ⟨kb, hkb, e1, e2, g1, g2⟩
            · omega
            · rw [e1, nI_toInt (by have := (hj kb hkb).le; omega)] at hc
              have := g1 j (by omega)
              omega
        · simp only [↓reduceIte, if_neg (show ¬ j = k by omega)]
          rcases hI with ⟨hk0, hb0⟩ | ⟨kb, hkb, e1, e2, g1, g2⟩
          · omega
          · rw [e1, nI_toInt (by have := (hj kb hkb).le; omega)] at hc
            have := g1 j (by omega)
            omega
theorem sp_findGreatestLow (w : Wd) {G : Nat} {bb bl : Int32} (hG : gauC w G bb bl) {lo O n tp : Nat} {R : Nat → Nat → Int64} (hL : ladC w lo O n tp R) (hn : n ≤ 12) (htp : tp ≤ 6) (hd1 : lo < G ∨ G + 39 < lo) (hd2 : O + 7 < G ∨ G + 39 < O) : EX2_findGreatestLow [.ref G, .ref lo] w (fun r w' => r = none ∧ ∃ (L : Nat → Nat) (kb : Nat), (∀ j, j ≤ tp → isLow (R j) n j (L j)) ∧ kb ≤ tp ∧ ((∀ j, j < tp + 1 → L j ≤ L kb) ∧ ∀ j, j < kb → L j < L kb) ∧ gauC w' G (nI (L kb)) (nI kb) ∧ FR (gauS G) w w') := by
  refine EP.of (plainFor_of_name (by decide)) [(0, .ref G), (1, .ref lo)] rfl (Nat.le_of_ble_eq_true rfl) (fun r wf h => by obtain ⟨rfl, -⟩ := h; trivial) ?_
  show BX2_findGreatestLow w _ w 0 [(0, .ref G), (1, .ref lo)] []
  have hg := hG.1
  refine g_aload_n (pc := 0) 0 dX2_findGreatestLow_0 rfl rfl ?_
  refine g_ldc (pc := 1) kc_X2_98 dX2_findGreatestLow_1 ?_
  refine g_put (pc := 3) [.ref (G + 1), .ref (G + 2), .ref (G + 16), .ref (G + 18), .ref (G + 20), .ref (G + 22), .int (-2147483648), .int bl] dX2_findGreatestLow_3 fk_X2_38 hg (Nat.le_of_ble_eq_true rfl) rfl rfl ?_
  refine g_iconst (pc := 6) (v := nI 0) dX2_findGreatestLow_6 (by decide) ?_
  refine g_istore_n (pc := 7) [(2, .int (nI 0)), (0, .ref G), (1, .ref lo)] dX2_findGreatestLow_7 rfl (by decide) rfl ?_
  obtain ⟨hG3, hF4⟩ := hG.put (-2147483648) bl
  exact GP.lsub _ (by simp) (fgl_loop hL hn htp hd1 hd2 (tp + 1) 0 _ _ bl (fun _ => 0) (by omega) hG3 hF4 (fun j h9 => absurd h9 (by omega)) (Or.inl ⟨rfl, by decide⟩))
abbrev BX2_findLeastHigh (w0 : Wd) (Post : Option Value → Wd → Prop) (w : Wd) (pc : Nat) (ls : List (Nat × Value)) (st : List Value) : Prop := GP "findLeastHigh" RX2 cX2_findLeastHigh 4 none 6 234 none w0 Post w pc ls st
abbrev EX2_findLeastHigh (As : List Value) (w : Wd) (Post : Option Value → Wd → Prop) : Prop := EP yX2_findLeastHigh cX2_findLeastHigh 4 none 6 As w Post
theorem flh_loop {w0 w : Wd} {G lo O n tp : Nat} {R : Nat → Nat → Int64} (hL : ladC w lo O n tp R) (hn : n ≤ 12) (htp : tp ≤ 6) (hd1 : lo < G ∨ G + 39 < lo) (hd2 : O + 7 < G ∨ G + 39 < O) (hpos : ∀ j, j ≤ tp → 0 < sqs (R j) (n + 1)) : ∀ (z k : Nat) (w1 : Wd) (bb bl : Int32) (L : Nat → Nat), tp + 1 = k + z → gauC w1 G bb bl → FR (gauS G) w w1 → (∀ j, j < k → isHigh (R j) n j (L j)) → Hid ((k = 0 ∧ bb.toInt = 2147483647) ∨ ∃ kb, kb < k ∧ bb = nI (L kb) ∧ bl = nI kb ∧ (∀ j, j < k → L kb ≤ L j) ∧ ∀ j, j < kb → L kb < L j) → BX2_findLeastHigh w0 (fun r w' => r = none ∧ ∃ (L : Nat → Nat) (kb : Nat), (∀ j, j ≤ tp → isHigh (R j) n j (L j)) ∧ kb ≤ tp ∧ ((∀ j, j < tp + 1 → L kb ≤ L j) ∧ ∀ j, j < kb → L kb < L j) ∧ gauC w' G (nI (L kb)) (nI kb) ∧ FR (gauS G) w w') w1 8 [(2, .int (nI k)), (0, .ref G), (1, .ref lo)] [] := by
  intro z
  induction z with
  | zero =>
    intro k w1 bb bl L hz hG hF hj hI
    have hg := hG.1
    have hGl : G ≠ lo := by omega
    have hL1 := hL.fr hF (by unfold gauS; omega) (fun i h1 h2 => by unfold gauS; omega)
    have hlo := hL1.1
    refine g_iload_n (pc := 8) 0 dX2_findLeastHigh_8 rfl rfl ?_
    refine g_aload_n (pc := 9) 2 dX2_findLeastHigh_9 rfl rfl ?_
    refine g_get (pc := 10) dX2_findLeastHigh_10 fk_X2_99 hlo rfl ?_
    refine n_icmp_gt (pc := 13) 47 dX2_findLeastHigh_13 (by decide) (by omega) (by omega) (fun hb => ?_) (fun hb => ?_)
    · rcases hI with ⟨hk0, -⟩ | ⟨kb, hkb, e1, e2, g1, g2⟩
      · exact absurd hk0 (by omega)
      · subst e1 e2
        exact g_vret (pc := 47) dX2_findLeastHigh_47 ⟨rfl, L, kb, fun j h9 => hj j (by omega), by omega, ⟨fun j h9 => g1 j (by omega), g2⟩, hG, hF⟩
    · exact absurd hb (by omega)
  | succ z ih =>
    intro k w1 bb bl L hz hG hF hj hI
    have hg := hG.1
    have hGl : G ≠ lo := by omega
    have hL1 := hL.fr hF (by unfold gauS; omega) (fun i h1 h2 => by unfold gauS; omega)
    have hlo := hL1.1
    refine g_iload_n (pc := 8) 0 dX2_findLeastHigh_8 rfl rfl ?_
    refine g_aload_n (pc := 9) 2 dX2_findLeastHigh_9 rfl rfl ?_
    refine g_get (pc := 10) dX2_findLeastHigh_10 fk_X2_99 hlo rfl ?_
    refine n_icmp_gt (pc := 13) 47 dX2_findLeastHigh_13 (by decide) (by omega) (by omega) (fun hb => ?_) (fun hb => ?_)
    · exact absurd hb (by omega)
    · refine g_aload_n (pc := 16) 1 dX2_findLeastHigh_16 rfl rfl ?_
      refine g_aload_n (pc := 17) 2 dX2_findLeastHigh_17 rfl rfl ?_
      refine g_iload_n (pc := 18) 0 dX2_findLeastHigh_18 rfl rfl ?_
      refine g_callV (pc := 19) [.ref lo, .int (nI k)] dX2_findLeastHigh_19 cv_X2_107.1 cv_X2_107.2.1 cv_X2_107.2.2.1 cv_X2_107.2.2.2 hg rfl rfl (Nat.le_of_ble_eq_true rfl) (by decide) (by decide) (sp_highBy _ (k := k) hG hL1 hn (by omega) hd1 hd2 (hpos k (by omega))) ?_
      rintro _ w2 ⟨t, rfl, hT, hG2, hF2⟩
      have hF3 : FR (gauS G) w w2 := hF.tr (hF2.mono (fun i hi => by unfold gauS2 at hi; unfold gauS; omega))
      have hg2 := hG2.1
      have htl := hT.le
      have hj2 : ∀ j, j < k + 1 → isHigh (R j) n j ((fun j => if j = k then t else L j) j) := fun j h9 => by
        by_cases e : j = k
        · subst e
          simp only [↓reduceIte]
          exact hT
        · simp only [if_neg e]
          exact hj j (by omega)
      refine g_istore_n (pc := 22) [(3, .int (nI t)), (2, .int (nI k)), (0, .ref G), (1, .ref lo)] dX2_findLeastHigh_22 rfl (by decide) rfl ?_
      refine g_iload_n (pc := 23) 0 dX2_findLeastHigh_23 rfl rfl ?_
      refine g_aload_n (pc := 24) 2 dX2_findLeastHigh_24 rfl rfl ?_
      refine g_get (pc := 25) dX2_findLeastHigh_25 fk_X2_38 hg2 rfl ?_
      refine g_icmp_ge (pc := 28) 41 dX2_findLeastHigh_28 (by decide) (fun hc => ?_) (fun hc => ?_)
      · rw [Int32.le_iff_toInt_le, nI_toInt (by omega)] at hc
        refine n_iinc (pc := 41) (c := 1) [(2, .int (nI (k + 1))), (3, .int (nI t)), (0, .ref G), (1, .ref lo)] 1 dX2_findLeastHigh_41 rfl (by decide) (by decide) rfl ?_
        refine g_goto (pc := 44) 8 dX2_findLeastHigh_44 (by decide) ?_
        refine GP.lsub _ (by simp) (ih (k + 1) w2 bb bl (fun j => if j = k then t else L j) (by omega) hG2 hF3 hj2 ?_)
        rcases hI with ⟨hk0, hb0⟩ | ⟨kb, hkb, e1, e2, g1, g2⟩
        · exfalso
          rw [hb0] at hc
          omega
        · refine Or.inr ⟨kb, by omega, by simp only [if_neg (show ¬ kb = k by omega)]; exact e1, e2, fun j h9 => ?_, fun j h9 => ?_⟩
          · simp only [if_neg (show ¬ kb = k by omega)]
            rw [e1, nI_toInt (by have := (hj kb hkb).le; omega)] at hc
            by_cases e : j = k
            · rw [if_pos e]
              omega
            · rw [if_neg e]
              exact g1 j (by omega)
          · simp only [if_neg (show ¬ kb = k by omega), if_neg (show ¬ j = k by omega)]
            exact g2 j h9
      · rw [Int32.le_iff_toInt_le, nI_toInt (by omega)] at hc
        refine g_aload_n (pc := 31) 2 dX2_findLeastHigh_31 rfl rfl ?_
        refine g_iload_n (pc := 32) 0 dX2_findLeastHigh_32 rfl rfl ?_
        refine g_put (pc := 33) [.ref (G + 1), .ref (G + 2), .ref (G + 16), .ref (G + 18), .ref (G + 20), .ref (G + 22), .int (nI t), .int bl] dX2_findLeastHigh_33 fk_X2_38 hg2 (Nat.le_of_ble_eq_true rfl) rfl rfl ?_
        refine g_aload_n (pc := 36) 2 dX2_findLeastHigh_36 rfl rfl ?_
        refine g_iload_n (pc := 37) 1 dX2_findLeastHigh_37 rfl rfl ?_
        refine g_put (pc := 38) [.ref (G + 1), .ref (G + 2), .ref (G + 16), .ref (G + 18), .ref (G + 20), .ref (G + 22), .int (nI t), .int (nI k)] dX2_findLeastHigh_38 fk_X2_42 (lk_eq hg2) (Nat.le_of_ble_eq_true rfl) rfl rfl ?_
        refine GP.weq (w2.set G (.inr (2, [.ref (G + 1), .ref (G + 2), .ref (G + 16), .ref (G + 18), .ref (G + 20), .ref (G + 22), .int (nI t), .int (nI k)]))) (by rw [List.set_set]) ?_
        refine n_iinc (pc := 41) (c := 1) [(2, .int (nI (k + 1))), (3, .int (nI t)), (0, .ref G), (1, .ref lo)] 1 dX2_findLeastHigh_41 rfl (by decide) (by decide) rfl ?_
        refine g_goto (pc := 44) 8 dX2_findLeastHigh_44 (by decide) ?_
        obtain ⟨hG3, hF4⟩ := hG2.put (nI t) (nI k)
        refine GP.lsub _ (by simp) (ih (k + 1) _ (nI t) (nI k) (fun j => if j = k then t else L j) (by omega) hG3 (hF3.tr hF4) hj2 ?_)
        refine Or.inr ⟨k, by omega, by simp only [↓reduceIte], rfl, fun j h9 => ?_, fun j h9 => ?_⟩
        · simp only [↓reduceIte]
          by_cases e : j = k
          · rw [if_pos e]
            exact Nat.le_refl _
          · rw [if_neg e]
            rcases hI with ⟨hk0, hb0⟩ | ⟨kb, hkb, e1, e2, g1, g2⟩
            · omega
            · rw [e1, nI_toInt (by have := (hj kb hkb).le; omega)] at hc
              have := g1 j (by omega)
              omega
        · simp only [↓reduceIte, if_neg (show ¬ j = k by omega)]
          rcases hI with ⟨hk0, hb0⟩ | ⟨kb, hkb, e1, e2, g1, g2⟩
          · omega
          · rw [e1, nI_toInt (by have := (hj kb hkb).le; omega)] at hc
            have := g1 j (by omega)
            omega
theorem sp_findLeastHigh (w : Wd) {G : Nat} {bb bl : Int32} (hG : gauC w G bb bl) {lo O n tp : Nat} {R : Nat → Nat → Int64} (hL : ladC w lo O n tp R) (hn : n ≤ 12) (htp : tp ≤ 6) (hd1 : lo < G ∨ G + 39 < lo) (hd2 : O + 7 < G ∨ G + 39 < O) (hpos : ∀ j, j ≤ tp → 0 < sqs (R j) (n + 1)) : EX2_findLeastHigh [.ref G, .ref lo] w (fun r w' => r = none ∧ ∃ (L : Nat → Nat) (kb : Nat), (∀ j, j ≤ tp → isHigh (R j) n j (L j)) ∧ kb ≤ tp ∧ ((∀ j, j < tp + 1 → L kb ≤ L j) ∧ ∀ j, j < kb → L kb < L j) ∧ gauC w' G (nI (L kb)) (nI kb) ∧ FR (gauS G) w w') := by
  refine EP.of (plainFor_of_name (by decide)) [(0, .ref G), (1, .ref lo)] rfl (Nat.le_of_ble_eq_true rfl) (fun r wf h => by obtain ⟨rfl, -⟩ := h; trivial) ?_
  show BX2_findLeastHigh w _ w 0 [(0, .ref G), (1, .ref lo)] []
  have hg := hG.1
  refine g_aload_n (pc := 0) 0 dX2_findLeastHigh_0 rfl rfl ?_
  refine g_ldc (pc := 1) kc_X2_106 dX2_findLeastHigh_1 ?_
  refine GP.ti (nI 2147483647) (by decide) ?_
  refine g_put (pc := 3) [.ref (G + 1), .ref (G + 2), .ref (G + 16), .ref (G + 18), .ref (G + 20), .ref (G + 22), .int (nI 2147483647), .int bl] dX2_findLeastHigh_3 fk_X2_38 hg (Nat.le_of_ble_eq_true rfl) rfl rfl ?_
  refine g_iconst (pc := 6) (v := nI 0) dX2_findLeastHigh_6 (by decide) ?_
  refine g_istore_n (pc := 7) [(2, .int (nI 0)), (0, .ref G), (1, .ref lo)] dX2_findLeastHigh_7 rfl (by decide) rfl ?_
  obtain ⟨hG3, hF4⟩ := hG.put (2147483647) bl
  exact GP.lsub _ (by simp) (flh_loop hL hn htp hd1 hd2 hpos (tp + 1) 0 _ _ bl (fun _ => 0) (by omega) hG3 hF4 (fun j h9 => absurd h9 (by omega)) (Or.inl ⟨rfl, by decide⟩))
