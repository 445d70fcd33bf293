/-! MahlerBox: standsOn, level, low, high, surely, compare, enclosed -/
def isLv (x : Int32) : Prop := 0 ≤ x.toInt ∧ x.toInt ≤ 6
/-- no such LEVEL, or BEYOND -/
def noLv (sh : SV) (x y : Int32) : Prop := ¬ (isPl x ∧ isLv y) ∨ ∃ i k T, x = nI i ∧ i < 8 ∧ y = nI k ∧ k < 7 ∧ topL (sh.1 i).2 (sh.1 i).1 k T ∧ T ≠ k
abbrev BX11_standsOn (w0 : Wd) (Post : Option Value → Wd → Prop) (w : Wd) (pc : Nat) (ls : List (Nat × Value)) (st : List Value) : Prop := GP "standsOn" RX11 cX11_standsOn 3 (some .boolean) 5 195 none w0 Post w pc ls st
abbrev EX11_standsOn (As : List Value) (w : Wd) (Post : Option Value → Wd → Prop) : Prop := EP yX11_standsOn cX11_standsOn 3 (some .boolean) 5 As w Post
theorem sp_standsOn (w : Wd) {X tl : Nat} {tb : Nat → Int32} {fa st : Int32} {rf : Nat → Nat} {sh : SV} {pn : Nat} {pk : Nat → Nat} {ps : Nat → SV} {im : Nat → Option SV} (hB : bxC w X tl tb fa st rf sh pn pk ps im) {x y : Int32} : EX11_standsOn [.ref X, .int x, .int y] w (fun r w' => (r = some (.int (nI 1)) ∧ ∃ i k, x = nI i ∧ i < 8 ∧ y = nI k ∧ k < 7 ∧ topL (sh.1 i).2 (sh.1 i).1 k k ∧ onL w' X (sh.1 i) k ∧ bxC w' X tl tb fa st rf sh pn pk ps im ∧ EX (boxS X) 0 0 w w') ∨ (r = some (.int (nI 0)) ∧ noLv sh x y ∧ bxC w' X tl tb fa st rf sh pn pk ps im ∧ EX (boxS X) 0 0 w w')) := by
  refine EP.of (plainFor_of_name (by decide)) [(0, .ref X), (1, .int x), (2, .int y)] rfl (Nat.le_of_ble_eq_true rfl) (fun r wf h => by rcases h with ⟨rfl, -⟩ | ⟨rfl, -⟩; exact Or.inr rfl; exact Or.inl rfl) ?_
  show BX11_standsOn w _ w 0 [(0, .ref X), (1, .int x), (2, .int y)] []
  obtain ⟨⟨s0, hX0, hs0⟩, -, hW0, -⟩ := id hB
  obtain ⟨sp0, sf0, sh0, hsa0, hsb0, hsc0, hsd0, hse0, hsf0⟩ := id hs0
  obtain ⟨bb0, bl0, hG0⟩ := hW0.2.1
  obtain ⟨nL0, tL0, RL0, hL0⟩ := hW0.1
  obtain ⟨tc0, mc0, lc0, hC0, -⟩ := id hW0.2.2.1
  refine g_iload_n (pc := 0) 1 dX11_standsOn_0 rfl rfl ?_
  refine g_callS (pc := 1) [.int x] dX11_standsOn_1 cs_X11_95.1 cs_X11_95.2 rfl rfl (Nat.le_of_ble_eq_true rfl) (by decide) (by decide) (sp_isPlace _ (x := x)) ?_
  rintro _ w9 (⟨rfl, hpi, e9⟩ | ⟨rfl, hpi, e9⟩)
  · refine GP.weq _ e9 ?_
    refine n_if_eq (pc := 4) 38 dX11_standsOn_4 (by decide) (by omega) (fun hzi => ?_) (fun hzi => ?_)
    · exact absurd hzi (by decide)
    · obtain ⟨i, hie, hi⟩ : ∃ i : Nat, x = nI i ∧ i < 8 := ⟨x.toInt.toNat, nI_toNat (by omega), by omega⟩
      subst hie
      refine g_iload_n (pc := 7) 2 dX11_standsOn_7 rfl rfl ?_
      refine g_callS (pc := 8) [.int y] dX11_standsOn_8 cs_X11_168.1 cs_X11_168.2 rfl rfl (Nat.le_of_ble_eq_true rfl) (by decide) (by decide) (sp_isLevel _ (x := y)) ?_
      rintro _ w9 (⟨rfl, hpk, e9⟩ | ⟨rfl, hpk, e9⟩)
      · refine GP.weq _ e9 ?_
        refine n_if_eq (pc := 11) 38 dX11_standsOn_11 (by decide) (by omega) (fun hzk => ?_) (fun hzk => ?_)
        · exact absurd hzk (by decide)
        · obtain ⟨k, hke, hk⟩ : ∃ k : Nat, y = nI k ∧ k < 7 := ⟨y.toInt.toNat, nI_toNat (by omega), by omega⟩
          subst hke
          refine g_aload_n (pc := 14) 0 dX11_standsOn_14 rfl rfl ?_
          refine g_get (pc := 15) dX11_standsOn_15 fk_X11_19 hX0 rfl ?_
          refine g_aload_n (pc := 18) 0 dX11_standsOn_18 rfl rfl ?_
          refine g_get (pc := 19) dX11_standsOn_19 fk_X11_69 hX0 rfl ?_
          refine g_iload_n (pc := 22) 1 dX11_standsOn_22 rfl rfl ?_
          obtain ⟨v1, hv1, hq1⟩ := hse0 i hi
          obtain ⟨pb1, pc1, hpo1, -⟩ := id hq1
          have hok1 : okP (sh.1 i) := by obtain ⟨-, -, -, -, -, -, -, h9⟩ := id hq1; exact h9
          refine g_callV (pc := 23) [.int (nI i)] dX11_standsOn_23 cv_X11_111.1 cv_X11_111.2.1 cv_X11_111.2.2.1 cv_X11_111.2.2.2 hsa0 rfl rfl (Nat.le_of_ble_eq_true rfl) (by decide) (by decide) (sp_poly _ (i := i) hsa0 hsb0 hi hv1) ?_
          rintro _ w9 ⟨rfl, e9⟩
          refine GP.weq _ e9 ?_
          refine g_iload_n (pc := 26) 2 dX11_standsOn_26 rfl rfl ?_
          refine g_callV (pc := 27) [.ref v1, .int (nI k)] dX11_standsOn_27 cv_X11_270.1 cv_X11_270.2.1 cv_X11_270.2.2.1 cv_X11_270.2.2.2 hL0.1 rfl rfl (Nat.le_of_ble_eq_true rfl) (by decide) (by decide) (bx_climb _ (k := k) hB hq1 (by omega)) ?_
          rintro _ w1 ⟨T, rfl, hT, hO, hB1, hE1⟩
          have hT6 := hO.1
          refine g_iload_n (pc := 30) 2 dX11_standsOn_30 rfl rfl ?_
          refine n_icmp_ne (pc := 31) 38 dX11_standsOn_31 (by decide) (by omega) (by omega) (fun hc => ?_) (fun hc => ?_)
          · refine g_iconst (pc := 38) (v := nI 0) dX11_standsOn_38 (by decide) ?_
            exact g_iret (pc := 39) dX11_standsOn_39 (Or.inr ⟨rfl, Or.inr ⟨i, k, T, rfl, hi, rfl, hk, hT, by omega⟩, hB1, hE1⟩)
          · refine g_iconst (pc := 34) (v := nI 1) dX11_standsOn_34 (by decide) ?_
            refine g_goto (pc := 35) 39 dX11_standsOn_35 (by decide) ?_
            exact g_iret (pc := 39) dX11_standsOn_39 (Or.inl ⟨rfl, i, k, rfl, hi, rfl, hk, by rw [show T = k by omega] at hT; exact hT, by rw [show T = k by omega] at hO; exact hO, hB1, hE1⟩)
      · refine GP.weq _ e9 ?_
        refine n_if_eq (pc := 11) 38 dX11_standsOn_11 (by decide) (by omega) (fun hzk => ?_) (fun hzk => ?_)
        · refine g_iconst (pc := 38) (v := nI 0) dX11_standsOn_38 (by decide) ?_
          exact g_iret (pc := 39) dX11_standsOn_39 (Or.inr ⟨rfl, Or.inl (fun h9 => hpk h9.2), hB, EX.rf⟩)
        · exact absurd rfl hzk
  · refine GP.weq _ e9 ?_
    refine n_if_eq (pc := 4) 38 dX11_standsOn_4 (by decide) (by omega) (fun hzi => ?_) (fun hzi => ?_)
    · refine g_iconst (pc := 38) (v := nI 0) dX11_standsOn_38 (by decide) ?_
      exact g_iret (pc := 39) dX11_standsOn_39 (Or.inr ⟨rfl, Or.inl (fun h9 => hpi h9.1), hB, EX.rf⟩)
    · exact absurd rfl hzi
abbrev BX11_low (w0 : Wd) (Post : Option Value → Wd → Prop) (w : Wd) (pc : Nat) (ls : List (Nat × Value)) (st : List Value) : Prop := GP "low" RX11 cX11_low 3 (some .int) 6 234 none w0 Post w pc ls st
abbrev EX11_low (As : List Value) (w : Wd) (Post : Option Value → Wd → Prop) : Prop := EP yX11_low cX11_low 3 (some .int) 6 As w Post
theorem sp_low (w : Wd) {X tl : Nat} {tb : Nat → Int32} {fa st : Int32} {rf : Nat → Nat} {sh : SV} {pn : Nat} {pk : Nat → Nat} {ps : Nat → SV} {im : Nat → Option SV} (hB : bxC w X tl tb fa st rf sh pn pk ps im) {x y : Int32} : EX11_low [.ref X, .int x, .int y] w (fun r w' => (noLv sh x y ∧ r = some (.int (-1)) ∧ bxC w' X tl tb fa st rf sh pn pk ps im ∧ EX (boxS X) 0 0 w w') ∨ (∃ i k t, x = nI i ∧ i < 8 ∧ y = nI k ∧ k < 7 ∧ topL (sh.1 i).2 (sh.1 i).1 k k ∧ lowF (sh.1 i).2 (sh.1 i).1 k t ∧ t ≤ 268435455 ∧ r = some (.int (nI t)) ∧ bxC w' X tl tb fa st rf sh pn pk ps im ∧ EX (boxS X) 0 0 w w')) := by
  refine EP.of (plainFor_of_name (by decide)) [(0, .ref X), (1, .int x), (2, .int y)] rfl (Nat.le_of_ble_eq_true rfl) (fun r wf h => by rcases h with ⟨-, rfl, -⟩ | ⟨i, k, t, -, -, -, -, -, -, -, rfl, -⟩ <;> trivial) ?_
  show BX11_low w _ w 0 [(0, .ref X), (1, .int x), (2, .int y)] []
  obtain ⟨⟨s0, hX0, hs0⟩, -, hW0, -⟩ := id hB
  obtain ⟨sp0, sf0, sh0, hsa0, hsb0, hsc0, hsd0, hse0, hsf0⟩ := id hs0
  obtain ⟨bb0, bl0, hG0⟩ := hW0.2.1
  obtain ⟨nL0, tL0, RL0, hL0⟩ := hW0.1
  obtain ⟨tc0, mc0, lc0, hC0, -⟩ := id hW0.2.2.1
  refine g_aload_n (pc := 0) 0 dX11_low_0 rfl rfl ?_
  refine g_iload_n (pc := 1) 1 dX11_low_1 rfl rfl ?_
  refine g_iload_n (pc := 2) 2 dX11_low_2 rfl rfl ?_
  refine g_callV (pc := 3) [.int x, .int y] dX11_low_3 cv_X11_274.1 cv_X11_274.2.1 cv_X11_274.2.2.1 cv_X11_274.2.2.2 hX0 rfl rfl (Nat.le_of_ble_eq_true rfl) (by decide) (by decide) (sp_standsOn _ (x := x) (y := y) hB) ?_
  rintro _ w9 (⟨rfl, i, k, rfl, hi, rfl, hk, hT, hO, hB1, hE1⟩ | ⟨rfl, hno, hB1, hE1⟩)
  · skip
    obtain ⟨⟨s1, hX1, hs1⟩, -, hW1, -⟩ := id hB1
    obtain ⟨sp1, sf1, sh1, hsa1, hsb1, hsc1, hsd1, hse1, hsf1⟩ := id hs1
    obtain ⟨bb1, bl1, hG1⟩ := hW1.2.1
    obtain ⟨nL1, tL1, RL1, hL1⟩ := hW1.1
    obtain ⟨tc1, mc1, lc1, hC1, -⟩ := id hW1.2.2.1
    have hok1 : okP (sh.1 i) := by obtain ⟨v9, -, b9, c9, -, -, -, -, -, h9⟩ := hse1 i hi; exact h9
    refine n_if_eq (pc := 6) 24 dX11_low_6 (by decide) (by omega) (fun hz => ?_) (fun hz => ?_)
    · exact absurd hz (by decide)
    · refine g_aload_n (pc := 9) 0 dX11_low_9 rfl rfl ?_
      refine g_get (pc := 10) dX11_low_10 fk_X11_26 hX1 rfl ?_
      refine g_aload_n (pc := 13) 0 dX11_low_13 rfl rfl ?_
      refine g_get (pc := 14) dX11_low_14 fk_X11_19 hX1 rfl ?_
      refine g_iload_n (pc := 17) 2 dX11_low_17 rfl rfl ?_
      refine g_callV (pc := 18) [.ref (X + 3), .int (nI k)] dX11_low_18 cv_X11_287.1 cv_X11_287.2.1 cv_X11_287.2.2.1 cv_X11_287.2.2.2 hG1.1 rfl rfl (Nat.le_of_ble_eq_true rfl) (by decide) (by decide) (bx_low _ (k := k) hB1 hO hok1 (Nat.le_refl _)) ?_
      rintro _ w2 ⟨t, rfl, ht, hl, hO2, hB2, hE2⟩
      refine g_goto (pc := 21) 25 dX11_low_21 (by decide) ?_
      exact g_iret (pc := 25) dX11_low_25 (Or.inr ⟨i, k, t, rfl, hi, rfl, hk, hT, hl, ht, rfl, hB2, (hE1.tr hE2).le (by omega) (by omega)⟩)
  · skip
    refine n_if_eq (pc := 6) 24 dX11_low_6 (by decide) (by omega) (fun hz => ?_) (fun hz => ?_)
    · refine g_iconst (pc := 24) (v := -1) dX11_low_24 (by decide) ?_
      exact g_iret (pc := 25) dX11_low_25 (Or.inl ⟨hno, rfl, hB1, hE1⟩)
    · exact absurd rfl hz
abbrev BX11_high (w0 : Wd) (Post : Option Value → Wd → Prop) (w : Wd) (pc : Nat) (ls : List (Nat × Value)) (st : List Value) : Prop := GP "high" RX11 cX11_high 3 (some .int) 6 234 none w0 Post w pc ls st
abbrev EX11_high (As : List Value) (w : Wd) (Post : Option Value → Wd → Prop) : Prop := EP yX11_high cX11_high 3 (some .int) 6 As w Post
theorem sp_high (w : Wd) {X tl : Nat} {tb : Nat → Int32} {fa st : Int32} {rf : Nat → Nat} {sh : SV} {pn : Nat} {pk : Nat → Nat} {ps : Nat → SV} {im : Nat → Option SV} (hB : bxC w X tl tb fa st rf sh pn pk ps im) {x y : Int32} : EX11_high [.ref X, .int x, .int y] w (fun r w' => (noLv sh x y ∧ r = some (.int (-1)) ∧ bxC w' X tl tb fa st rf sh pn pk ps im ∧ EX (boxS X) 0 0 w w') ∨ (∃ i k t, x = nI i ∧ i < 8 ∧ y = nI k ∧ k < 7 ∧ topL (sh.1 i).2 (sh.1 i).1 k k ∧ highF (sh.1 i).2 (sh.1 i).1 k t ∧ t ≤ 268435456 ∧ r = some (.int (nI t)) ∧ bxC w' X tl tb fa st rf sh pn pk ps im ∧ EX (boxS X) 0 0 w w')) := by
  refine EP.of (plainFor_of_name (by decide)) [(0, .ref X), (1, .int x), (2, .int y)] rfl (Nat.le_of_ble_eq_true rfl) (fun r wf h => by rcases h with ⟨-, rfl, -⟩ | ⟨i, k, t, -, -, -, -, -, -, -, rfl, -⟩ <;> trivial) ?_
  show BX11_high w _ w 0 [(0, .ref X), (1, .int x), (2, .int y)] []
  obtain ⟨⟨s0, hX0, hs0⟩, -, hW0, -⟩ := id hB
  obtain ⟨sp0, sf0, sh0, hsa0, hsb0, hsc0, hsd0, hse0, hsf0⟩ := id hs0
  obtain ⟨bb0, bl0, hG0⟩ := hW0.2.1
  obtain ⟨nL0, tL0, RL0, hL0⟩ := hW0.1
  obtain ⟨tc0, mc0, lc0, hC0, -⟩ := id hW0.2.2.1
  refine g_aload_n (pc := 0) 0 dX11_high_0 rfl rfl ?_
  refine g_iload_n (pc := 1) 1 dX11_high_1 rfl rfl ?_
  refine g_iload_n (pc := 2) 2 dX11_high_2 rfl rfl ?_
  refine g_callV (pc := 3) [.int x, .int y] dX11_high_3 cv_X11_274.1 cv_X11_274.2.1 cv_X11_274.2.2.1 cv_X11_274.2.2.2 hX0 rfl rfl (Nat.le_of_ble_eq_true rfl) (by decide) (by decide) (sp_standsOn _ (x := x) (y := y) hB) ?_
  rintro _ w9 (⟨rfl, i, k, rfl, hi, rfl, hk, hT, hO, hB1, hE1⟩ | ⟨rfl, hno, hB1, hE1⟩)
  · skip
    obtain ⟨⟨s1, hX1, hs1⟩, -, hW1, -⟩ := id hB1
    obtain ⟨sp1, sf1, sh1, hsa1, hsb1, hsc1, hsd1, hse1, hsf1⟩ := id hs1
    obtain ⟨bb1, bl1, hG1⟩ := hW1.2.1
    obtain ⟨nL1, tL1, RL1, hL1⟩ := hW1.1
    obtain ⟨tc1, mc1, lc1, hC1, -⟩ := id hW1.2.2.1
    have hok1 : okP (sh.1 i) := by obtain ⟨v9, -, b9, c9, -, -, -, -, -, h9⟩ := hse1 i hi; exact h9
    refine n_if_eq (pc := 6) 24 dX11_high_6 (by decide) (by omega) (fun hz => ?_) (fun hz => ?_)
    · exact absurd hz (by decide)
    · refine g_aload_n (pc := 9) 0 dX11_high_9 rfl rfl ?_
      refine g_get (pc := 10) dX11_high_10 fk_X11_26 hX1 rfl ?_
      refine g_aload_n (pc := 13) 0 dX11_high_13 rfl rfl ?_
      refine g_get (pc := 14) dX11_high_14 fk_X11_19 hX1 rfl ?_
      refine g_iload_n (pc := 17) 2 dX11_high_17 rfl rfl ?_
      refine g_callV (pc := 18) [.ref (X + 3), .int (nI k)] dX11_high_18 cv_X11_291.1 cv_X11_291.2.1 cv_X11_291.2.2.1 cv_X11_291.2.2.2 hG1.1 rfl rfl (Nat.le_of_ble_eq_true rfl) (by decide) (by decide) (bx_high _ (k := k) hB1 hO hok1 (Nat.le_refl _)) ?_
      rintro _ w2 ⟨t, rfl, ht, hl, hO2, hB2, hE2⟩
      refine g_goto (pc := 21) 25 dX11_high_21 (by decide) ?_
      exact g_iret (pc := 25) dX11_high_25 (Or.inr ⟨i, k, t, rfl, hi, rfl, hk, hT, hl, ht, rfl, hB2, (hE1.tr hE2).le (by omega) (by omega)⟩)
  · skip
    refine n_if_eq (pc := 6) 24 dX11_high_6 (by decide) (by omega) (fun hz => ?_) (fun hz => ?_)
    · refine g_iconst (pc := 24) (v := -1) dX11_high_24 (by decide) ?_
      exact g_iret (pc := 25) dX11_high_25 (Or.inl ⟨hno, rfl, hB1, hE1⟩)
    · exact absurd rfl hz
abbrev BX11_level (w0 : Wd) (Post : Option Value → Wd → Prop) (w : Wd) (pc : Nat) (ls : List (Nat × Value)) (st : List Value) : Prop := GP "level" RX11 cX11_level 4 (some .long) 6 234 none w0 Post w pc ls st
abbrev EX11_level (As : List Value) (w : Wd) (Post : Option Value → Wd → Prop) : Prop := EP yX11_level cX11_level 4 (some .long) 6 As w Post
theorem sp_level (w : Wd) {X tl : Nat} {tb : Nat → Int32} {fa st : Int32} {rf : Nat → Nat} {sh : SV} {pn : Nat} {pk : Nat → Nat} {ps : Nat → SV} {im : Nat → Option SV} (hB : bxC w X tl tb fa st rf sh pn pk ps im) {x y z : Int32} : EX11_level [.ref X, .int x, .int y, .int z] w (fun r w' => ((¬ (0 ≤ z.toInt ∧ z.toInt ≤ 12) ∨ noLv sh x y) ∧ r = some (.long (-9223372036854775808)) ∧ bxC w' X tl tb fa st rf sh pn pk ps im ∧ EX (boxS X) 0 0 w w') ∨ (∃ i k j v, x = nI i ∧ i < 8 ∧ y = nI k ∧ k < 7 ∧ z = nI j ∧ j ≤ 12 ∧ topL (sh.1 i).2 (sh.1 i).1 k k ∧ r = some (.long v) ∧ v.toInt = (if j ≤ (sh.1 i).1 then lvs (sh.1 i).2 (sh.1 i).1 k j else 0) ∧ bxC w' X tl tb fa st rf sh pn pk ps im ∧ EX (boxS X) 0 0 w w')) := by
  refine EP.of (plainFor_of_name (by decide)) [(0, .ref X), (1, .int x), (2, .int y), (3, .int z)] rfl (Nat.le_of_ble_eq_true rfl) (fun r wf h => by rcases h with ⟨-, rfl, -⟩ | ⟨i, k, j, v, -, -, -, -, -, -, -, rfl, -⟩ <;> trivial) ?_
  show BX11_level w _ w 0 [(0, .ref X), (1, .int x), (2, .int y), (3, .int z)] []
  obtain ⟨⟨s0, hX0, hs0⟩, -, hW0, -⟩ := id hB
  obtain ⟨sp0, sf0, sh0, hsa0, hsb0, hsc0, hsd0, hse0, hsf0⟩ := id hs0
  obtain ⟨bb0, bl0, hG0⟩ := hW0.2.1
  obtain ⟨nL0, tL0, RL0, hL0⟩ := hW0.1
  obtain ⟨tc0, mc0, lc0, hC0, -⟩ := id hW0.2.2.1
  refine g_iload_n (pc := 0) 3 dX11_level_0 rfl rfl ?_
  refine g_callS (pc := 1) [.int z] dX11_level_1 cs_X11_235.1 cs_X11_235.2 rfl rfl (Nat.le_of_ble_eq_true rfl) (by decide) (by decide) (sp_isPower _ (x := z)) ?_
  rintro _ w9 (⟨rfl, hpj, e9⟩ | ⟨rfl, hpj, e9⟩)
  · refine GP.weq _ e9 ?_
    refine n_if_eq (pc := 4) 16 dX11_level_4 (by decide) (by omega) (fun hzj => ?_) (fun hzj => ?_)
    · exact absurd hzj (by decide)
    · obtain ⟨j, hje, hj⟩ : ∃ j : Nat, z = nI j ∧ j < 13 := ⟨z.toInt.toNat, nI_toNat (by omega), by omega⟩
      subst hje
      refine g_aload_n (pc := 7) 0 dX11_level_7 rfl rfl ?_
      refine g_iload_n (pc := 8) 1 dX11_level_8 rfl rfl ?_
      refine g_iload_n (pc := 9) 2 dX11_level_9 rfl rfl ?_
      refine g_callV (pc := 10) [.int x, .int y] dX11_level_10 cv_X11_274.1 cv_X11_274.2.1 cv_X11_274.2.2.1 cv_X11_274.2.2.2 hX0 rfl rfl (Nat.le_of_ble_eq_true rfl) (by decide) (by decide) (sp_standsOn _ (x := x) (y := y) hB) ?_
      rintro _ w9 (⟨rfl, i, k, rfl, hi, rfl, hk, hT, hO, hB1, hE1⟩ | ⟨rfl, hno, hB1, hE1⟩)
      · skip
        obtain ⟨⟨s1, hX1, hs1⟩, -, hW1, -⟩ := id hB1
        obtain ⟨sp1, sf1, sh1, hsa1, hsb1, hsc1, hsd1, hse1, hsf1⟩ := id hs1
        obtain ⟨bb1, bl1, hG1⟩ := hW1.2.1
        obtain ⟨nL1, tL1, RL1, hL1⟩ := hW1.1
        obtain ⟨tc1, mc1, lc1, hC1, -⟩ := id hW1.2.2.1
        have hok1 : okP (sh.1 i) := by obtain ⟨v9, -, b9, c9, -, -, -, -, -, h9⟩ := hse1 i hi; exact h9
        obtain ⟨h6, R, hlv, hLd⟩ := hO
        obtain ⟨hlo, ⟨rfn, hOO, hrf⟩, hrows⟩ := id hLd
        have hrk := hrows k (by omega)
        have hn12 := hok1.1
        refine n_if_ne (pc := 13) 20 dX11_level_13 (by decide) (by omega) (fun hz => ?_) (fun hz => ?_)
        · refine g_iload_n (pc := 20) 3 dX11_level_20 rfl rfl ?_
          refine g_aload_n (pc := 21) 0 dX11_level_21 rfl rfl ?_
          refine g_get (pc := 22) dX11_level_22 fk_X11_19 hX1 rfl ?_
          refine g_get (pc := 25) dX11_level_25 fk_X11_282 hlo rfl ?_
          refine n_icmp_gt (pc := 28) 45 dX11_level_28 (by decide) (by omega) (by omega) (fun hc => ?_) (fun hc => ?_)
          · refine g_lconst (pc := 45) (v := 0) dX11_level_45 (by decide) ?_
            exact g_lret (pc := 46) dX11_level_46 (Or.inr ⟨i, k, j, 0, rfl, hi, rfl, hk, rfl, by omega, hT, rfl, by rw [if_neg (by omega)]; decide, hB1, hE1⟩)
          · refine g_aload_n (pc := 31) 0 dX11_level_31 rfl rfl ?_
            refine g_get (pc := 32) dX11_level_32 fk_X11_19 hX1 rfl ?_
            refine g_get (pc := 35) dX11_level_35 fk_X11_283 hlo rfl ?_
            refine g_iload_n (pc := 38) 2 dX11_level_38 rfl rfl ?_
            refine g_aald (pc := 39) (v := .ref (X + 4 + 1 + k)) k dX11_level_39 hOO (by decide) (IXn (by omega) (by omega)) (by rw [hrf k (by omega)]; rfl) ?_
            refine g_iload_n (pc := 40) 3 dX11_level_40 rfl rfl ?_
            refine g_lald (pc := 41) j dX11_level_41 hrk (IXn (by omega) (by omega)) ?_
            refine g_goto (pc := 42) 46 dX11_level_42 (by decide) ?_
            exact g_lret (pc := 46) dX11_level_46 (Or.inr ⟨i, k, j, R k j, rfl, hi, rfl, hk, rfl, by omega, hT, rfl, by rw [if_pos (by omega)]; exact hlv k (Nat.le_refl _) j (by omega), hB1, hE1⟩)
        · exact absurd hz (by decide)
      · skip
        refine n_if_ne (pc := 13) 20 dX11_level_13 (by decide) (by omega) (fun hz => ?_) (fun hz => ?_)
        · exact absurd rfl hz
        · refine g_ldc2 (pc := 16) kc_X11_280 dX11_level_16 ?_
          exact g_lret (pc := 19) dX11_level_19 (Or.inl ⟨Or.inr hno, rfl, hB1, hE1⟩)
  · refine GP.weq _ e9 ?_
    refine n_if_eq (pc := 4) 16 dX11_level_4 (by decide) (by omega) (fun hzj => ?_) (fun hzj => ?_)
    · refine g_ldc2 (pc := 16) kc_X11_280 dX11_level_16 ?_
      exact g_lret (pc := 19) dX11_level_19 (Or.inl ⟨Or.inl hpj, rfl, hB, EX.rf⟩)
    · exact absurd rfl hzj
abbrev BX11_surely (w0 : Wd) (Post : Option Value → Wd → Prop) (w : Wd) (pc : Nat) (ls : List (Nat × Value)) (st : List Value) : Prop := GP "surely" RX11 cX11_surely 5 (some .int) 6 234 none w0 Post w pc ls st
abbrev EX11_surely (As : List Value) (w : Wd) (Post : Option Value → Wd → Prop) : Prop := EP yX11_surely cX11_surely 5 (some .int) 6 As w Post
theorem sp_surely (w : Wd) {X tl : Nat} {tb : Nat → Int32} {fa st : Int32} {rf : Nat → Nat} {sh : SV} {pn : Nat} {pk : Nat → Nat} {ps : Nat → SV} {im : Nat → Option SV} (hB : bxC w X tl tb fa st rf sh pn pk ps im) {x y z : Int32} : EX11_surely [.ref X, .int x, .int y, .int z] w (fun r w' => (¬ (isPl x ∧ isLv y ∧ 0 ≤ z.toInt ∧ z.toInt ≤ 99999999) ∧ r = some (.int (-2)) ∧ bxC w' X tl tb fa st rf sh pn pk ps im ∧ EX (boxS X) 0 0 w w') ∨ (∃ i k T t u v, x = nI i ∧ i < 8 ∧ y = nI k ∧ k < 7 ∧ (0 ≤ z.toInt ∧ z.toInt ≤ 99999999) ∧ topL (sh.1 i).2 (sh.1 i).1 k T ∧ highF (sh.1 i).2 (sh.1 i).1 T t ∧ lowF (sh.1 i).2 (sh.1 i).1 T u ∧ r = some (.int v) ∧ (((t : Int) ≤ z.toInt ∧ v = nI 1) ∨ (¬ (t : Int) ≤ z.toInt ∧ z.toInt < u ∧ v = nI 0) ∨ (¬ (t : Int) ≤ z.toInt ∧ ¬ z.toInt < u ∧ v = -1)) ∧ bxC w' X tl tb fa st rf sh pn pk ps im ∧ EX (boxS X) 0 0 w w')) := by
  refine EP.of (plainFor_of_name (by decide)) [(0, .ref X), (1, .int x), (2, .int y), (3, .int z)] rfl (Nat.le_of_ble_eq_true rfl) (fun r wf h => by rcases h with ⟨-, rfl, -⟩ | ⟨i, k, T, t, u, v, -, -, -, -, -, -, -, -, rfl, -⟩ <;> trivial) ?_
  show BX11_surely w _ w 0 [(0, .ref X), (1, .int x), (2, .int y), (3, .int z)] []
  obtain ⟨⟨s0, hX0, hs0⟩, -, hW0, -⟩ := id hB
  obtain ⟨sp0, sf0, sh0, hsa0, hsb0, hsc0, hsd0, hse0, hsf0⟩ := id hs0
  obtain ⟨bb0, bl0, hG0⟩ := hW0.2.1
  obtain ⟨nL0, tL0, RL0, hL0⟩ := hW0.1
  obtain ⟨tc0, mc0, lc0, hC0, -⟩ := id hW0.2.2.1
  have z0 : (0 : Int32).toInt = 0 := by decide
  have z9 : (nI 99999999).toInt = 99999999 := by decide
  refine g_iload_n (pc := 0) 1 dX11_surely_0 rfl rfl ?_
  refine g_callS (pc := 1) [.int x] dX11_surely_1 cs_X11_95.1 cs_X11_95.2 rfl rfl (Nat.le_of_ble_eq_true rfl) (by decide) (by decide) (sp_isPlace _ (x := x)) ?_
  rintro _ w9 (⟨rfl, hpi, e9⟩ | ⟨rfl, hpi, e9⟩)
  · refine GP.weq _ e9 ?_
    refine n_if_eq (pc := 4) 25 dX11_surely_4 (by decide) (by omega) (fun hzi => ?_) (fun hzi => ?_)
    · exact absurd hzi (by decide)
    · obtain ⟨i, hie, hi⟩ : ∃ i : Nat, x = nI i ∧ i < 8 := ⟨x.toInt.toNat, nI_toNat (by omega), by omega⟩
      subst hie
      refine g_iload_n (pc := 7) 2 dX11_surely_7 rfl rfl ?_
      refine g_callS (pc := 8) [.int y] dX11_surely_8 cs_X11_168.1 cs_X11_168.2 rfl rfl (Nat.le_of_ble_eq_true rfl) (by decide) (by decide) (sp_isLevel _ (x := y)) ?_
      rintro _ w9 (⟨rfl, hpk, e9⟩ | ⟨rfl, hpk, e9⟩)
      · refine GP.weq _ e9 ?_
        refine n_if_eq (pc := 11) 25 dX11_surely_11 (by decide) (by omega) (fun hzk => ?_) (fun hzk => ?_)
        · exact absurd hzk (by decide)
        · obtain ⟨k, hke, hk⟩ : ∃ k : Nat, y = nI k ∧ k < 7 := ⟨y.toInt.toNat, nI_toNat (by omega), by omega⟩
          subst hke
          refine g_iload_n (pc := 14) 3 dX11_surely_14 rfl rfl ?_
          refine g_if_lt (pc := 15) 25 dX11_surely_15 (by decide) (fun h1 => ?_) (fun h1 => ?_)
          · rw [Int32.lt_iff_toInt_lt, z0] at h1
            refine g_bipush (pc := 25) (v := -2) dX11_surely_25 (by decide) ?_
            exact g_iret (pc := 27) dX11_surely_27 (Or.inl ⟨fun h9 => by have := h9.2.2.1; omega, rfl, hB, EX.rf⟩)
          · rw [Int32.lt_iff_toInt_lt, z0] at h1
            refine g_iload_n (pc := 18) 3 dX11_surely_18 rfl rfl ?_
            refine g_ldcw (pc := 19) kc_X11_317 dX11_surely_19 ?_
            refine GP.ti (nI 99999999) (by decide) ?_
            refine g_icmp_le (pc := 22) 28 dX11_surely_22 (by decide) (fun h2 => ?_) (fun h2 => ?_)
            · rw [Int32.le_iff_toInt_le, z9] at h2
              have hzp : 0 ≤ z.toInt ∧ z.toInt ≤ 99999999 := ⟨by omega, h2⟩
              refine g_aload_n (pc := 28) 0 dX11_surely_28 rfl rfl ?_
              refine g_get (pc := 29) dX11_surely_29 fk_X11_19 hX0 rfl ?_
              refine g_aload_n (pc := 32) 0 dX11_surely_32 rfl rfl ?_
              refine g_get (pc := 33) dX11_surely_33 fk_X11_69 hX0 rfl ?_
              refine g_iload_n (pc := 36) 1 dX11_surely_36 rfl rfl ?_
              obtain ⟨v1, hv1, hq1⟩ := hse0 i hi
              obtain ⟨pb1, pc1, hpo1, -⟩ := id hq1
              have hok1 : okP (sh.1 i) := by obtain ⟨-, -, -, -, -, -, -, h9⟩ := id hq1; exact h9
              refine g_callV (pc := 37) [.int (nI i)] dX11_surely_37 cv_X11_111.1 cv_X11_111.2.1 cv_X11_111.2.2.1 cv_X11_111.2.2.2 hsa0 rfl rfl (Nat.le_of_ble_eq_true rfl) (by decide) (by decide) (sp_poly _ (i := i) hsa0 hsb0 hi hv1) ?_
              rintro _ w9 ⟨rfl, e9⟩
              refine GP.weq _ e9 ?_
              refine g_iload_n (pc := 40) 2 dX11_surely_40 rfl rfl ?_
              refine g_callV (pc := 41) [.ref v1, .int (nI k)] dX11_surely_41 cv_X11_270.1 cv_X11_270.2.1 cv_X11_270.2.2.1 cv_X11_270.2.2.2 hL0.1 rfl rfl (Nat.le_of_ble_eq_true rfl) (by decide) (by decide) (bx_climb _ (k := k) hB hq1 (by omega)) ?_
              rintro _ w1 ⟨T, rfl, hT, hO, hB1, hE1⟩
              have hT6 := hO.1
              obtain ⟨⟨s1, hX1, hs1⟩, -, hW1, -⟩ := id hB1
              obtain ⟨sp1, sf1, sh1, hsa1, hsb1, hsc1, hsd1, hse1, hsf1⟩ := id hs1
              obtain ⟨bb1, bl1, hG1⟩ := hW1.2.1
              obtain ⟨nL1, tL1, RL1, hL1⟩ := hW1.1
              obtain ⟨tc1, mc1, lc1, hC1, -⟩ := id hW1.2.2.1
              refine g_istore (pc := 44) [(4, .int (nI T)), (0, .ref X), (1, .int (nI i)), (2, .int (nI k)), (3, .int z)] dX11_surely_44 (by decide) rfl ?_
              refine g_aload_n (pc := 46) 1 dX11_surely_46 rfl rfl ?_
              refine g_get (pc := 47) dX11_surely_47 fk_X11_26 hX1 rfl ?_
              refine g_aload_n (pc := 50) 1 dX11_surely_50 rfl rfl ?_
              refine g_get (pc := 51) dX11_surely_51 fk_X11_19 hX1 rfl ?_
              refine g_iload (pc := 54) 0 dX11_surely_54 rfl ?_
              refine g_callV (pc := 56) [.ref (X + 3), .int (nI T)] dX11_surely_56 cv_X11_291.1 cv_X11_291.2.1 cv_X11_291.2.2.1 cv_X11_291.2.2.2 hG1.1 rfl rfl (Nat.le_of_ble_eq_true rfl) (by decide) (by decide) (bx_high _ (k := T) hB1 hO hok1 (Nat.le_refl _)) ?_
              rintro _ w2 ⟨t, rfl, ht, hl, hO2, hB2, hE2⟩
              obtain ⟨⟨s2, hX2, hs2⟩, -, hW2, -⟩ := id hB2
              obtain ⟨sp2, sf2, sh2, hsa2, hsb2, hsc2, hsd2, hse2, hsf2⟩ := id hs2
              obtain ⟨bb2, bl2, hG2⟩ := hW2.2.1
              obtain ⟨nL2, tL2, RL2, hL2⟩ := hW2.1
              obtain ⟨tc2, mc2, lc2, hC2, -⟩ := id hW2.2.2.1
              refine g_iload_n (pc := 59) 4 dX11_surely_59 rfl rfl ?_
              refine g_icmp_gt (pc := 60) 65 dX11_surely_60 (by decide) (fun h3 => ?_) (fun h3 => ?_)
              · rw [Int32.lt_iff_toInt_lt, nI_toInt (by omega)] at h3
                refine g_aload_n (pc := 65) 1 dX11_surely_65 rfl rfl ?_
                refine g_get (pc := 66) dX11_surely_66 fk_X11_26 hX2 rfl ?_
                refine g_aload_n (pc := 69) 1 dX11_surely_69 rfl rfl ?_
                refine g_get (pc := 70) dX11_surely_70 fk_X11_19 hX2 rfl ?_
                refine g_iload (pc := 73) 0 dX11_surely_73 rfl ?_
                refine g_callV (pc := 75) [.ref (X + 3), .int (nI T)] dX11_surely_75 cv_X11_287.1 cv_X11_287.2.1 cv_X11_287.2.2.1 cv_X11_287.2.2.2 hG2.1 rfl rfl (Nat.le_of_ble_eq_true rfl) (by decide) (by decide) (bx_low _ (k := T) hB2 hO2 hok1 (Nat.le_refl _)) ?_
                rintro _ w3 ⟨u, rfl, hu, hl3, hO3, hB3, hE3⟩
                refine g_iload_n (pc := 78) 4 dX11_surely_78 rfl rfl ?_
                refine g_icmp_le (pc := 79) 86 dX11_surely_79 (by decide) (fun h4 => ?_) (fun h4 => ?_)
                · rw [Int32.le_iff_toInt_le, nI_toInt (by omega)] at h4
                  refine g_iconst (pc := 86) (v := -1) dX11_surely_86 (by decide) ?_
                  exact g_iret (pc := 87) dX11_surely_87 (Or.inr ⟨i, k, T, t, u, (-1), rfl, hi, rfl, hk, hzp, hT, hl, hl3, rfl, Or.inr (Or.inr ⟨by omega, by omega, rfl⟩), ⟨hB3, ((hE1.tr hE2).tr hE3).le (by omega) (by omega)⟩⟩)
                · rw [Int32.le_iff_toInt_le, nI_toInt (by omega)] at h4
                  refine g_iconst (pc := 82) (v := nI 0) dX11_surely_82 (by decide) ?_
                  refine g_goto (pc := 83) 87 dX11_surely_83 (by decide) ?_
                  exact g_iret (pc := 87) dX11_surely_87 (Or.inr ⟨i, k, T, t, u, (nI 0), rfl, hi, rfl, hk, hzp, hT, hl, hl3, rfl, Or.inr (Or.inl ⟨by omega, by omega, rfl⟩), ⟨hB3, ((hE1.tr hE2).tr hE3).le (by omega) (by omega)⟩⟩)
              · rw [Int32.lt_iff_toInt_lt, nI_toInt (by omega)] at h3
                obtain ⟨r9, w8, ⟨u, -, hu, hl3, -⟩, -⟩ := bx_low _ (k := T) hB2 hO2 hok1 (Nat.le_refl _)
                refine g_iconst (pc := 63) (v := nI 1) dX11_surely_63 (by decide) ?_
                exact g_iret (pc := 64) dX11_surely_64 (Or.inr ⟨i, k, T, t, u, (nI 1), rfl, hi, rfl, hk, hzp, hT, hl, hl3, rfl, Or.inl ⟨by omega, rfl⟩, ⟨hB2, (hE1.tr hE2).le (by omega) (by omega)⟩⟩)
            · rw [Int32.le_iff_toInt_le, z9] at h2
              refine g_bipush (pc := 25) (v := -2) dX11_surely_25 (by decide) ?_
              exact g_iret (pc := 27) dX11_surely_27 (Or.inl ⟨fun h9 => by have := h9.2.2.2; omega, rfl, hB, EX.rf⟩)
      · refine GP.weq _ e9 ?_
        refine n_if_eq (pc := 11) 25 dX11_surely_11 (by decide) (by omega) (fun hzk => ?_) (fun hzk => ?_)
        · refine g_bipush (pc := 25) (v := -2) dX11_surely_25 (by decide) ?_
          exact g_iret (pc := 27) dX11_surely_27 (Or.inl ⟨fun h9 => hpk h9.2.1, rfl, hB, EX.rf⟩)
        · exact absurd rfl hzk
  · refine GP.weq _ e9 ?_
    refine n_if_eq (pc := 4) 25 dX11_surely_4 (by decide) (by omega) (fun hzi => ?_) (fun hzi => ?_)
    · refine g_bipush (pc := 25) (v := -2) dX11_surely_25 (by decide) ?_
      exact g_iret (pc := 27) dX11_surely_27 (Or.inl ⟨fun h9 => hpi h9.1, rfl, hB, EX.rf⟩)
    · exact absurd rfl hzi
