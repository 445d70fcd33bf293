/-! MahlerBox: compare, enclosed, of, found, smallest, count -/
abbrev BX11_compare (w0 : Wd) (Post : Option Value → Wd → Prop) (w : Wd) (pc : Nat) (ls : List (Nat × Value)) (st : List Value) : Prop := GP "compare" RX11 cX11_compare 10 (some .int) 6 234 none w0 Post w pc ls st
abbrev EX11_compare (As : List Value) (w : Wd) (Post : Option Value → Wd → Prop) : Prop := EP yX11_compare cX11_compare 10 (some .int) 6 As w Post
theorem sp_compare (w : Wd) {X tl : Nat} {tb : Nat → Int32} {fa st : Int32} {rf : Nat → Nat} {sh : SV} {pn : Nat} {pk : Nat → Nat} {ps : Nat → SV} {im : Nat → Option SV} (hB : bxC w X tl tb fa st rf sh pn pk ps im) {x y z : Int32} : EX11_compare [.ref X, .int x, .int y, .int z] w (fun r w' => (¬ (isPl x ∧ isPl y ∧ isLv z) ∧ r = some (.int (-2)) ∧ bxC w' X tl tb fa st rf sh pn pk ps im ∧ EX (boxS X) 0 0 w w') ∨ (∃ i j k T S a b c d v, x = nI i ∧ i < 8 ∧ y = nI j ∧ j < 8 ∧ z = nI k ∧ k < 7 ∧ topL (sh.1 i).2 (sh.1 i).1 k T ∧ topL (sh.1 j).2 (sh.1 j).1 k S ∧ lowF (sh.1 i).2 (sh.1 i).1 T a ∧ highF (sh.1 i).2 (sh.1 i).1 T b ∧ lowF (sh.1 j).2 (sh.1 j).1 S c ∧ highF (sh.1 j).2 (sh.1 j).1 S d ∧ r = some (.int v) ∧ ((d < a ∧ v = nI 1) ∨ (¬ d < a ∧ b < c ∧ v = -1) ∨ (¬ d < a ∧ ¬ b < c ∧ v = nI 0)) ∧ bxC w' X tl tb fa st rf sh pn pk ps im ∧ EX (boxS X) 0 0 w w')) := by
  refine EP.of (plainFor_of_name (by decide)) [(0, .ref X), (1, .int x), (2, .int y), (3, .int z)] rfl (Nat.le_of_ble_eq_true rfl) (fun r wf h => by rcases h with ⟨-, rfl, -⟩ | ⟨i, j, k, T, S, a, b, c, d, v, -, -, -, -, -, -, -, -, -, -, -, -, rfl, -⟩ <;> trivial) ?_
  show BX11_compare w _ w 0 [(0, .ref X), (1, .int x), (2, .int y), (3, .int z)] []
  obtain ⟨⟨s0, hX0, hs0⟩, -, hW0, -⟩ := id hB
  obtain ⟨sp0, sf0, sh0, hsa0, hsb0, hsc0, hsd0, hse0, hsf0⟩ := id hs0
  obtain ⟨bb0, bl0, hG0⟩ := hW0.2.1
  obtain ⟨nL0, tL0, RL0, hL0⟩ := hW0.1
  obtain ⟨tc0, mc0, lc0, hC0, -⟩ := id hW0.2.2.1
  refine g_iload_n (pc := 0) 1 dX11_compare_0 rfl rfl ?_
  refine g_callS (pc := 1) [.int x] dX11_compare_1 cs_X11_95.1 cs_X11_95.2 rfl rfl (Nat.le_of_ble_eq_true rfl) (by decide) (by decide) (sp_isPlace _ (x := x)) ?_
  rintro _ w9 (⟨rfl, hpi, e9⟩ | ⟨rfl, hpi, e9⟩)
  · refine GP.weq _ e9 ?_
    refine n_if_eq (pc := 4) 21 dX11_compare_4 (by decide) (by omega) (fun hzi => ?_) (fun hzi => ?_)
    · exact absurd hzi (by decide)
    · obtain ⟨i, hie, hi⟩ : ∃ i : Nat, x = nI i ∧ i < 8 := ⟨x.toInt.toNat, nI_toNat (by omega), by omega⟩
      subst hie
      refine g_iload_n (pc := 7) 2 dX11_compare_7 rfl rfl ?_
      refine g_callS (pc := 8) [.int y] dX11_compare_8 cs_X11_95.1 cs_X11_95.2 rfl rfl (Nat.le_of_ble_eq_true rfl) (by decide) (by decide) (sp_isPlace _ (x := y)) ?_
      rintro _ w9 (⟨rfl, hpj, e9⟩ | ⟨rfl, hpj, e9⟩)
      · refine GP.weq _ e9 ?_
        refine n_if_eq (pc := 11) 21 dX11_compare_11 (by decide) (by omega) (fun hzj => ?_) (fun hzj => ?_)
        · exact absurd hzj (by decide)
        · obtain ⟨j, hje, hj⟩ : ∃ j : Nat, y = nI j ∧ j < 8 := ⟨y.toInt.toNat, nI_toNat (by omega), by omega⟩
          subst hje
          refine g_iload_n (pc := 14) 3 dX11_compare_14 rfl rfl ?_
          refine g_callS (pc := 15) [.int z] dX11_compare_15 cs_X11_168.1 cs_X11_168.2 rfl rfl (Nat.le_of_ble_eq_true rfl) (by decide) (by decide) (sp_isLevel _ (x := z)) ?_
          rintro _ w9 (⟨rfl, hpk, e9⟩ | ⟨rfl, hpk, e9⟩)
          · refine GP.weq _ e9 ?_
            refine n_if_ne (pc := 18) 24 dX11_compare_18 (by decide) (by omega) (fun hzk => ?_) (fun hzk => ?_)
            · obtain ⟨k, hke, hk⟩ : ∃ k : Nat, z = nI k ∧ k < 7 := ⟨z.toInt.toNat, nI_toNat (by omega), by omega⟩
              subst hke
              refine g_aload_n (pc := 24) 0 dX11_compare_24 rfl rfl ?_
              refine g_get (pc := 25) dX11_compare_25 fk_X11_19 hX0 rfl ?_
              refine g_aload_n (pc := 28) 0 dX11_compare_28 rfl rfl ?_
              refine g_get (pc := 29) dX11_compare_29 fk_X11_69 hX0 rfl ?_
              refine g_iload_n (pc := 32) 1 dX11_compare_32 rfl rfl ?_
              obtain ⟨v1, hv1, hq1⟩ := hse0 i hi
              obtain ⟨pb1, pc1, hpo1, -⟩ := id hq1
              have hok1 : okP (sh.1 i) := by obtain ⟨-, -, -, -, -, -, -, h9⟩ := id hq1; exact h9
              refine g_callV (pc := 33) [.int (nI i)] dX11_compare_33 cv_X11_111.1 cv_X11_111.2.1 cv_X11_111.2.2.1 cv_X11_111.2.2.2 hsa0 rfl rfl (Nat.le_of_ble_eq_true rfl) (by decide) (by decide) (sp_poly _ (i := i) hsa0 hsb0 hi hv1) ?_
              rintro _ w9 ⟨rfl, e9⟩
              refine GP.weq _ e9 ?_
              refine g_iload_n (pc := 36) 3 dX11_compare_36 rfl rfl ?_
              refine g_callV (pc := 37) [.ref v1, .int (nI k)] dX11_compare_37 cv_X11_270.1 cv_X11_270.2.1 cv_X11_270.2.2.1 cv_X11_270.2.2.2 hL0.1 rfl rfl (Nat.le_of_ble_eq_true rfl) (by decide) (by decide) (bx_climb _ (k := k) hB hq1 (by omega)) ?_
              rintro _ w1 ⟨T, rfl, hT, hO, hB1, hE1⟩
              have hT6 := hO.1
              obtain ⟨⟨s1, hX1, hs1⟩, -, hW1, -⟩ := id hB1
              obtain ⟨sp1, sf1, sh1, hsa1, hsb1, hsc1, hsd1, hse1, hsf1⟩ := id hs1
              obtain ⟨bb1, bl1, hG1⟩ := hW1.2.1
              obtain ⟨nL1, tL1, RL1, hL1⟩ := hW1.1
              obtain ⟨tc1, mc1, lc1, hC1, -⟩ := id hW1.2.2.1
              refine g_istore (pc := 40) [(4, .int (nI T)), (0, .ref X), (1, .int (nI i)), (2, .int (nI j)), (3, .int (nI k))] dX11_compare_40 (by decide) rfl ?_
              refine g_aload_n (pc := 42) 1 dX11_compare_42 rfl rfl ?_
              refine g_get (pc := 43) dX11_compare_43 fk_X11_26 hX1 rfl ?_
              refine g_aload_n (pc := 46) 1 dX11_compare_46 rfl rfl ?_
              refine g_get (pc := 47) dX11_compare_47 fk_X11_19 hX1 rfl ?_
              refine g_iload (pc := 50) 0 dX11_compare_50 rfl ?_
              refine g_callV (pc := 52) [.ref (X + 3), .int (nI T)] dX11_compare_52 cv_X11_287.1 cv_X11_287.2.1 cv_X11_287.2.2.1 cv_X11_287.2.2.2 hG1.1 rfl rfl (Nat.le_of_ble_eq_true rfl) (by decide) (by decide) (bx_low _ (k := T) hB1 hO hok1 (Nat.le_refl _)) ?_
              rintro _ w2 ⟨a, rfl, ha, hla, hO2, hB2, hE2⟩
              obtain ⟨⟨s2, hX2, hs2⟩, -, hW2, -⟩ := id hB2
              obtain ⟨sp2, sf2, sh2, hsa2, hsb2, hsc2, hsd2, hse2, hsf2⟩ := id hs2
              obtain ⟨bb2, bl2, hG2⟩ := hW2.2.1
              obtain ⟨nL2, tL2, RL2, hL2⟩ := hW2.1
              obtain ⟨tc2, mc2, lc2, hC2, -⟩ := id hW2.2.2.1
              refine g_istore (pc := 55) [(5, .int (nI a)), (4, .int (nI T)), (0, .ref X), (1, .int (nI i)), (2, .int (nI j)), (3, .int (nI k))] dX11_compare_55 (by decide) rfl ?_
              refine g_aload_n (pc := 57) 2 dX11_compare_57 rfl rfl ?_
              refine g_get (pc := 58) dX11_compare_58 fk_X11_26 hX2 rfl ?_
              refine g_aload_n (pc := 61) 2 dX11_compare_61 rfl rfl ?_
              refine g_get (pc := 62) dX11_compare_62 fk_X11_19 hX2 rfl ?_
              refine g_iload (pc := 65) 1 dX11_compare_65 rfl ?_
              refine g_callV (pc := 67) [.ref (X + 3), .int (nI T)] dX11_compare_67 cv_X11_291.1 cv_X11_291.2.1 cv_X11_291.2.2.1 cv_X11_291.2.2.2 hG2.1 rfl rfl (Nat.le_of_ble_eq_true rfl) (by decide) (by decide) (bx_high _ (k := T) hB2 hO2 hok1 (Nat.le_refl _)) ?_
              rintro _ w3 ⟨b, rfl, hb, hhb, hO3, hB3, hE3⟩
              obtain ⟨⟨s3, hX3, hs3⟩, -, hW3, -⟩ := id hB3
              obtain ⟨sp3, sf3, sh3, hsa3, hsb3, hsc3, hsd3, hse3, hsf3⟩ := id hs3
              obtain ⟨bb3, bl3, hG3⟩ := hW3.2.1
              obtain ⟨nL3, tL3, RL3, hL3⟩ := hW3.1
              obtain ⟨tc3, mc3, lc3, hC3, -⟩ := id hW3.2.2.1
              refine g_istore (pc := 70) [(6, .int (nI b)), (5, .int (nI a)), (4, .int (nI T)), (0, .ref X), (1, .int (nI i)), (2, .int (nI j)), (3, .int (nI k))] dX11_compare_70 (by decide) rfl ?_
              refine g_aload_n (pc := 72) 3 dX11_compare_72 rfl rfl ?_
              refine g_get (pc := 73) dX11_compare_73 fk_X11_19 hX3 rfl ?_
              refine g_aload_n (pc := 76) 3 dX11_compare_76 rfl rfl ?_
              refine g_get (pc := 77) dX11_compare_77 fk_X11_69 hX3 rfl ?_
              refine g_iload_n (pc := 80) 5 dX11_compare_80 rfl rfl ?_
              obtain ⟨v2, hv2, hq2⟩ := hse3 j hj
              obtain ⟨pb2, pc2, hpo2, -⟩ := id hq2
              have hok2 : okP (sh.1 j) := by obtain ⟨-, -, -, -, -, -, -, h9⟩ := id hq2; exact h9
              refine g_callV (pc := 81) [.int (nI j)] dX11_compare_81 cv_X11_111.1 cv_X11_111.2.1 cv_X11_111.2.2.1 cv_X11_111.2.2.2 hsa3 rfl rfl (Nat.le_of_ble_eq_true rfl) (by decide) (by decide) (sp_poly _ (i := j) hsa3 hsb3 hj hv2) ?_
              rintro _ w9 ⟨rfl, e9⟩
              refine GP.weq _ e9 ?_
              refine g_iload_n (pc := 84) 6 dX11_compare_84 rfl rfl ?_
              refine g_callV (pc := 85) [.ref v2, .int (nI k)] dX11_compare_85 cv_X11_270.1 cv_X11_270.2.1 cv_X11_270.2.2.1 cv_X11_270.2.2.2 hL3.1 rfl rfl (Nat.le_of_ble_eq_true rfl) (by decide) (by decide) (bx_climb _ (k := k) hB3 hq2 (by omega)) ?_
              rintro _ w4 ⟨S, rfl, hS, hO4, hB4, hE4⟩
              have hS6 := hO4.1
              obtain ⟨⟨s4, hX4, hs4⟩, -, hW4, -⟩ := id hB4
              obtain ⟨sp4, sf4, sh4, hsa4, hsb4, hsc4, hsd4, hse4, hsf4⟩ := id hs4
              obtain ⟨bb4, bl4, hG4⟩ := hW4.2.1
              obtain ⟨nL4, tL4, RL4, hL4⟩ := hW4.1
              obtain ⟨tc4, mc4, lc4, hC4, -⟩ := id hW4.2.2.1
              refine g_istore (pc := 88) [(7, .int (nI S)), (6, .int (nI b)), (5, .int (nI a)), (4, .int (nI T)), (0, .ref X), (1, .int (nI i)), (2, .int (nI j)), (3, .int (nI k))] dX11_compare_88 (by decide) rfl ?_
              refine g_aload_n (pc := 90) 4 dX11_compare_90 rfl rfl ?_
              refine g_get (pc := 91) dX11_compare_91 fk_X11_26 hX4 rfl ?_
              refine g_aload_n (pc := 94) 4 dX11_compare_94 rfl rfl ?_
              refine g_get (pc := 95) dX11_compare_95 fk_X11_19 hX4 rfl ?_
              refine g_iload (pc := 98) 0 dX11_compare_98 rfl ?_
              refine g_callV (pc := 100) [.ref (X + 3), .int (nI S)] dX11_compare_100 cv_X11_287.1 cv_X11_287.2.1 cv_X11_287.2.2.1 cv_X11_287.2.2.2 hG4.1 rfl rfl (Nat.le_of_ble_eq_true rfl) (by decide) (by decide) (bx_low _ (k := S) hB4 hO4 hok2 (Nat.le_refl _)) ?_
              rintro _ w5 ⟨c, rfl, hc, hlc, hO5, hB5, hE5⟩
              obtain ⟨⟨s5, hX5, hs5⟩, -, hW5, -⟩ := id hB5
              obtain ⟨sp5, sf5, sh5, hsa5, hsb5, hsc5, hsd5, hse5, hsf5⟩ := id hs5
              obtain ⟨bb5, bl5, hG5⟩ := hW5.2.1
              obtain ⟨nL5, tL5, RL5, hL5⟩ := hW5.1
              obtain ⟨tc5, mc5, lc5, hC5, -⟩ := id hW5.2.2.1
              refine g_istore (pc := 103) [(8, .int (nI c)), (7, .int (nI S)), (6, .int (nI b)), (5, .int (nI a)), (4, .int (nI T)), (0, .ref X), (1, .int (nI i)), (2, .int (nI j)), (3, .int (nI k))] dX11_compare_103 (by decide) rfl ?_
              refine g_aload_n (pc := 105) 5 dX11_compare_105 rfl rfl ?_
              refine g_get (pc := 106) dX11_compare_106 fk_X11_26 hX5 rfl ?_
              refine g_aload_n (pc := 109) 5 dX11_compare_109 rfl rfl ?_
              refine g_get (pc := 110) dX11_compare_110 fk_X11_19 hX5 rfl ?_
              refine g_iload (pc := 113) 1 dX11_compare_113 rfl ?_
              refine g_callV (pc := 115) [.ref (X + 3), .int (nI S)] dX11_compare_115 cv_X11_291.1 cv_X11_291.2.1 cv_X11_291.2.2.1 cv_X11_291.2.2.2 hG5.1 rfl rfl (Nat.le_of_ble_eq_true rfl) (by decide) (by decide) (bx_high _ (k := S) hB5 hO5 hok2 (Nat.le_refl _)) ?_
              rintro _ w6 ⟨d, rfl, hd, hhd, hO6, hB6, hE6⟩
              have hEE := (((((hE1.tr hE2).tr hE3).tr hE4).tr hE5).tr hE6).le (Nat.le_refl 0) (Nat.le_refl 0)
              refine g_istore (pc := 118) [(9, .int (nI d)), (8, .int (nI c)), (7, .int (nI S)), (6, .int (nI b)), (5, .int (nI a)), (4, .int (nI T)), (0, .ref X), (1, .int (nI i)), (2, .int (nI j)), (3, .int (nI k))] dX11_compare_118 (by decide) rfl ?_
              refine g_iload (pc := 120) 4 dX11_compare_120 rfl ?_
              refine g_iload (pc := 122) 0 dX11_compare_122 rfl ?_
              refine n_icmp_le (pc := 124) 129 dX11_compare_124 (by decide) (by omega) (by omega) (fun h1 => ?_) (fun h1 => ?_)
              · refine g_iload (pc := 129) 1 dX11_compare_129 rfl ?_
                refine g_iload (pc := 131) 3 dX11_compare_131 rfl ?_
                refine n_icmp_le (pc := 133) 140 dX11_compare_133 (by decide) (by omega) (by omega) (fun h2 => ?_) (fun h2 => ?_)
                · refine g_iconst (pc := 140) (v := nI 0) dX11_compare_140 (by decide) ?_
                  exact g_iret (pc := 141) dX11_compare_141 (Or.inr ⟨i, j, k, T, S, a, b, c, d, (nI 0), rfl, hi, rfl, hj, rfl, hk, hT, hS, hla, hhb, hlc, hhd, rfl, Or.inr (Or.inr ⟨by omega, by omega, rfl⟩), hB6, hEE⟩)
                · refine g_iconst (pc := 136) (v := -1) dX11_compare_136 (by decide) ?_
                  refine g_goto (pc := 137) 141 dX11_compare_137 (by decide) ?_
                  exact g_iret (pc := 141) dX11_compare_141 (Or.inr ⟨i, j, k, T, S, a, b, c, d, (-1), rfl, hi, rfl, hj, rfl, hk, hT, hS, hla, hhb, hlc, hhd, rfl, Or.inr (Or.inl ⟨by omega, by omega, rfl⟩), hB6, hEE⟩)
              · refine g_iconst (pc := 127) (v := nI 1) dX11_compare_127 (by decide) ?_
                exact g_iret (pc := 128) dX11_compare_128 (Or.inr ⟨i, j, k, T, S, a, b, c, d, (nI 1), rfl, hi, rfl, hj, rfl, hk, hT, hS, hla, hhb, hlc, hhd, rfl, Or.inl ⟨by omega, rfl⟩, hB6, hEE⟩)
            · exact absurd hzk (by decide)
          · refine GP.weq _ e9 ?_
            refine n_if_ne (pc := 18) 24 dX11_compare_18 (by decide) (by omega) (fun hzk => ?_) (fun hzk => ?_)
            · exact absurd rfl hzk
            · refine g_bipush (pc := 21) (v := -2) dX11_compare_21 (by decide) ?_
              exact g_iret (pc := 23) dX11_compare_23 (Or.inl ⟨fun h9 => hpk h9.2.2, rfl, hB, EX.rf⟩)
      · refine GP.weq _ e9 ?_
        refine n_if_eq (pc := 11) 21 dX11_compare_11 (by decide) (by omega) (fun hzj => ?_) (fun hzj => ?_)
        · refine g_bipush (pc := 21) (v := -2) dX11_compare_21 (by decide) ?_
          exact g_iret (pc := 23) dX11_compare_23 (Or.inl ⟨fun h9 => hpj h9.2.1, rfl, hB, EX.rf⟩)
        · exact absurd rfl hzj
  · refine GP.weq _ e9 ?_
    refine n_if_eq (pc := 4) 21 dX11_compare_4 (by decide) (by omega) (fun hzi => ?_) (fun hzi => ?_)
    · refine g_bipush (pc := 21) (v := -2) dX11_compare_21 (by decide) ?_
      exact g_iret (pc := 23) dX11_compare_23 (Or.inl ⟨fun h9 => hpi h9.1, rfl, hB, EX.rf⟩)
    · exact absurd rfl hzi
abbrev BX11_enclosed (w0 : Wd) (Post : Option Value → Wd → Prop) (w : Wd) (pc : Nat) (ls : List (Nat × Value)) (st : List Value) : Prop := GP "enclosed" RX11 cX11_enclosed 3 (some .int) 7 273 none w0 Post w pc ls st
abbrev EX11_enclosed (As : List Value) (w : Wd) (Post : Option Value → Wd → Prop) : Prop := EP yX11_enclosed cX11_enclosed 3 (some .int) 7 As w Post
theorem sp_enclosed (w : Wd) {X tl : Nat} {tb : Nat → Int32} {fa st : Int32} {rf : Nat → Nat} {sh : SV} {pn : Nat} {pk : Nat → Nat} {ps : Nat → SV} {im : Nat → Option SV} (hB : bxC w X tl tb fa st rf sh pn pk ps im) {x y : Int32} : EX11_enclosed [.ref X, .int x, .int y] w (fun r w' => (¬ (isPl x ∧ 0 ≤ y.toInt ∧ y.toInt ≤ 3) ∧ r = some (.int (-1)) ∧ bxC w' X tl tb fa st rf sh pn pk ps im ∧ EX (boxS X) 0 0 w w') ∨ (∃ i h T kb t v, x = nI i ∧ i < 8 ∧ y = nI h ∧ h < 4 ∧ topL (sh.1 i).2 (sh.1 i).1 6 T ∧ ((h % 2 = 0 ∧ bestLow (sh.1 i).2 (sh.1 i).1 T kb t) ∨ (h % 2 ≠ 0 ∧ bestHigh (sh.1 i).2 (sh.1 i).1 T kb t)) ∧ r = some (.int (nI v)) ∧ (v = if h < 2 then t else kb) ∧ bxC w' X tl tb fa st rf sh pn pk ps im ∧ EX (boxS X) 0 0 w w')) := by
  refine EP.of (plainFor_of_name (by decide)) [(0, .ref X), (1, .int x), (2, .int y)] rfl (Nat.le_of_ble_eq_true rfl) (fun r wf h => by rcases h with ⟨-, rfl, -⟩ | ⟨i, h, T, kb, t, v, -, -, -, -, -, -, rfl, -⟩ <;> trivial) ?_
  show BX11_enclosed w _ w 0 [(0, .ref X), (1, .int x), (2, .int y)] []
  obtain ⟨⟨s0, hX0, hs0⟩, -, hW0, -⟩ := id hB
  obtain ⟨sp0, sf0, sh0, hsa0, hsb0, hsc0, hsd0, hse0, hsf0⟩ := id hs0
  obtain ⟨bb0, bl0, hG0⟩ := hW0.2.1
  obtain ⟨nL0, tL0, RL0, hL0⟩ := hW0.1
  obtain ⟨tc0, mc0, lc0, hC0, -⟩ := id hW0.2.2.1
  have z0 : (0 : Int32).toInt = 0 := by decide
  have z3 : (nI 3).toInt = 3 := by decide
  refine g_iload_n (pc := 0) 1 dX11_enclosed_0 rfl rfl ?_
  refine g_callS (pc := 1) [.int x] dX11_enclosed_1 cs_X11_95.1 cs_X11_95.2 rfl rfl (Nat.le_of_ble_eq_true rfl) (by decide) (by decide) (sp_isPlace _ (x := x)) ?_
  rintro _ w9 (⟨rfl, hpi, e9⟩ | ⟨rfl, hpi, e9⟩)
  · refine GP.weq _ e9 ?_
    refine n_if_eq (pc := 4) 16 dX11_enclosed_4 (by decide) (by omega) (fun hzi => ?_) (fun hzi => ?_)
    · exact absurd hzi (by decide)
    · obtain ⟨i, hie, hi⟩ : ∃ i : Nat, x = nI i ∧ i < 8 := ⟨x.toInt.toNat, nI_toNat (by omega), by omega⟩
      subst hie
      refine g_iload_n (pc := 7) 2 dX11_enclosed_7 rfl rfl ?_
      refine g_if_lt (pc := 8) 16 dX11_enclosed_8 (by decide) (fun h1 => ?_) (fun h1 => ?_)
      · rw [Int32.lt_iff_toInt_lt, z0] at h1
        refine g_iconst (pc := 16) (v := -1) dX11_enclosed_16 (by decide) ?_
        exact g_iret (pc := 17) dX11_enclosed_17 (Or.inl ⟨fun h9 => by have := h9.2.1; omega, rfl, hB, EX.rf⟩)
      · rw [Int32.lt_iff_toInt_lt, z0] at h1
        refine g_iload_n (pc := 11) 2 dX11_enclosed_11 rfl rfl ?_
        refine g_iconst (pc := 12) (v := nI 3) dX11_enclosed_12 (by decide) ?_
        refine g_icmp_le (pc := 13) 18 dX11_enclosed_13 (by decide) (fun h2 => ?_) (fun h2 => ?_)
        · rw [Int32.le_iff_toInt_le, z3] at h2
          obtain ⟨h, hhe, hh⟩ : ∃ h : Nat, y = nI h ∧ h < 4 := ⟨y.toInt.toNat, nI_toNat (by omega), by omega⟩
          subst hhe
          clear h1 h2
          refine g_aload_n (pc := 18) 0 dX11_enclosed_18 rfl rfl ?_
          refine g_get (pc := 19) dX11_enclosed_19 fk_X11_19 hX0 rfl ?_
          refine g_aload_n (pc := 22) 0 dX11_enclosed_22 rfl rfl ?_
          refine g_get (pc := 23) dX11_enclosed_23 fk_X11_69 hX0 rfl ?_
          refine g_iload_n (pc := 26) 1 dX11_enclosed_26 rfl rfl ?_
          obtain ⟨v1, hv1, hq1⟩ := hse0 i hi
          obtain ⟨pb1, pc1, hpo1, -⟩ := id hq1
          have hok1 : okP (sh.1 i) := by obtain ⟨-, -, -, -, -, -, -, h9⟩ := id hq1; exact h9
          refine g_callV (pc := 27) [.int (nI i)] dX11_enclosed_27 cv_X11_111.1 cv_X11_111.2.1 cv_X11_111.2.2.1 cv_X11_111.2.2.2 hsa0 rfl rfl (Nat.le_of_ble_eq_true rfl) (by decide) (by decide) (sp_poly _ (i := i) hsa0 hsb0 hi hv1) ?_
          rintro _ w9 ⟨rfl, e9⟩
          refine GP.weq _ e9 ?_
          refine g_bipush (pc := 30) (v := nI 6) dX11_enclosed_30 (by decide) ?_
          refine g_callV (pc := 32) [.ref v1, .int (nI 6)] dX11_enclosed_32 cv_X11_270.1 cv_X11_270.2.1 cv_X11_270.2.2.1 cv_X11_270.2.2.2 hL0.1 rfl rfl (Nat.le_of_ble_eq_true rfl) (by decide) (by decide) (bx_climb _ (k := 6) hB hq1 (by omega)) ?_
          rintro _ w1 ⟨T, rfl, hT, hO, hB1, hE1⟩
          have hT6 := hO.1
          obtain ⟨⟨s1, hX1, hs1⟩, -, hW1, -⟩ := id hB1
          obtain ⟨sp1, sf1, sh1, hsa1, hsb1, hsc1, hsd1, hse1, hsf1⟩ := id hs1
          obtain ⟨bb1, bl1, hG1⟩ := hW1.2.1
          obtain ⟨nL1, tL1, RL1, hL1⟩ := hW1.1
          obtain ⟨tc1, mc1, lc1, hC1, -⟩ := id hW1.2.2.1
          refine g_pop (pc := 35) dX11_enclosed_35 rfl ?_
          refine g_iload_n (pc := 36) 2 dX11_enclosed_36 rfl rfl ?_
          refine g_iconst (pc := 37) (v := nI 2) dX11_enclosed_37 (by decide) ?_
          refine n_irem (pc := 38) dX11_enclosed_38 (by omega) (by omega) (by omega) ?_
          refine n_if_ne (pc := 39) 56 dX11_enclosed_39 (by decide) (by omega) (fun h3 => ?_) (fun h3 => ?_)
          · refine g_aload_n (pc := 56) 0 dX11_enclosed_56 rfl rfl ?_
            refine g_get (pc := 57) dX11_enclosed_57 fk_X11_26 hX1 rfl ?_
            refine g_aload_n (pc := 60) 0 dX11_enclosed_60 rfl rfl ?_
            refine g_get (pc := 61) dX11_enclosed_61 fk_X11_19 hX1 rfl ?_
            refine g_callV (pc := 64) [.ref (X + 3)] dX11_enclosed_64 cv_X11_298.1 cv_X11_298.2.1 cv_X11_298.2.2.1 cv_X11_298.2.2.2 hG1.1 rfl rfl (Nat.le_of_ble_eq_true rfl) (by decide) (by decide) (bx_flh _ hB1 hO hok1) ?_
            rintro _ w2 ⟨rfl, kb, t, hbest, ht, hg2, hO2, hB2, hE2⟩
            obtain ⟨⟨s2, hX2, hs2⟩, -, hW2, -⟩ := id hB2
            obtain ⟨sp2, sf2, sh2, hsa2, hsb2, hsc2, hsd2, hse2, hsf2⟩ := id hs2
            obtain ⟨bb2, bl2, hG2⟩ := hW2.2.1
            obtain ⟨nL2, tL2, RL2, hL2⟩ := hW2.1
            obtain ⟨tc2, mc2, lc2, hC2, -⟩ := id hW2.2.2.1
            refine g_iload_n (pc := 67) 2 dX11_enclosed_67 rfl rfl ?_
            refine g_iconst (pc := 68) (v := nI 2) dX11_enclosed_68 (by decide) ?_
            refine n_icmp_ge (pc := 69) 82 dX11_enclosed_69 (by decide) (by omega) (by omega) (fun h4 => ?_) (fun h4 => ?_)
            · refine g_aload_n (pc := 82) 0 dX11_enclosed_82 rfl rfl ?_
              refine g_get (pc := 83) dX11_enclosed_83 fk_X11_26 hX2 rfl ?_
              refine g_get (pc := 86) dX11_enclosed_86 fk_X11_304 hg2 rfl ?_
              exact g_iret (pc := 89) dX11_enclosed_89 (Or.inr ⟨i, h, T, kb, t, kb, rfl, hi, rfl, hh, hT, Or.inr ⟨by omega, hbest⟩, rfl, by rw [if_neg (by omega)], hB2, (hE1.tr hE2).le (by omega) (by omega)⟩)
            · refine g_aload_n (pc := 72) 0 dX11_enclosed_72 rfl rfl ?_
              refine g_get (pc := 73) dX11_enclosed_73 fk_X11_26 hX2 rfl ?_
              refine g_get (pc := 76) dX11_enclosed_76 fk_X11_301 hg2 rfl ?_
              refine g_goto (pc := 79) 89 dX11_enclosed_79 (by decide) ?_
              exact g_iret (pc := 89) dX11_enclosed_89 (Or.inr ⟨i, h, T, kb, t, t, rfl, hi, rfl, hh, hT, Or.inr ⟨by omega, hbest⟩, rfl, by rw [if_pos (by omega)], hB2, (hE1.tr hE2).le (by omega) (by omega)⟩)
          · refine g_aload_n (pc := 42) 0 dX11_enclosed_42 rfl rfl ?_
            refine g_get (pc := 43) dX11_enclosed_43 fk_X11_26 hX1 rfl ?_
            refine g_aload_n (pc := 46) 0 dX11_enclosed_46 rfl rfl ?_
            refine g_get (pc := 47) dX11_enclosed_47 fk_X11_19 hX1 rfl ?_
            refine g_callV (pc := 50) [.ref (X + 3)] dX11_enclosed_50 cv_X11_294.1 cv_X11_294.2.1 cv_X11_294.2.2.1 cv_X11_294.2.2.2 hG1.1 rfl rfl (Nat.le_of_ble_eq_true rfl) (by decide) (by decide) (bx_fgl _ hB1 hO hok1) ?_
            rintro _ w2 ⟨rfl, kb, t, hbest, ht, hg2, hO2, hB2, hE2⟩
            obtain ⟨⟨s2, hX2, hs2⟩, -, hW2, -⟩ := id hB2
            obtain ⟨sp2, sf2, sh2, hsa2, hsb2, hsc2, hsd2, hse2, hsf2⟩ := id hs2
            obtain ⟨bb2, bl2, hG2⟩ := hW2.2.1
            obtain ⟨nL2, tL2, RL2, hL2⟩ := hW2.1
            obtain ⟨tc2, mc2, lc2, hC2, -⟩ := id hW2.2.2.1
            refine g_goto (pc := 53) 67 dX11_enclosed_53 (by decide) ?_
            refine g_iload_n (pc := 67) 2 dX11_enclosed_67 rfl rfl ?_
            refine g_iconst (pc := 68) (v := nI 2) dX11_enclosed_68 (by decide) ?_
            refine n_icmp_ge (pc := 69) 82 dX11_enclosed_69 (by decide) (by omega) (by omega) (fun h4 => ?_) (fun h4 => ?_)
            · refine g_aload_n (pc := 82) 0 dX11_enclosed_82 rfl rfl ?_
              refine g_get (pc := 83) dX11_enclosed_83 fk_X11_26 hX2 rfl ?_
              refine g_get (pc := 86) dX11_enclosed_86 fk_X11_304 hg2 rfl ?_
              exact g_iret (pc := 89) dX11_enclosed_89 (Or.inr ⟨i, h, T, kb, t, kb, rfl, hi, rfl, hh, hT, Or.inl ⟨by omega, hbest⟩, rfl, by rw [if_neg (by omega)], hB2, (hE1.tr hE2).le (by omega) (by omega)⟩)
            · refine g_aload_n (pc := 72) 0 dX11_enclosed_72 rfl rfl ?_
              refine g_get (pc := 73) dX11_enclosed_73 fk_X11_26 hX2 rfl ?_
              refine g_get (pc := 76) dX11_enclosed_76 fk_X11_301 hg2 rfl ?_
              refine g_goto (pc := 79) 89 dX11_enclosed_79 (by decide) ?_
              exact g_iret (pc := 89) dX11_enclosed_89 (Or.inr ⟨i, h, T, kb, t, t, rfl, hi, rfl, hh, hT, Or.inl ⟨by omega, hbest⟩, rfl, by rw [if_pos (by omega)], hB2, (hE1.tr hE2).le (by omega) (by omega)⟩)
        · rw [Int32.le_iff_toInt_le, z3] at h2
          refine g_iconst (pc := 16) (v := -1) dX11_enclosed_16 (by decide) ?_
          exact g_iret (pc := 17) dX11_enclosed_17 (Or.inl ⟨fun h9 => by have := h9.2.2; omega, rfl, hB, EX.rf⟩)
  · refine GP.weq _ e9 ?_
    refine n_if_eq (pc := 4) 16 dX11_enclosed_4 (by decide) (by omega) (fun hzi => ?_) (fun hzi => ?_)
    · refine g_iconst (pc := 16) (v := -1) dX11_enclosed_16 (by decide) ?_
      exact g_iret (pc := 17) dX11_enclosed_17 (Or.inl ⟨fun h9 => hpi h9.1, rfl, hB, EX.rf⟩)
    · exact absurd rfl hzi
abbrev BX11_found (w0 : Wd) (Post : Option Value → Wd → Prop) (w : Wd) (pc : Nat) (ls : List (Nat × Value)) (st : List Value) : Prop := GP "found" RX11 cX11_found 4 (some .int) 2 78 none w0 Post w pc ls st
abbrev EX11_found (As : List Value) (w : Wd) (Post : Option Value → Wd → Prop) : Prop := EP yX11_found cX11_found 4 (some .int) 2 As w Post
theorem sp_found (w : Wd) {X tl : Nat} {tb : Nat → Int32} {fa st : Int32} {rf : Nat → Nat} {sh : SV} {pn : Nat} {pk : Nat → Nat} {ps : Nat → SV} {im : Nat → Option SV} (hB : bxC w X tl tb fa st rf sh pn pk ps im) {x y : Int32} : EX11_found [.ref X, .int x, .int y] w (fun r w' => (¬ (0 ≤ x.toInt ∧ x.toInt < sh.2.2.2.2.2.1 ∧ ((0 ≤ y.toInt ∧ y.toInt ≤ sh.2.1) ∨ (13 ≤ y.toInt ∧ y.toInt ≤ 15))) ∧ r = some (.int (-2147483648)) ∧ bxC w' X tl tb fa st rf sh pn pk ps im ∧ EX (boxS X) 0 0 w w') ∨ (∃ i k v, x = nI i ∧ i < sh.2.2.2.2.2.1 ∧ y = nI k ∧ (k ≤ sh.2.1 ∨ (13 ≤ k ∧ k ≤ 15)) ∧ r = some (.int v) ∧ v.toInt = sh.2.2.2.2.2.2 (i * 16 + k) ∧ bxC w' X tl tb fa st rf sh pn pk ps im ∧ EX (boxS X) 0 0 w w')) := by
  refine EP.of (plainFor_of_name (by decide)) [(0, .ref X), (1, .int x), (2, .int y)] rfl (Nat.le_of_ble_eq_true rfl) (fun r wf h => by rcases h with ⟨-, rfl, -⟩ | ⟨i, k, v, -, -, -, -, rfl, -⟩ <;> trivial) ?_
  show BX11_found w _ w 0 [(0, .ref X), (1, .int x), (2, .int y)] []
  have hB0 := id hB
  obtain ⟨⟨s, hX, hs⟩, htp, hW, hpa, him, hrf⟩ := hB
  have hs0 := id hs
  obtain ⟨sp9, sf9, sh9, hs1, hs2, hs3, hs4, hs5, hs6⟩ := hs
  obtain ⟨htl, tpl, tf, ht1, ht2, ht3⟩ := id htp
  obtain ⟨row9, hrow9⟩ := hW.2.2.2.2.1
  obtain ⟨spa9, hspa9⟩ := hW.2.2.2.2.2
  obtain ⟨ef, gf, hf1, hf2, hf3, hf4, hf5, hf6, hf7, hf8, hf9, hf10⟩ := id hs6
  have z0 : (0 : Int32).toInt = 0 := by decide
  have z15 : (nI 15).toInt = 15 := by decide
  have z13 : (nI 13).toInt = 13 := by decide
  have zd : (nI sh.2.1).toInt = sh.2.1 := nI_toInt (by omega)
  refine g_aload_n (pc := 0) 0 dX11_found_0 rfl rfl ?_
  refine g_get (pc := 1) dX11_found_1 fk_X11_69 hX rfl ?_
  refine g_get (pc := 4) dX11_found_4 fk_X11_209 hs1 rfl ?_
  refine g_astore_n (pc := 7) [(3, .ref sf9), (0, .ref X), (1, .int x), (2, .int y)] dX11_found_7 rfl (by decide) rfl ?_
  refine g_aload_n (pc := 8) 0 dX11_found_8 rfl rfl ?_
  refine g_iload_n (pc := 9) 2 dX11_found_9 rfl rfl ?_
  by_cases hx : x < 0
  · have hx0 := Int32.lt_iff_toInt_lt.mp hx
    rw [z0] at hx0
    refine g_callV (pc := 10) [.int x] dX11_found_10 cv_X11_213.1 cv_X11_213.2.1 cv_X11_213.2.2.1 cv_X11_213.2.2.2 hf1 rfl rfl (Nat.le_of_ble_eq_true rfl) (by decide) (by decide) (sp_hasNeg _ hx) ?_
    rintro _ w9 ⟨rfl, e9⟩
    refine GP.weq _ e9 ?_
    refine n_if_eq (pc := 13) 40 dX11_found_13 (by decide) (by omega) (fun hz => ?_) (fun hz => ?_)
    · refine g_ldc (pc := 40) kc_X11_240 dX11_found_40 ?_
      exact g_iret (pc := 42) dX11_found_42 (Or.inl ⟨fun h9 => by have := h9.1; omega, rfl, hB0, EX.rf⟩)
    · exact absurd rfl hz
  · have hx0 : 0 ≤ x.toInt := by
      rw [Int32.lt_iff_toInt_lt, z0] at hx
      omega
    have hxh := I_hi x
    obtain ⟨i, hie, hi0⟩ : ∃ i : Nat, x = nI i ∧ i < 2147483648 := ⟨x.toInt.toNat, nI_toNat hx0, by omega⟩
    subst hie
    have hit : (nI i).toInt = i := nI_toInt hi0
    refine g_callV (pc := 10) [.int (nI i)] dX11_found_10 cv_X11_213.1 cv_X11_213.2.1 cv_X11_213.2.2.1 cv_X11_213.2.2.2 hf1 rfl rfl (Nat.le_of_ble_eq_true rfl) (by decide) (by decide) (sp_has _ (i := i) hf1 hf2 rfl hf7 hi0) ?_
    rintro _ w9 (⟨rfl, hi, e9⟩ | ⟨rfl, hi, e9⟩)
    · refine GP.weq _ e9 ?_
      refine n_if_eq (pc := 13) 40 dX11_found_13 (by decide) (by omega) (fun hz => ?_) (fun hz => ?_)
      · exact absurd hz (by decide)
      · refine g_iload_n (pc := 16) 3 dX11_found_16 rfl rfl ?_
        refine g_if_lt (pc := 17) 40 dX11_found_17 (by decide) (fun h1 => ?_) (fun h1 => ?_)
        · rw [Int32.lt_iff_toInt_lt, z0] at h1
          refine g_ldc (pc := 40) kc_X11_240 dX11_found_40 ?_
          exact g_iret (pc := 42) dX11_found_42 (Or.inl ⟨fun h9 => by have := h9.2.2; omega, rfl, hB0, EX.rf⟩)
        · rw [Int32.lt_iff_toInt_lt, z0] at h1
          refine g_iload_n (pc := 20) 3 dX11_found_20 rfl rfl ?_
          refine g_bipush (pc := 21) (v := nI 15) dX11_found_21 (by decide) ?_
          refine g_icmp_gt (pc := 23) 40 dX11_found_23 (by decide) (fun h2 => ?_) (fun h2 => ?_)
          · rw [Int32.lt_iff_toInt_lt, z15] at h2
            refine g_ldc (pc := 40) kc_X11_240 dX11_found_40 ?_
            exact g_iret (pc := 42) dX11_found_42 (Or.inl ⟨fun h9 => by have := h9.2.2; omega, rfl, hB0, EX.rf⟩)
          · rw [Int32.lt_iff_toInt_lt, z15] at h2
            refine g_iload_n (pc := 26) 3 dX11_found_26 rfl rfl ?_
            refine g_aload_n (pc := 27) 0 dX11_found_27 rfl rfl ?_
            refine g_get (pc := 28) dX11_found_28 fk_X11_324 hf1 rfl ?_
            refine g_icmp_le (pc := 31) 43 dX11_found_31 (by decide) (fun h3 => ?_) (fun h3 => ?_)
            · rw [Int32.le_iff_toInt_le, zd] at h3
              obtain ⟨k, hke, hk⟩ : ∃ k : Nat, y = nI k ∧ k < 16 := ⟨y.toInt.toNat, nI_toNat (by omega), by omega⟩
              subst hke
              have hkt : (nI k).toInt = k := nI_toInt (by omega)
              refine g_aload_n (pc := 43) 0 dX11_found_43 rfl rfl ?_
              refine g_iload_n (pc := 44) 2 dX11_found_44 rfl rfl ?_
              refine g_iload_n (pc := 45) 3 dX11_found_45 rfl rfl ?_
              refine g_callV (pc := 46) [.int (nI i), .int (nI k)] dX11_found_46 cv_X11_325.1 cv_X11_325.2.1 cv_X11_325.2.2.1 cv_X11_325.2.2.2 hf1 rfl rfl (Nat.le_of_ble_eq_true rfl) (by decide) (by decide) (sp_entry _ (i := i) (k := k) hf1 hf2 rfl hf7 hi (by omega)) ?_
              rintro _ w9 ⟨rfl, e9⟩
              refine GP.weq _ e9 ?_
              exact g_iret (pc := 49) dX11_found_49 (Or.inr ⟨i, k, gf (i * 16 + k), rfl, hi, rfl, by omega, rfl, hf5 _ (by omega), hB0, EX.rf⟩)
            · rw [Int32.le_iff_toInt_le, zd] at h3
              refine g_iload_n (pc := 34) 3 dX11_found_34 rfl rfl ?_
              refine g_bipush (pc := 35) (v := nI 13) dX11_found_35 (by decide) ?_
              refine g_icmp_ge (pc := 37) 43 dX11_found_37 (by decide) (fun h4 => ?_) (fun h4 => ?_)
              · rw [Int32.le_iff_toInt_le, z13] at h4
                obtain ⟨k, hke, hk⟩ : ∃ k : Nat, y = nI k ∧ k < 16 := ⟨y.toInt.toNat, nI_toNat (by omega), by omega⟩
                subst hke
                have hkt : (nI k).toInt = k := nI_toInt (by omega)
                refine g_aload_n (pc := 43) 0 dX11_found_43 rfl rfl ?_
                refine g_iload_n (pc := 44) 2 dX11_found_44 rfl rfl ?_
                refine g_iload_n (pc := 45) 3 dX11_found_45 rfl rfl ?_
                refine g_callV (pc := 46) [.int (nI i), .int (nI k)] dX11_found_46 cv_X11_325.1 cv_X11_325.2.1 cv_X11_325.2.2.1 cv_X11_325.2.2.2 hf1 rfl rfl (Nat.le_of_ble_eq_true rfl) (by decide) (by decide) (sp_entry _ (i := i) (k := k) hf1 hf2 rfl hf7 hi (by omega)) ?_
                rintro _ w9 ⟨rfl, e9⟩
                refine GP.weq _ e9 ?_
                exact g_iret (pc := 49) dX11_found_49 (Or.inr ⟨i, k, gf (i * 16 + k), rfl, hi, rfl, by omega, rfl, hf5 _ (by omega), hB0, EX.rf⟩)
              · rw [Int32.le_iff_toInt_le, z13] at h4
                refine g_ldc (pc := 40) kc_X11_240 dX11_found_40 ?_
                exact g_iret (pc := 42) dX11_found_42 (Or.inl ⟨fun h9 => by have := h9.2.2; omega, rfl, hB0, EX.rf⟩)
    · refine GP.weq _ e9 ?_
      refine n_if_eq (pc := 13) 40 dX11_found_13 (by decide) (by omega) (fun hz => ?_) (fun hz => ?_)
      · refine g_ldc (pc := 40) kc_X11_240 dX11_found_40 ?_
        exact g_iret (pc := 42) dX11_found_42 (Or.inl ⟨fun h9 => by have := h9.2.1; omega, rfl, hB0, EX.rf⟩)
      · exact absurd rfl hz
abbrev BX11_isMeasureOne (w0 : Wd) (Post : Option Value → Wd → Prop) (w : Wd) (pc : Nat) (ls : List (Nat × Value)) (st : List Value) : Prop := GP "isMeasureOne" RX11 cX11_isMeasureOne 2 (some .boolean) 5 195 none w0 Post w pc ls st
abbrev EX11_isMeasureOne (As : List Value) (w : Wd) (Post : Option Value → Wd → Prop) : Prop := EP yX11_isMeasureOne cX11_isMeasureOne 2 (some .boolean) 5 As w Post
theorem sp_isMeasureOne (w : Wd) {X tl : Nat} {tb : Nat → Int32} {fa st : Int32} {rf : Nat → Nat} {sh : SV} {pn : Nat} {pk : Nat → Nat} {ps : Nat → SV} {im : Nat → Option SV} (hB : bxC w X tl tb fa st rf sh pn pk ps im) {v : Nat} {P : PV} (hP : polC w (X + 139) v P) : EX11_isMeasureOne [.ref X, .ref v] w (fun r w' => (r = some (.int (nI 1)) ∧ isOneF P.2 P.1 ∧ bxC w' X tl tb fa st rf sh pn pk ps im ∧ EX (boxS X) 0 0 w w') ∨ (r = some (.int (nI 0)) ∧ noOneF P.2 P.1 ∧ bxC w' X tl tb fa st rf sh pn pk ps im ∧ EX (boxS X) 0 0 w w')) := by
  refine EP.of (plainFor_of_name (by decide)) [(0, .ref X), (1, .ref v)] rfl (Nat.le_of_ble_eq_true rfl) (fun r wf h => by rcases h with ⟨rfl, -⟩ | ⟨rfl, -⟩; exact Or.inr rfl; exact Or.inl rfl) ?_
  show BX11_isMeasureOne w _ w 0 [(0, .ref X), (1, .ref v)] []
  obtain ⟨⟨s0, hX0, hs0⟩, -, hW0, -⟩ := id hB
  obtain ⟨sp0, sf0, sh0, hsa0, hsb0, hsc0, hsd0, hse0, hsf0⟩ := id hs0
  obtain ⟨bb0, bl0, hG0⟩ := hW0.2.1
  obtain ⟨nL0, tL0, RL0, hL0⟩ := hW0.1
  obtain ⟨tc0, mc0, lc0, hC0, -⟩ := id hW0.2.2.1
  obtain ⟨pb, pc, ho1, hb1, hvB, hbB, hc1, hk1⟩ := id hP
  refine g_aload_n (pc := 0) 0 dX11_isMeasureOne_0 rfl rfl ?_
  refine g_get (pc := 1) dX11_isMeasureOne_1 fk_X11_33 hX0 rfl ?_
  refine g_aload_n (pc := 4) 1 dX11_isMeasureOne_4 rfl rfl ?_
  refine g_callV (pc := 5) [.ref v] dX11_isMeasureOne_5 cv_X11_158.1 cv_X11_158.2.1 cv_X11_158.2.2.1 cv_X11_158.2.2.2 hC0 rfl rfl (Nat.le_of_ble_eq_true rfl) (by decide) (by decide) (sp_begin _ hW0.2.2.1 ho1 hb1 hk1.1 (fun j hj => by rw [hc1 j hj]; exact hk1.2.1 j hj)) ?_
  rintro _ w1 ⟨rfl, hM1, hF1⟩
  obtain ⟨hB1, hE1⟩ := hB.cir hF1 hM1.a
  obtain ⟨⟨s1, hX1, hs1⟩, -, hW1, -⟩ := id hB1
  obtain ⟨sp1, sf1, sh1, hsa1, hsb1, hsc1, hsd1, hse1, hsf1⟩ := id hs1
  obtain ⟨bb1, bl1, hG1⟩ := hW1.2.1
  obtain ⟨nL1, tL1, RL1, hL1⟩ := hW1.1
  obtain ⟨tc1, mc1, lc1, hC1, -⟩ := id hW1.2.2.1
  refine g_aload_n (pc := 8) 0 dX11_isMeasureOne_8 rfl rfl ?_
  refine g_get (pc := 9) dX11_isMeasureOne_9 fk_X11_33 hX1 rfl ?_
  refine g_callV (pc := 12) [] dX11_isMeasureOne_12 cv_X11_360.1 cv_X11_360.2.1 cv_X11_360.2.2.1 cv_X11_360.2.2.2 hC1 rfl rfl (Nat.le_of_ble_eq_true rfl) (by decide) (by decide) (sp_isOne _ hM1) ?_
  rintro _ w9 (⟨rfl, h1, h2, hA4, hF4⟩ | ⟨rfl, hno, hA4, hF4⟩)
  · skip
    obtain ⟨hB2, hE2⟩ := hB1.cir hF4 hA4
    obtain ⟨G, hG⟩ := h2
    obtain ⟨G', hG', -⟩ := coC_cg (F' := P.2) (fun j hj => hc1 j hj) hG
    exact g_iret (pc := 15) dX11_isMeasureOne_15 (Or.inl ⟨rfl, ⟨by rw [← hc1 _ (Nat.le_refl _)]; exact h1, G', hG'⟩, hB2, (hE1.tr hE2).le (by omega) (by omega)⟩)
  · skip
    obtain ⟨hB2, hE2⟩ := hB1.cir hF4 hA4
    have hno2 : noOneF P.2 P.1 := by
      rcases hno with h9 | ⟨G, T', h8, h7⟩
      · exact Or.inl (by rw [← hc1 _ (Nat.le_refl _)]; exact h9)
      · obtain ⟨G', hG', -⟩ := coC_cg (F' := P.2) (fun j hj => hc1 j hj) h8
        exact Or.inr ⟨G', T', hG', h7⟩
    exact g_iret (pc := 15) dX11_isMeasureOne_15 (Or.inr ⟨rfl, hno2, hB2, (hE1.tr hE2).le (by omega) (by omega)⟩)
