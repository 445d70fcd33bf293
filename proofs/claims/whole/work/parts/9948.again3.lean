theorem sp_search2 (w : Wd) {X tl : Nat} {tb : Nat → Int32} {fa st : Int32} {rf : Nat → Nat} {sh : SV} {pn : Nat} {pk : Nat → Nat} {ps : Nat → SV} {im : Nat → Option SV} (hB : bxC w X tl tb fa st rf sh pn pk ps im) {x y z u : Int32} : EX11_search [.ref X, .int x, .int y, .int z, .int u] w (fun r w' => (¬ okSe x y z u ∧ rfP (-1) 0 w X tl tb fa rf sh pn pk ps im r w') ∨ (∃ d h lv v, x = nI d ∧ y = nI h ∧ z = nI lv ∧ u = nI v ∧ okSe x y z u ∧ (d ≤ 12 ∧ h ≤ 3 ∧ lv ≤ 6 ∧ v ≤ 9999) ∧ 3125 < (2 * h + 1) ^ (d / 2) ∧ rfP (-4) 2 w X tl tb fa rf sh pn pk ps im r w') ∨ (∃ d h lv v sz ia on E, x = nI d ∧ y = nI h ∧ z = nI lv ∧ u = nI v ∧ okSe x y z u ∧ (d ≤ 12 ∧ h ≤ 3 ∧ lv ≤ 6 ∧ v ≤ 9999) ∧ (2 * h + 1) ^ (d / 2) = sz ∧ sz ≤ 3125 ∧ srS d h lv v sz ia on E ∧ r = some (.int (nI ia)) ∧ bxC w' X tl tb fa (nI 0) rf (sh.1, (d, ia, sz, on, min ia 30, E)) (min (pn + 1) 8) (psh pn pk 7) (psh pn ps sh) im ∧ EX (boxS X) 4 500 w w')) := by
  refine EP.of (plainFor_of_name (by decide)) [(0, .ref X), (1, .int x), (2, .int y), (3, .int z), (4, .int u)] rfl (Nat.le_of_ble_eq_true rfl) (fun r wf h => by rcases h with ⟨-, h⟩ | ⟨d, h, lv, v, -, -, -, -, -, -, -, h⟩ | ⟨d, h, lv, v, sz, ia, on, E, -, -, -, -, -, -, -, -, -, rfl, -⟩; obtain ⟨x, rfl⟩ := rokR h; trivial; obtain ⟨x, rfl⟩ := rokR h; trivial; trivial) ?_
  show BX11_search w _ w 0 [(0, .ref X), (1, .int x), (2, .int y), (3, .int z), (4, .int u)] []
  have hB0 := id hB
  obtain ⟨⟨s, hX, hs⟩, htp, hW, hpa, him, hrf⟩ := hB
  have hs0 := id hs
  obtain ⟨sp9, sf9, sh9, hs1, hs2, hs3, hs4, hs5, hs6⟩ := hs
  obtain ⟨htl, tpl, tf, ht1, ht2, ht3⟩ := id htp
  obtain ⟨row9, hrow9⟩ := hW.2.2.2.2.1
  obtain ⟨spa9, hspa9⟩ := hW.2.2.2.2.2
  have z1 : (nI 1).toInt = 1 := by decide
  have z2 : (nI 2).toInt = 2 := by decide
  have z3 : (nI 3).toInt = 3 := by decide
  have z10 : (nI 10).toInt = 10 := by decide
  have z1000 : (nI 1000).toInt = 1000 := by decide
  have z9999 : (nI 9999).toInt = 9999 := by decide
  refine g_iload_n (pc := 0) 1 dX11_search_0 rfl rfl ?_
  refine g_iconst (pc := 1) (v := nI 2) dX11_search_1 (by decide) ?_
  refine g_icmp_lt (pc := 2) 31 dX11_search_2 (by decide) (fun h1 => ?_) (fun h1 => ?_)
  · rw [Int32.lt_iff_toInt_lt, z2] at h1
    refine g_iconst (pc := 31) (v := nI 0) dX11_search_31 (by decide) ?_
    refine g_istore (pc := 32) [(5, .int (nI 0)), (0, .ref X), (1, .int x), (2, .int y), (3, .int z), (4, .int u)] dX11_search_32 (by decide) rfl ?_
    refine g_iload (pc := 34) 0 dX11_search_34 rfl ?_
    refine n_if_eq (pc := 36) 62 dX11_search_36 (by decide) (by omega) (fun hq9 => ?_) (fun hq9 => ?_)
    · refine g_aload_n (pc := 62) 1 dX11_search_62 rfl rfl ?_
      refine g_iconst (pc := 63) (v := -1) dX11_search_63 (by decide) ?_
      refine g_callV (pc := 64) [.int (-1)] dX11_search_64 cv_X11_98.1 cv_X11_98.2.1 cv_X11_98.2.2.1 cv_X11_98.2.2.2 hX rfl rfl (Nat.le_of_ble_eq_true rfl) (by decide) (by decide) (sp_refuse1 _ hB0) ?_
      rintro _ w5 ⟨rfl, hB5, hE5⟩
      exact g_iret (pc := 67) dX11_search_67 (Or.inl ⟨fun h9 => by have := h9.1; omega, rfl, hB5, hE5.le (by omega) (by omega)⟩)
    · exact absurd rfl hq9
  · rw [Int32.lt_iff_toInt_lt, z2] at h1
    refine g_iload_n (pc := 5) 1 dX11_search_5 rfl rfl ?_
    refine g_bipush (pc := 6) (v := nI 10) dX11_search_6 (by decide) ?_
    refine g_icmp_gt (pc := 8) 31 dX11_search_8 (by decide) (fun h2 => ?_) (fun h2 => ?_)
    · rw [Int32.lt_iff_toInt_lt, z10] at h2
      refine g_iconst (pc := 31) (v := nI 0) dX11_search_31 (by decide) ?_
      refine g_istore (pc := 32) [(5, .int (nI 0)), (0, .ref X), (1, .int x), (2, .int y), (3, .int z), (4, .int u)] dX11_search_32 (by decide) rfl ?_
      refine g_iload (pc := 34) 0 dX11_search_34 rfl ?_
      refine n_if_eq (pc := 36) 62 dX11_search_36 (by decide) (by omega) (fun hq9 => ?_) (fun hq9 => ?_)
      · refine g_aload_n (pc := 62) 1 dX11_search_62 rfl rfl ?_
        refine g_iconst (pc := 63) (v := -1) dX11_search_63 (by decide) ?_
        refine g_callV (pc := 64) [.int (-1)] dX11_search_64 cv_X11_98.1 cv_X11_98.2.1 cv_X11_98.2.2.1 cv_X11_98.2.2.2 hX rfl rfl (Nat.le_of_ble_eq_true rfl) (by decide) (by decide) (sp_refuse1 _ hB0) ?_
        rintro _ w5 ⟨rfl, hB5, hE5⟩
        exact g_iret (pc := 67) dX11_search_67 (Or.inl ⟨fun h9 => by have := h9.1; omega, rfl, hB5, hE5.le (by omega) (by omega)⟩)
      · exact absurd rfl hq9
    · rw [Int32.lt_iff_toInt_lt, z10] at h2
      obtain ⟨d, hde, hd⟩ : ∃ d : Nat, x = nI d ∧ d < 11 := ⟨x.toInt.toNat, nI_toNat (by omega), by omega⟩
      subst hde
      have hdt : (nI d).toInt = d := nI_toInt (by omega)
      rw [hdt] at h1 h2
      refine g_iload_n (pc := 11) 1 dX11_search_11 rfl rfl ?_
      refine g_iconst (pc := 12) (v := nI 2) dX11_search_12 (by decide) ?_
      refine n_irem (pc := 13) dX11_search_13 (by omega) (by omega) (by omega) ?_
      refine n_if_ne (pc := 14) 31 dX11_search_14 (by decide) (by omega) (fun h3 => ?_) (fun h3 => ?_)
      · refine g_iconst (pc := 31) (v := nI 0) dX11_search_31 (by decide) ?_
        refine g_istore (pc := 32) [(5, .int (nI 0)), (0, .ref X), (1, .int (nI d)), (2, .int y), (3, .int z), (4, .int u)] dX11_search_32 (by decide) rfl ?_
        refine g_iload (pc := 34) 0 dX11_search_34 rfl ?_
        refine n_if_eq (pc := 36) 62 dX11_search_36 (by decide) (by omega) (fun hq9 => ?_) (fun hq9 => ?_)
        · refine g_aload_n (pc := 62) 1 dX11_search_62 rfl rfl ?_
          refine g_iconst (pc := 63) (v := -1) dX11_search_63 (by decide) ?_
          refine g_callV (pc := 64) [.int (-1)] dX11_search_64 cv_X11_98.1 cv_X11_98.2.1 cv_X11_98.2.2.1 cv_X11_98.2.2.2 hX rfl rfl (Nat.le_of_ble_eq_true rfl) (by decide) (by decide) (sp_refuse1 _ hB0) ?_
          rintro _ w5 ⟨rfl, hB5, hE5⟩
          exact g_iret (pc := 67) dX11_search_67 (Or.inl ⟨fun h9 => by have := h9.1; rw [hdt] at this; omega, rfl, hB5, hE5.le (by omega) (by omega)⟩)
        · exact absurd rfl hq9
      · refine g_iload_n (pc := 17) 2 dX11_search_17 rfl rfl ?_
        refine g_iconst (pc := 18) (v := nI 1) dX11_search_18 (by decide) ?_
        refine g_icmp_lt (pc := 19) 31 dX11_search_19 (by decide) (fun h4 => ?_) (fun h4 => ?_)
        · rw [Int32.lt_iff_toInt_lt, z1] at h4
          refine g_iconst (pc := 31) (v := nI 0) dX11_search_31 (by decide) ?_
          refine g_istore (pc := 32) [(5, .int (nI 0)), (0, .ref X), (1, .int (nI d)), (2, .int y), (3, .int z), (4, .int u)] dX11_search_32 (by decide) rfl ?_
          refine g_iload (pc := 34) 0 dX11_search_34 rfl ?_
          refine n_if_eq (pc := 36) 62 dX11_search_36 (by decide) (by omega) (fun hq9 => ?_) (fun hq9 => ?_)
          · refine g_aload_n (pc := 62) 1 dX11_search_62 rfl rfl ?_
            refine g_iconst (pc := 63) (v := -1) dX11_search_63 (by decide) ?_
            refine g_callV (pc := 64) [.int (-1)] dX11_search_64 cv_X11_98.1 cv_X11_98.2.1 cv_X11_98.2.2.1 cv_X11_98.2.2.2 hX rfl rfl (Nat.le_of_ble_eq_true rfl) (by decide) (by decide) (sp_refuse1 _ hB0) ?_
            rintro _ w5 ⟨rfl, hB5, hE5⟩
            exact g_iret (pc := 67) dX11_search_67 (Or.inl ⟨fun h9 => by have := h9.2.1; omega, rfl, hB5, hE5.le (by omega) (by omega)⟩)
          · exact absurd rfl hq9
        · rw [Int32.lt_iff_toInt_lt, z1] at h4
          refine g_iload_n (pc := 22) 2 dX11_search_22 rfl rfl ?_
          refine g_iconst (pc := 23) (v := nI 3) dX11_search_23 (by decide) ?_
          refine g_icmp_gt (pc := 24) 31 dX11_search_24 (by decide) (fun h5 => ?_) (fun h5 => ?_)
          · rw [Int32.lt_iff_toInt_lt, z3] at h5
            refine g_iconst (pc := 31) (v := nI 0) dX11_search_31 (by decide) ?_
            refine g_istore (pc := 32) [(5, .int (nI 0)), (0, .ref X), (1, .int (nI d)), (2, .int y), (3, .int z), (4, .int u)] dX11_search_32 (by decide) rfl ?_
            refine g_iload (pc := 34) 0 dX11_search_34 rfl ?_
            refine n_if_eq (pc := 36) 62 dX11_search_36 (by decide) (by omega) (fun hq9 => ?_) (fun hq9 => ?_)
            · refine g_aload_n (pc := 62) 1 dX11_search_62 rfl rfl ?_
              refine g_iconst (pc := 63) (v := -1) dX11_search_63 (by decide) ?_
              refine g_callV (pc := 64) [.int (-1)] dX11_search_64 cv_X11_98.1 cv_X11_98.2.1 cv_X11_98.2.2.1 cv_X11_98.2.2.2 hX rfl rfl (Nat.le_of_ble_eq_true rfl) (by decide) (by decide) (sp_refuse1 _ hB0) ?_
              rintro _ w5 ⟨rfl, hB5, hE5⟩
              exact g_iret (pc := 67) dX11_search_67 (Or.inl ⟨fun h9 => by have := h9.2.1; omega, rfl, hB5, hE5.le (by omega) (by omega)⟩)
            · exact absurd rfl hq9
          · rw [Int32.lt_iff_toInt_lt, z3] at h5
            obtain ⟨h, hhe, hh⟩ : ∃ h : Nat, y = nI h ∧ h < 4 := ⟨y.toInt.toNat, nI_toNat (by omega), by omega⟩
            subst hhe
            have hht : (nI h).toInt = h := nI_toInt (by omega)
            rw [hht] at h4 h5
            refine g_iconst (pc := 27) (v := nI 1) dX11_search_27 (by decide) ?_
            refine g_goto (pc := 28) 32 dX11_search_28 (by decide) ?_
            refine g_istore (pc := 32) [(5, .int (nI 1)), (0, .ref X), (1, .int (nI d)), (2, .int (nI h)), (3, .int z), (4, .int u)] dX11_search_32 (by decide) rfl ?_
            refine g_iload (pc := 34) 0 dX11_search_34 rfl ?_
            refine n_if_eq (pc := 36) 62 dX11_search_36 (by decide) (by omega) (fun hq9 => ?_) (fun hq9 => ?_)
            · exact absurd hq9 (by decide)
            · refine g_iload_n (pc := 39) 4 dX11_search_39 rfl rfl ?_
              refine g_callS (pc := 40) [.int z] dX11_search_40 cs_X11_168.1 cs_X11_168.2 rfl rfl (Nat.le_of_ble_eq_true rfl) (by decide) (by decide) (sp_isLevel _ (x := z)) ?_
              rintro _ w9 (⟨rfl, hplv, e9⟩ | ⟨rfl, hplv, e9⟩)
              · refine GP.weq _ e9 ?_
                refine n_if_eq (pc := 43) 62 dX11_search_43 (by decide) (by omega) (fun hzlv => ?_) (fun hzlv => ?_)
                · exact absurd hzlv (by decide)
                · obtain ⟨lv, hlve, hlv⟩ : ∃ lv : Nat, z = nI lv ∧ lv < 7 := ⟨z.toInt.toNat, nI_toNat (by omega), by omega⟩
                  subst hlve
                  refine g_iload (pc := 46) 5 dX11_search_46 rfl ?_
                  refine g_sipush (pc := 48) (v := nI 1000) dX11_search_48 (by decide) ?_
                  refine g_icmp_lt (pc := 51) 62 dX11_search_51 (by decide) (fun h6 => ?_) (fun h6 => ?_)
                  · rw [Int32.lt_iff_toInt_lt, z1000] at h6
                    refine g_aload_n (pc := 62) 1 dX11_search_62 rfl rfl ?_
                    refine g_iconst (pc := 63) (v := -1) dX11_search_63 (by decide) ?_
                    refine g_callV (pc := 64) [.int (-1)] dX11_search_64 cv_X11_98.1 cv_X11_98.2.1 cv_X11_98.2.2.1 cv_X11_98.2.2.2 hX rfl rfl (Nat.le_of_ble_eq_true rfl) (by decide) (by decide) (sp_refuse1 _ hB0) ?_
                    rintro _ w5 ⟨rfl, hB5, hE5⟩
                    exact g_iret (pc := 67) dX11_search_67 (Or.inl ⟨fun h9 => by have := h9.2.2.2.1; omega, rfl, hB5, hE5.le (by omega) (by omega)⟩)
                  · rw [Int32.lt_iff_toInt_lt, z1000] at h6
                    refine g_iload (pc := 54) 5 dX11_search_54 rfl ?_
                    refine g_sipush (pc := 56) (v := nI 9999) dX11_search_56 (by decide) ?_
                    refine g_icmp_le (pc := 59) 68 dX11_search_59 (by decide) (fun h7 => ?_) (fun h7 => ?_)
                    · rw [Int32.le_iff_toInt_le, z9999] at h7
                      obtain ⟨v, hve, hv⟩ : ∃ v : Nat, u = nI v ∧ v < 10000 := ⟨u.toInt.toNat, nI_toNat (by omega), by omega⟩
                      subst hve
                      have hvt : (nI v).toInt = v := nI_toInt (by omega)
                      rw [hvt] at h6 h7
                      have hbl := box_le (d := d) (h := h) (by omega) (by omega)
                      obtain ⟨sz, hsz⟩ : ∃ sz : Nat, (2 * h + 1) ^ (d / 2) = sz := ⟨_, rfl⟩
                      rw [hsz] at hbl
                      have hok : okSe (nI d) (nI h) (nI lv) (nI v) := ⟨by rw [hdt]; omega, by rw [hht]; omega, by unfold isLv; rw [nI_toInt (by omega)]; omega, by rw [hvt]; omega⟩
                      refine g_iload_n (pc := 68) 2 dX11_search_68 rfl rfl ?_
                      refine g_iload_n (pc := 69) 3 dX11_search_69 rfl rfl ?_
                      refine g_callS (pc := 70) [.int (nI d), .int (nI h)] dX11_search_70 cs_X11_171.1 cs_X11_171.2 rfl rfl (Nat.le_of_ble_eq_true rfl) (by decide) (by decide) (sp_boxSize _ (n := d) (h := h) (by omega) (by omega)) ?_
                      rintro _ w9 ⟨rfl, e9⟩
                      refine GP.weq _ e9 ?_
                      refine GP.ti (nI sz) (by rw [hsz]) ?_
                      refine g_sipush (pc := 73) (v := nI 3125) dX11_search_73 (by decide) ?_
                      refine n_icmp_le (pc := 76) 86 dX11_search_76 (by decide) (by omega) (by omega) (fun h8 => ?_) (fun h8 => ?_)
                      · obtain ⟨⟨n3, tp3, R3, hL⟩, ⟨bb, bl, hG⟩, hA, ⟨n4, h4', lv4, ia4, lk4, on4, rw4, en4, hH, hT, hQ, hr, hE⟩, -, -⟩ := id hW
                        refine g_aload_n (pc := 86) 1 dX11_search_86 rfl rfl ?_
                        refine g_get (pc := 87) dX11_search_87 fk_X11_40 hX rfl ?_
                        refine g_iload_n (pc := 90) 2 dX11_search_90 rfl rfl ?_
                        refine g_iload_n (pc := 91) 3 dX11_search_91 rfl rfl ?_
                        refine g_callV (pc := 92) [.int (nI d), .int (nI h)] dX11_search_92 cv_X11_174.1 cv_X11_174.2.1 cv_X11_174.2.2.1 cv_X11_174.2.2.2 hH rfl rfl (Nat.le_of_ble_eq_true rfl) (by decide) (by decide) (sp_hbegin _ (d := d) (e := h) hH hr (by omega) (by omega)) ?_
                        rintro _ w1 ⟨rfl, rw1, hrw1, e1⟩
                        have hF1 : FR (fun i => i = X + 112 ∨ i = X + 112 + 4) w w1 := by rw [e1]; exact FR.tr (FR.set (c' := oH (X + 112) d h lv4 0 0 0) hH rfl (Or.inl rfl)) (FR.set (c' := aL 13 rw1) (lk_ne (by omega) hr) rfl (Or.inr rfl))
                        have hH1 : w1[X + 112]? = some (oH (X + 112) d h lv4 0 0 0) := by rw [e1]; exact lk_ne (by omega) (lk_eq hH)
                        have hr1 : w1[X + 112 + 4]? = some (aL 13 rw1) := by rw [e1]; exact lk_eq (lk_ne (by omega) hr)
                        have hT1 := hT.fr hF1 (fun i _ _ g3 _ _ g6 _ => by omega)
                        have hG1 := hG.ex (EX.of hF1 (fun _ g => g)) (fun i _ _ => by omega)
                        have hX1 := hF1.lk (show ¬ (X = X + 112 ∨ X = X + 112 + 4) by omega) hX
                        refine g_aload_n (pc := 95) 1 dX11_search_95 rfl rfl ?_
                        refine g_get (pc := 96) dX11_search_96 fk_X11_40 hX1 rfl ?_
                        refine g_iload_n (pc := 99) 4 dX11_search_99 rfl rfl ?_
                        refine g_iload (pc := 100) 5 dX11_search_100 rfl ?_
                        refine g_aload_n (pc := 102) 1 dX11_search_102 rfl rfl ?_
                        refine g_get (pc := 103) dX11_search_103 fk_X11_26 hX1 rfl ?_
                        refine g_callV (pc := 106) [.int (nI lv), .int (nI v), .ref (X + 12)] dX11_search_106 cv_X11_177.1 cv_X11_177.2.1 cv_X11_177.2.2.1 cv_X11_177.2.2.2 hH1 rfl rfl (Nat.le_of_ble_eq_true rfl) (by decide) (by decide) (sp_setLimits _ (l := lv) (v := v) (by omega) (by omega) (by omega) hH1 hT1 hG1) ?_
                        rintro _ w2 ⟨rfl, hH2, hT2, hV2, hG2, hF2⟩
                        have US : ∀ i, i ≠ X + 112 → (i < X + 32 ∨ X + 35 < i) → (i < X + 118 ∨ X + 131 < i) → ¬ slS (X + 12) (X + 112) i := fun i g1 g2 g3 g4 => by unfold slS at g4; omega
                        have hX2 := hF2.lk (US _ (by omega) (by omega) (by omega)) hX1
                        have hr2 := hF2.lk (US _ (by omega) (by omega) (by omega)) hr1
                        have ht2 : tlC w2 X d h lv v 0 0 0 rw1 en4 := ⟨⟨n3, tp3, R3, (hL.fr hF1 (by omega) (fun i _ _ => by omega)).fr hF2 (US _ (by omega) (by omega) (by omega)) (fun i _ _ => US _ (by omega) (by omega) (by omega))⟩, ⟨bb, bl, hG2⟩, (hA.fr hF1 (fun i _ _ => by omega)).fr hF2 (fun i _ _ => US _ (by omega) (by omega) (by omega)), hH2, hT2, hV2, (hQ.fr hF1 (by omega) (by omega)).fr hF2 (US _ (by omega) (by omega) (by omega)) (US _ (by omega) (by omega) (by omega)), hr2, hF2.lk (US _ (by omega) (by omega) (by omega)) (hF1.lk (by omega) hE)⟩
                        have hFt : FR (toolS X) w w2 := (hF1.mono (fun i g => by unfold toolS; omega)).tr (hF2.mono (fun i g => by unfold slS at g; unfold toolS; omega))
                        refine g_iload_n (pc := 109) 2 dX11_search_109 rfl rfl ?_
                        refine g_iload_n (pc := 110) 3 dX11_search_110 rfl rfl ?_
                        refine g_callS (pc := 111) [.int (nI d), .int (nI h)] dX11_search_111 cs_X11_171.1 cs_X11_171.2 rfl rfl (Nat.le_of_ble_eq_true rfl) (by decide) (by decide) (sp_boxSize _ (n := d) (h := h) (by omega) (by omega)) ?_
                        rintro _ w9 ⟨rfl, e9⟩
                        refine GP.weq _ e9 ?_
                        refine GP.ti (nI sz) (by rw [hsz]) ?_
                        refine g_istore (pc := 114) [(6, .int (nI sz)), (5, .int (nI 1)), (0, .ref X), (1, .int (nI d)), (2, .int (nI h)), (3, .int (nI lv)), (4, .int (nI v))] dX11_search_114 (by decide) rfl ?_
                        refine g_iconst (pc := 116) (v := nI 0) dX11_search_116 (by decide) ?_
                        refine g_istore (pc := 117) [(7, .int (nI 0)), (6, .int (nI sz)), (5, .int (nI 1)), (0, .ref X), (1, .int (nI d)), (2, .int (nI h)), (3, .int (nI lv)), (4, .int (nI v))] dX11_search_117 (by decide) rfl ?_
                        refine GP.lsub _ (by simp) (se_loop (w := w) (d := d) (lv := lv) (sz := sz) (h := h) (v := v) hX (by omega) (by omega) (by omega) (by omega) (by omega) (by omega) (by omega) (fun w3 ia on rw9 en E ht hS hen hia hon hF => ?_) sz 0 w2 0 0 rw1 en4 (fun _ => 0) (by omega) ht2 hrw1 ⟨rfl, rfl⟩ (fun j hj => absurd hj (by omega)) (by omega) (by omega) hFt)
                        have hW3 := ht.wk hW hF
                        have hEt : EX (toolS X) 0 0 w w3 := EX.of hF (fun _ g => g)
                        have hB3 := hB0.tools hEt (fun i g => Or.inl g) hW3
                        obtain ⟨-, -, -, hH3, -, -, -, -, hE3⟩ := ht
                        have hX3 := hF.lk (show ¬ toolS X X by unfold toolS; omega) hX
                        have hs13 := hF.lk (show ¬ toolS X s by unfold toolS; omega) hs1
                        have hs23 := hF.lk (show ¬ toolS X sp9 by unfold toolS; omega) hs2
                        have hlt3 : s < w3.length := (List.getElem?_eq_some_iff.mp hs13).1
                        refine g_aload_n (pc := 172) 0 dX11_search_172 rfl rfl ?_
                        refine g_get (pc := 173) dX11_search_173 fk_X11_40 hX3 rfl ?_
                        refine g_callV (pc := 176) [] dX11_search_176 cv_X11_192.1 cv_X11_192.2.1 cv_X11_192.2.2.1 cv_X11_192.2.2.2 hH3 rfl rfl (Nat.le_of_ble_eq_true rfl) (by decide) (by decide) (sp_told _ hH3 hE3 (by omega)) ?_
                        rintro _ w9 ⟨rfl, g, hg, e9⟩
                        obtain ⟨w4, hw4⟩ : ∃ w4 : Wd, w4 = w3 ++ [oF d ia sz on (min ia 30) (w3.length + 1), aI 0 (min ia 30 * 16) g] := ⟨_, rfl⟩
                        refine GP.weq w4 (e9.trans hw4.symm) ?_
                        have hE4 : EX (fun _ => False) 2 486 w3 w4 := by
                          rw [hw4]
                          exact EX.app.le (by simp) (by simp [slW, slE]; omega)
                        have hf1 : w4[w3.length]? = some (oF d ia sz on (min ia 30) (w3.length + 1)) := by rw [hw4]; exact lk_1
                        have hf2 : w4[w3.length + 1]? = some (aI 0 (min ia 30 * 16) g) := by rw [hw4]; exact lk_2
                        have hl4 : w4.length = w3.length + 2 := by rw [hw4]; simp
                        have hX4 := hE4.lk (fun g => g) hX3
                        have hs14 := hE4.lk (fun g => g) hs13
                        have hs24 := hE4.lk (fun g => g) hs23
                        have hpo : ∀ i, i < 8 → ∃ v, sh9 i = some v ∧ isPo w4 v := fun i hi => by
                          obtain ⟨v, e1, e2⟩ := hs5 i hi
                          obtain ⟨b9, c9, e3, -⟩ := (e2.ex hEt (fun j hj => by unfold toolS at hj; omega)).ex hE4 (fun _ g => g.elim)
                          exact ⟨v, e1, _, e3⟩
                        refine g_astore (pc := 179) [(7, .ref w3.length), (0, .ref X)] dX11_search_179 (by decide) rfl ?_
                        refine g_aload_n (pc := 181) 1 dX11_search_181 rfl rfl ?_
                        refine g_bipush (pc := 182) (v := nI 7) dX11_search_182 (by decide) ?_
                        refine g_aload_n (pc := 184) 1 dX11_search_184 rfl rfl ?_
                        refine g_get (pc := 185) dX11_search_185 fk_X11_69 hX4 rfl ?_
                        refine g_aload (pc := 188) 0 dX11_search_188 rfl ?_
                        refine g_callV (pc := 190) [.ref w3.length] dX11_search_190 cv_X11_196.1 cv_X11_196.2.1 cv_X11_196.2.2.1 cv_X11_196.2.2.2 hs14 rfl rfl (Nat.le_of_ble_eq_true rfl) (by decide) (by decide) (sp_withFound _ (y := w3.length) hs14 hs24 hpo) ?_
                        rintro _ w9 ⟨rfl, h', hh', e9⟩
                        obtain ⟨w5, hw5⟩ : ∃ w5 : Wd, w5 = w4 ++ [oS (w4.length + 1) w3.length, aR 4 8 h'] := ⟨_, rfl⟩
                        refine GP.weq w5 (e9.trans hw5.symm) ?_
                        have hE5 : EX (fun _ => False) 2 10 w4 w5 := by
                          rw [hw5]
                          exact EX.app.le (by simp) (by simp [slW, slE])
                        have hM1 : w5[w4.length]? = some (oS (w4.length + 1) w3.length) := by rw [hw5]; exact lk_1
                        have hM2 : w5[w4.length + 1]? = some (aR 4 8 h') := by rw [hw5]; exact lk_2
                        have hE45 := hE4.tr hE5
                        have hB5 := hB3.ext hE45
                        have hX5 := hE5.lk (fun g => g) hX4
                        have hfo : fouC w5 (X + 139) w3.length (d, ia, sz, on, min ia 30, E) := ⟨w3.length + 1, g, hE5.lk (fun g => g) hf1, by rw [Nat.mul_comm]; exact hE5.lk (fun g => g) hf2, by omega, by omega, fun j hj => by rw [hg j (by have : j < 16 * min ia 30 := hj; omega)]; exact hen j hj, by show d ≤ 12; omega, by show min ia 30 ≤ 30; omega, by show ia ≤ 5000; omega, by show sz ≤ 5000; omega, by show on ≤ 5000; omega⟩
                        have hNS : shC w5 (X + 139) w4.length (sh.1, (d, ia, sz, on, min ia 30, E)) := ⟨w4.length + 1, w3.length, h', hM1, hM2, by omega, by omega, fun i hi => by
                          rw [hh' i hi]
                          obtain ⟨v, e1, e2⟩ := hs5 i hi
                          exact ⟨v, e1, (e2.ex hEt (fun j hj => by unfold toolS at hj; omega)).ex hE45 (fun _ g => g.elim)⟩, hfo⟩
                        refine g_callV (pc := 193) [.int (nI 7), .ref w4.length] dX11_search_193 cv_X11_200.1 cv_X11_200.2.1 cv_X11_200.2.2.1 cv_X11_200.2.2.2 hX5 rfl rfl (Nat.le_of_ble_eq_true rfl) (by decide) (by decide) (sp_moveOn _ (kd := 7) hB5 hNS) ?_
                        rintro _ w6 ⟨rfl, hB6, hE6⟩
                        obtain ⟨⟨s6, hX6, -⟩, -⟩ := id hB6
                        have hf6 := hE6.lk (show ¬ boxS X w3.length by unfold boxS; omega) (hE5.lk (fun g => g) hf1)
                        refine g_aload_n (pc := 196) 1 dX11_search_196 rfl rfl ?_
                        refine g_aload (pc := 197) 0 dX11_search_197 rfl ?_
                        refine g_get (pc := 199) dX11_search_199 fk_X11_204 hf6 rfl ?_
                        refine g_callV (pc := 202) [.int (nI ia)] dX11_search_202 cv_X11_119.1 cv_X11_119.2.1 cv_X11_119.2.2.1 cv_X11_119.2.2.2 hX6 rfl rfl (Nat.le_of_ble_eq_true rfl) (by decide) (by decide) (sp_accept _ (x := nI ia) hB6) ?_
                        rintro _ w7 ⟨rfl, hB7, hE7⟩
                        exact g_iret (pc := 205) dX11_search_205 (Or.inr (Or.inr ⟨d, h, lv, v, sz, ia, on, E, rfl, rfl, rfl, rfl, hok, ⟨by omega, by omega, by omega, by omega⟩, hsz, by omega, hS, rfl, hB7, (((((hEt.mono (fun i g => by unfold toolS at g; unfold boxS; omega)).tr (hE45.mono (fun _ g => g.elim))).tr hE6).tr hE7)).le (by omega) (by omega)⟩))
                      · refine g_aload_n (pc := 79) 1 dX11_search_79 rfl rfl ?_
                        refine g_bipush (pc := 80) (v := -4) dX11_search_80 (by decide) ?_
                        refine g_callV (pc := 82) [.int (-4)] dX11_search_82 cv_X11_98.1 cv_X11_98.2.1 cv_X11_98.2.2.1 cv_X11_98.2.2.2 hX rfl rfl (Nat.le_of_ble_eq_true rfl) (by decide) (by decide) (sp_refuse4 _ hB0) ?_
                        rintro _ w5 ⟨rfl, hB5, hE5⟩
                        exact g_iret (pc := 85) dX11_search_85 (Or.inr (Or.inl ⟨d, h, lv, v, rfl, rfl, rfl, rfl, hok, ⟨by omega, by omega, by omega, by omega⟩, by rw [hsz]; omega, rfl, hB5, hE5.le (by omega) (by omega)⟩))
                    · rw [Int32.le_iff_toInt_le, z9999] at h7
                      refine g_aload_n (pc := 62) 1 dX11_search_62 rfl rfl ?_
                      refine g_iconst (pc := 63) (v := -1) dX11_search_63 (by decide) ?_
                      refine g_callV (pc := 64) [.int (-1)] dX11_search_64 cv_X11_98.1 cv_X11_98.2.1 cv_X11_98.2.2.1 cv_X11_98.2.2.2 hX rfl rfl (Nat.le_of_ble_eq_true rfl) (by decide) (by decide) (sp_refuse1 _ hB0) ?_
                      rintro _ w5 ⟨rfl, hB5, hE5⟩
                      exact g_iret (pc := 67) dX11_search_67 (Or.inl ⟨fun h9 => by have := h9.2.2.2.2; omega, rfl, hB5, hE5.le (by omega) (by omega)⟩)
              · refine GP.weq _ e9 ?_
                refine n_if_eq (pc := 43) 62 dX11_search_43 (by decide) (by omega) (fun hzlv => ?_) (fun hzlv => ?_)
                · refine g_aload_n (pc := 62) 1 dX11_search_62 rfl rfl ?_
                  refine g_iconst (pc := 63) (v := -1) dX11_search_63 (by decide) ?_
                  refine g_callV (pc := 64) [.int (-1)] dX11_search_64 cv_X11_98.1 cv_X11_98.2.1 cv_X11_98.2.2.1 cv_X11_98.2.2.2 hX rfl rfl (Nat.le_of_ble_eq_true rfl) (by decide) (by decide) (sp_refuse1 _ hB0) ?_
                  rintro _ w5 ⟨rfl, hB5, hE5⟩
                  exact g_iret (pc := 67) dX11_search_67 (Or.inl ⟨fun h9 => hplv h9.2.2.1, rfl, hB5, hE5.le (by omega) (by omega)⟩)
                · exact absurd rfl hzlv
theorem mq_search2 (w : Wd) {Y tl : Nat} {tb : Nat → Int32} {fa st : Int32} {rf : Nat → Nat} {sh : SV} {pn : Nat} {pk : Nat → Nat} {ps : Nat → SV} {im : Nat → Option SV} (hM : mdC w Y tl tb fa st rf sh pn pk ps im) {x y z u : Int32} : EX12_search [.ref Y, .int x, .int y, .int z, .int u] w (fun r w' => (¬ okSe x y z u ∧ rfM (-1) 0 w Y tl tb fa rf sh pn pk ps im r w') ∨ (∃ d h lv v, x = nI d ∧ y = nI h ∧ z = nI lv ∧ u = nI v ∧ okSe x y z u ∧ (d ≤ 12 ∧ h ≤ 3 ∧ lv ≤ 6 ∧ v ≤ 9999) ∧ 3125 < (2 * h + 1) ^ (d / 2) ∧ rfM (-4) 2 w Y tl tb fa rf sh pn pk ps im r w') ∨ (∃ d h lv v sz ia on E, x = nI d ∧ y = nI h ∧ z = nI lv ∧ u = nI v ∧ okSe x y z u ∧ (d ≤ 12 ∧ h ≤ 3 ∧ lv ≤ 6 ∧ v ≤ 9999) ∧ (2 * h + 1) ^ (d / 2) = sz ∧ sz ≤ 3125 ∧ srM d h lv v sz ia on E ∧ r = some (.int (nI ia)) ∧ mdC w' Y tl tb fa (nI 0) rf (sh.1, (d, ia, sz, on, min ia 30, E)) (min (pn + 1) 8) (psh pn pk 7) (psh pn ps sh) im ∧ FR (modS Y) w w')) := by
  refine EP.of (plainFor_of_name (by decide)) [(0, .ref Y), (1, .int x), (2, .int y), (3, .int z), (4, .int u)] rfl (Nat.le_of_ble_eq_true rfl) (fun r wf h => by rcases h with ⟨-, rfl, -⟩ | ⟨d, h, lv, v, -, -, -, -, -, -, -, rfl, -⟩ | ⟨d, h, lv, v, sz, ia, on, E, -, -, -, -, -, -, -, -, -, rfl, -⟩ <;> trivial) ?_
  show BX12_search w _ w 0 [(0, .ref Y), (1, .int x), (2, .int y), (3, .int z), (4, .int u)] []
  obtain ⟨⟨th, dg, dd, ld, be, ib, re, ig, hY⟩, ⟨⟨g1, a1, b1⟩, ⟨g2, a2, b2⟩, ⟨g3, g4, a3, a4, b3, b4⟩, ⟨g5, g6, a5, a6, b5⟩, ⟨g11, a11, b11⟩, ⟨g17, a17, b17⟩⟩, ⟨g7, g8, g9, g10, g12, g13, g14, g18, g19, g20, g21, a7, a8, a9, a10, a12, a13, a14, a18, a19, a20, a21⟩, ⟨g15, g16, a15, a16, b15⟩⟩ := id hM
  refine g_aload_n (pc := 0) 0 dX12_search_0 rfl rfl ?_
  refine g_iconst (pc := 1) (v := nI 0) dX12_search_1 (by decide) ?_
  refine g_put (pc := 2) (.int (nI 0) :: .int st :: .ref (Y + 1) :: .ref (Y + 2) :: .ref (Y + 3) :: .ref (Y + 4) :: .int (nI pn) :: .ref (Y + 5) :: .ref (Y + 6) :: .ref (Y + 7) :: .int dg :: .ref (Y + 8) :: .int dd :: .ref (Y + 9) :: .ref (Y + 10) :: .ref (Y + 11) :: .ref (Y + 12) :: .int ld :: .int be :: .int ib :: .ref (Y + 13) :: .ref (Y + 14) :: .ref (Y + 15) :: .ref (Y + 16) :: .ref (Y + 17) :: .int (nI tl) :: .int fa :: .int re :: .int ig :: .ref (Y + 18) :: .ref (Y + 19) :: .ref (Y + 20) :: .ref (Y + 21) :: []) dX12_search_2 fk_X12_83 hY (Nat.le_of_ble_eq_true rfl) rfl rfl ?_
  refine g_iload_n (pc := 5) 1 dX12_search_5 rfl rfl ?_
  refine g_i2l (pc := 6) dX12_search_6 ?_
  refine g_ldc2 (pc := 7) kc_X12_318 dX12_search_7 ?_
  refine g_ldc2 (pc := 10) kc_X12_320 dX12_search_10 ?_
  refine g_callS (pc := 13) [.long x.toInt64, .long (2), .long (10)] dX12_search_13 cs_X12_103.1 cs_X12_103.2 rfl rfl (Nat.le_of_ble_eq_true rfl) (by decide) (by decide) (mp_in _) ?_
  rintro _ w9 (⟨rfl, h1, e9⟩ | ⟨rfl, h1, e9⟩)
  · refine GP.weq _ e9 ?_
    rw [IL, L10, L2n] at h1
    obtain ⟨d, rfl, lo9d, up9d⟩ : ∃ k : Nat, x = nI k ∧ 2 ≤ k ∧ k ≤ 10 := ⟨x.toInt.toNat, nI_toNat (by omega), by omega, by omega⟩
    have ed : (nI d).toInt = (d : Int) := nI_toInt (by omega)
    refine n_if_eq (pc := 16) 64 dX12_search_16 (by decide) (by omega) (fun hd9 => ?_) (fun hd9 => ?_)
    · exact absurd hd9 (by decide)
    · refine g_iload_n (pc := 19) 1 dX12_search_19 rfl rfl ?_
      refine g_iconst (pc := 20) (v := nI 2) dX12_search_20 (by decide) ?_
      refine n_irem (pc := 21) dX12_search_21 (by omega) (by omega) (by omega) ?_
      refine n_if_ne (pc := 22) 64 dX12_search_22 (by decide) (by omega) (fun hev => ?_) (fun hev => ?_)
      · refine g_aload_n (pc := 64) 0 dX12_search_64 rfl rfl ?_
        refine g_iconst (pc := 65) (v := -1) dX12_search_65 (by decide) ?_
        obtain ⟨wr, ewr⟩ : ∃ wy : Wd, wy = (w.set Y (.inr (11, .int (nI 0) :: .int st :: .ref (Y + 1) :: .ref (Y + 2) :: .ref (Y + 3) :: .ref (Y + 4) :: .int (nI pn) :: .ref (Y + 5) :: .ref (Y + 6) :: .ref (Y + 7) :: .int dg :: .ref (Y + 8) :: .int dd :: .ref (Y + 9) :: .ref (Y + 10) :: .ref (Y + 11) :: .ref (Y + 12) :: .int ld :: .int be :: .int ib :: .ref (Y + 13) :: .ref (Y + 14) :: .ref (Y + 15) :: .ref (Y + 16) :: .ref (Y + 17) :: .int (nI tl) :: .int fa :: .int re :: .int ig :: .ref (Y + 18) :: .ref (Y + 19) :: .ref (Y + 20) :: .ref (Y + 21) :: []))) := ⟨_, rfl⟩
        refine GP.weq wr ewr.symm ?_
        have hMr : mdC wr Y tl tb fa st rf sh pn pk ps im := by rw [ewr]; exact ⟨⟨_, _, _, _, _, _, _, _, (lk_eq hY)⟩, ⟨⟨_, (lk_ne (show Y ≠ (Y + 1) by omega) a1), b1⟩, ⟨_, (lk_ne (show Y ≠ (Y + 2) by omega) a2), b2⟩, ⟨_, _, (lk_ne (show Y ≠ (Y + 3) by omega) a3), (lk_ne (show Y ≠ (Y + 4) by omega) a4), b3, b4⟩, ⟨_, _, (lk_ne (show Y ≠ (Y + 5) by omega) a5), (lk_ne (show Y ≠ (Y + 6) by omega) a6), b5⟩, ⟨_, (lk_ne (show Y ≠ (Y + 11) by omega) a11), b11⟩, ⟨_, (lk_ne (show Y ≠ (Y + 17) by omega) a17), b17⟩⟩, ⟨_, _, _, _, _, _, _, _, _, _, _, (lk_ne (show Y ≠ (Y + 7) by omega) a7), (lk_ne (show Y ≠ (Y + 8) by omega) a8), (lk_ne (show Y ≠ (Y + 9) by omega) a9), (lk_ne (show Y ≠ (Y + 10) by omega) a10), (lk_ne (show Y ≠ (Y + 12) by omega) a12), (lk_ne (show Y ≠ (Y + 13) by omega) a13), (lk_ne (show Y ≠ (Y + 14) by omega) a14), (lk_ne (show Y ≠ (Y + 18) by omega) a18), (lk_ne (show Y ≠ (Y + 19) by omega) a19), (lk_ne (show Y ≠ (Y + 20) by omega) a20), (lk_ne (show Y ≠ (Y + 21) by omega) a21)⟩, ⟨_, _, (lk_ne (show Y ≠ (Y + 15) by omega) a15), (lk_ne (show Y ≠ (Y + 16) by omega) a16), b15⟩⟩
        have hFr : FR (modS Y) w wr := by rw [ewr]; exact (FR.st (c' := .inr (11, .int (nI 0) :: .int st :: .ref (Y + 1) :: .ref (Y + 2) :: .ref (Y + 3) :: .ref (Y + 4) :: .int (nI pn) :: .ref (Y + 5) :: .ref (Y + 6) :: .ref (Y + 7) :: .int dg :: .ref (Y + 8) :: .int dd :: .ref (Y + 9) :: .ref (Y + 10) :: .ref (Y + 11) :: .ref (Y + 12) :: .int ld :: .int be :: .int ib :: .ref (Y + 13) :: .ref (Y + 14) :: .ref (Y + 15) :: .ref (Y + 16) :: .ref (Y + 17) :: .int (nI tl) :: .int fa :: .int re :: .int ig :: .ref (Y + 18) :: .ref (Y + 19) :: .ref (Y + 20) :: .ref (Y + 21) :: [])) FR.rf hY rfl (by unfold modS; omega))
        refine g_callV (pc := 66) [.int (-1)] dX12_search_66 cv_X12_96.1 cv_X12_96.2.1 cv_X12_96.2.2.1 cv_X12_96.2.2.2 (by rw [ewr]; exact (lk_eq hY)) rfl rfl (Nat.le_of_ble_eq_true rfl) (by decide) (by decide) (mq_refuse1 _ hMr) ?_
        rintro _ wq ⟨rfl, hR⟩
        exact g_iret (pc := 69) dX12_search_69 (Or.inl ⟨fun g => by have h9 := g.1.2.2; rw [ed] at h9; omega, ⟨rfl, hR.1, hFr.tr hR.2⟩⟩)
      · refine g_iload_n (pc := 25) 2 dX12_search_25 rfl rfl ?_
        refine g_i2l (pc := 26) dX12_search_26 ?_
        refine g_lconst (pc := 27) (v := 1) dX12_search_27 (by decide) ?_
        refine g_ldc2 (pc := 28) kc_X12_322 dX12_search_28 ?_
        refine g_callS (pc := 31) [.long y.toInt64, .long 1, .long (3)] dX12_search_31 cs_X12_103.1 cs_X12_103.2 rfl rfl (Nat.le_of_ble_eq_true rfl) (by decide) (by decide) (mp_in _) ?_
        rintro _ w9 (⟨rfl, h2, e9⟩ | ⟨rfl, h2, e9⟩)
        · refine GP.weq _ e9 ?_
          rw [IL, L3n, L1] at h2
          obtain ⟨h, rfl, lo9h, up9h⟩ : ∃ k : Nat, y = nI k ∧ 1 ≤ k ∧ k ≤ 3 := ⟨y.toInt.toNat, nI_toNat (by omega), by omega, by omega⟩
          have eh : (nI h).toInt = (h : Int) := nI_toInt (by omega)
          refine n_if_eq (pc := 34) 64 dX12_search_34 (by decide) (by omega) (fun hd9 => ?_) (fun hd9 => ?_)
          · exact absurd hd9 (by decide)
          · refine g_iload_n (pc := 37) 3 dX12_search_37 rfl rfl ?_
            refine g_i2l (pc := 38) dX12_search_38 ?_
            refine g_lconst (pc := 39) (v := 0) dX12_search_39 (by decide) ?_
            refine g_ldc2 (pc := 40) kc_X12_324 dX12_search_40 ?_
            refine g_callS (pc := 43) [.long z.toInt64, .long 0, .long (6)] dX12_search_43 cs_X12_103.1 cs_X12_103.2 rfl rfl (Nat.le_of_ble_eq_true rfl) (by decide) (by decide) (mp_in _) ?_
            rintro _ w9 (⟨rfl, h3, e9⟩ | ⟨rfl, h3, e9⟩)
            · refine GP.weq _ e9 ?_
              rw [IL, L6, L00] at h3
              obtain ⟨lv, rfl, lo9lv, up9lv⟩ : ∃ k : Nat, z = nI k ∧ 0 ≤ k ∧ k ≤ 6 := ⟨z.toInt.toNat, nI_toNat (by omega), by omega, by omega⟩
              have elv : (nI lv).toInt = (lv : Int) := nI_toInt (by omega)
              refine n_if_eq (pc := 46) 64 dX12_search_46 (by decide) (by omega) (fun hd9 => ?_) (fun hd9 => ?_)
              · exact absurd hd9 (by decide)
              · refine g_iload (pc := 49) 4 dX12_search_49 rfl ?_
                refine g_i2l (pc := 51) dX12_search_51 ?_
                refine g_ldc2 (pc := 52) kc_X12_212 dX12_search_52 ?_
                refine g_ldc2 (pc := 55) kc_X12_130 dX12_search_55 ?_
                refine g_callS (pc := 58) [.long u.toInt64, .long (1000), .long (9999)] dX12_search_58 cs_X12_103.1 cs_X12_103.2 rfl rfl (Nat.le_of_ble_eq_true rfl) (by decide) (by decide) (mp_in _) ?_
                rintro _ w9 (⟨rfl, h4, e9⟩ | ⟨rfl, h4, e9⟩)
                · refine GP.weq _ e9 ?_
                  rw [IL, L9p, L1k] at h4
                  obtain ⟨v, rfl, lo9v, up9v⟩ : ∃ k : Nat, u = nI k ∧ 1000 ≤ k ∧ k ≤ 9999 := ⟨u.toInt.toNat, nI_toNat (by omega), by omega, by omega⟩
                  have ev : (nI v).toInt = (v : Int) := nI_toInt (by omega)
                  refine n_if_ne (pc := 61) 70 dX12_search_61 (by decide) (by omega) (fun hd9 => ?_) (fun hd9 => ?_)
                  · have hok : okSe (nI d) (nI h) (nI lv) (nI v) := ⟨⟨by omega, by omega, by omega⟩, ⟨by omega, by omega⟩, ⟨by omega, by omega⟩, by omega, by omega⟩
                    have hd10 : d ≤ 10 := by omega
                    have hh3 : h ≤ 3 := by omega
                    refine g_iconst (pc := 70) (v := nI 1) dX12_search_70 (by decide) ?_
                    refine g_istore (pc := 71) [(5, .int (nI 1)), (0, .ref Y), (1, .int (nI d)), (2, .int (nI h)), (3, .int (nI lv)), (4, .int (nI v))] dX12_search_71 (by decide) rfl ?_
                    refine g_iconst (pc := 73) (v := nI 0) dX12_search_73 (by decide) ?_
                    refine g_istore (pc := 74) [(6, .int (nI 0)), (5, .int (nI 1)), (0, .ref Y), (1, .int (nI d)), (2, .int (nI h)), (3, .int (nI lv)), (4, .int (nI v))] dX12_search_74 (by decide) rfl ?_
                    obtain ⟨w1, ew1⟩ : ∃ wy : Wd, wy = (w.set Y (.inr (11, .int (nI 0) :: .int st :: .ref (Y + 1) :: .ref (Y + 2) :: .ref (Y + 3) :: .ref (Y + 4) :: .int (nI pn) :: .ref (Y + 5) :: .ref (Y + 6) :: .ref (Y + 7) :: .int dg :: .ref (Y + 8) :: .int dd :: .ref (Y + 9) :: .ref (Y + 10) :: .ref (Y + 11) :: .ref (Y + 12) :: .int ld :: .int be :: .int ib :: .ref (Y + 13) :: .ref (Y + 14) :: .ref (Y + 15) :: .ref (Y + 16) :: .ref (Y + 17) :: .int (nI tl) :: .int fa :: .int re :: .int ig :: .ref (Y + 18) :: .ref (Y + 19) :: .ref (Y + 20) :: .ref (Y + 21) :: []))) := ⟨_, rfl⟩
                    refine GP.weq w1 ew1.symm ?_
                    have hMb : mdC w1 Y tl tb fa st rf sh pn pk ps im := by rw [ew1]; exact ⟨⟨_, _, _, _, _, _, _, _, (lk_eq hY)⟩, ⟨⟨_, (lk_ne (show Y ≠ (Y + 1) by omega) a1), b1⟩, ⟨_, (lk_ne (show Y ≠ (Y + 2) by omega) a2), b2⟩, ⟨_, _, (lk_ne (show Y ≠ (Y + 3) by omega) a3), (lk_ne (show Y ≠ (Y + 4) by omega) a4), b3, b4⟩, ⟨_, _, (lk_ne (show Y ≠ (Y + 5) by omega) a5), (lk_ne (show Y ≠ (Y + 6) by omega) a6), b5⟩, ⟨_, (lk_ne (show Y ≠ (Y + 11) by omega) a11), b11⟩, ⟨_, (lk_ne (show Y ≠ (Y + 17) by omega) a17), b17⟩⟩, ⟨_, _, _, _, _, _, _, _, _, _, _, (lk_ne (show Y ≠ (Y + 7) by omega) a7), (lk_ne (show Y ≠ (Y + 8) by omega) a8), (lk_ne (show Y ≠ (Y + 9) by omega) a9), (lk_ne (show Y ≠ (Y + 10) by omega) a10), (lk_ne (show Y ≠ (Y + 12) by omega) a12), (lk_ne (show Y ≠ (Y + 13) by omega) a13), (lk_ne (show Y ≠ (Y + 14) by omega) a14), (lk_ne (show Y ≠ (Y + 18) by omega) a18), (lk_ne (show Y ≠ (Y + 19) by omega) a19), (lk_ne (show Y ≠ (Y + 20) by omega) a20), (lk_ne (show Y ≠ (Y + 21) by omega) a21)⟩, ⟨_, _, (lk_ne (show Y ≠ (Y + 15) by omega) a15), (lk_ne (show Y ≠ (Y + 16) by omega) a16), b15⟩⟩
                    have hFb : FR (modS Y) w w1 := by rw [ew1]; exact (FR.st (c' := .inr (11, .int (nI 0) :: .int st :: .ref (Y + 1) :: .ref (Y + 2) :: .ref (Y + 3) :: .ref (Y + 4) :: .int (nI pn) :: .ref (Y + 5) :: .ref (Y + 6) :: .ref (Y + 7) :: .int dg :: .ref (Y + 8) :: .int dd :: .ref (Y + 9) :: .ref (Y + 10) :: .ref (Y + 11) :: .ref (Y + 12) :: .int ld :: .int be :: .int ib :: .ref (Y + 13) :: .ref (Y + 14) :: .ref (Y + 15) :: .ref (Y + 16) :: .ref (Y + 17) :: .int (nI tl) :: .int fa :: .int re :: .int ig :: .ref (Y + 18) :: .ref (Y + 19) :: .ref (Y + 20) :: .ref (Y + 21) :: [])) FR.rf hY rfl (by unfold modS; omega))
                    have c2b : w1[Y + 2]? = some (aI 0 626 g2) := by rw [ew1]; exact (lk_ne (show Y ≠ (Y + 2) by omega) a2)
                    have c3b : w1[Y + 3]? = some (aI 0 5008 g3) := by rw [ew1]; exact (lk_ne (show Y ≠ (Y + 3) by omega) a3)
                    have c4b : w1[Y + 4]? = some (aI 0 8 g4) := by rw [ew1]; exact (lk_ne (show Y ≠ (Y + 4) by omega) a4)
                    have cYb : w1[Y]? = some (.inr (11, .int (nI 0) :: .int st :: .ref (Y + 1) :: .ref (Y + 2) :: .ref (Y + 3) :: .ref (Y + 4) :: .int (nI pn) :: .ref (Y + 5) :: .ref (Y + 6) :: .ref (Y + 7) :: .int dg :: .ref (Y + 8) :: .int dd :: .ref (Y + 9) :: .ref (Y + 10) :: .ref (Y + 11) :: .ref (Y + 12) :: .int ld :: .int be :: .int ib :: .ref (Y + 13) :: .ref (Y + 14) :: .ref (Y + 15) :: .ref (Y + 16) :: .ref (Y + 17) :: .int (nI tl) :: .int fa :: .int re :: .int ig :: .ref (Y + 18) :: .ref (Y + 19) :: .ref (Y + 20) :: .ref (Y + 21) :: [])) := by rw [ew1]; exact (lk_eq hY)
                    obtain ⟨⟨thb, dgb, ddb, ldb, beb, ibb, reb, igb, hYb⟩, ⟨⟨g1b, a1b, b1b⟩, ⟨g2b, a2b, b2b⟩, ⟨g3b, g4b, a3b, a4b, b3b, b4b⟩, ⟨g5b, g6b, a5b, a6b, b5b⟩, ⟨g11b, a11b, b11b⟩, ⟨g17b, a17b, b17b⟩⟩, ⟨g7b, g8b, g9b, g10b, g12b, g13b, g14b, g18b, g19b, g20b, g21b, a7b, a8b, a9b, a10b, a12b, a13b, a14b, a18b, a19b, a20b, a21b⟩, ⟨g15b, g16b, a15b, a16b, b15b⟩⟩ := id hMb
                    refine GP.lsub _ (by simp) (se_all (Y := Y) (d := d) (h := h) (lv := lv) (v := v) hd10 hh3 ?_ (d / 2) 0 (by omega))
                    obtain ⟨sz, hsz⟩ : ∃ sz, (2 * h + 1) ^ (d / 2) = sz := ⟨_, rfl⟩
                    rw [hsz]
                    have hszb : sz ≤ 20000 := by rw [← hsz]; exact Nat.le_trans (Nat.pow_le_pow_left (show 2 * h + 1 ≤ 7 by omega) _) (Nat.le_trans (Nat.pow_le_pow_right (by decide) (show d / 2 ≤ 5 by omega)) (by decide))
                    refine g_iload (pc := 100) 0 dX12_search_100 rfl ?_
                    refine g_sipush (pc := 102) (v := nI 3125) dX12_search_102 (by decide) ?_
                    refine n_icmp_le (pc := 105) 115 dX12_search_105 (by decide) (by omega) (by omega) (fun hbig => ?_) (fun hbig => ?_)
                    · refine g_aload_n (pc := 115) 5 dX12_search_115 rfl rfl ?_
                      refine g_bipush (pc := 116) (v := nI 7) dX12_search_116 (by decide) ?_
                      refine g_callV (pc := 118) [.int (nI 7)] dX12_search_118 cv_X12_139.1 cv_X12_139.2.1 cv_X12_139.2.2.1 cv_X12_139.2.2.2 cYb rfl rfl (Nat.le_of_ble_eq_true rfl) (by decide) (by decide) (mp_remember _ (kd := 7) cYb c2b c3b c4b b3) ?_
                      rintro _ w9 ⟨rfl, e9⟩
                      refine GP.weq _ e9 ?_
                      refine g_aload_n (pc := 121) 5 dX12_search_121 rfl rfl ?_
                      refine g_get (pc := 122) dX12_search_122 fk_X12_13 (lk_eq (lk_ne (show (Y + 4) ≠ Y by omega) (lk_ne (show (Y + 3) ≠ Y by omega) cYb))) rfl ?_
                      refine g_bipush (pc := 125) (v := nI 112) dX12_search_125 (by decide) ?_
                      refine g_iconst (pc := 127) (v := nI 0) dX12_search_127 (by decide) ?_
                      refine g_iast (pc := 128) 112 dX12_search_128 (lk_ne (show Y ≠ (Y + 2) by omega) (lk_ne (show (Y + 4) ≠ (Y + 2) by omega) (lk_ne (show (Y + 3) ≠ (Y + 2) by omega) c2b))) (IXn (by omega) (by omega)) ?_
                      refine g_aload_n (pc := 129) 5 dX12_search_129 rfl rfl ?_
                      refine g_get (pc := 130) dX12_search_130 fk_X12_13 (lk_ne (show (Y + 2) ≠ Y by omega) (lk_eq (lk_ne (show (Y + 4) ≠ Y by omega) (lk_ne (show (Y + 3) ≠ Y by omega) cYb)))) rfl ?_
                      refine g_bipush (pc := 133) (v := nI 113) dX12_search_133 (by decide) ?_
                      refine g_iconst (pc := 135) (v := nI 0) dX12_search_135 (by decide) ?_
                      refine g_iast (pc := 136) 113 dX12_search_136 (lk_eq (lk_ne (show Y ≠ (Y + 2) by omega) (lk_ne (show (Y + 4) ≠ (Y + 2) by omega) (lk_ne (show (Y + 3) ≠ (Y + 2) by omega) c2b)))) (IXn (by omega) (by omega)) ?_
                      refine GP.weq ((((w1.set (Y + 3) (aI 0 5008 (rmU g2 g3 pn))).set (Y + 4) (aI 0 8 (rmS g4 pn 7))).set Y (.inr (11, .int (nI 0) :: .int st :: .ref (Y + 1) :: .ref (Y + 2) :: .ref (Y + 3) :: .ref (Y + 4) :: .int (nI (min (pn + 1) 8)) :: .ref (Y + 5) :: .ref (Y + 6) :: .ref (Y + 7) :: .int dg :: .ref (Y + 8) :: .int dd :: .ref (Y + 9) :: .ref (Y + 10) :: .ref (Y + 11) :: .ref (Y + 12) :: .int ld :: .int be :: .int ib :: .ref (Y + 13) :: .ref (Y + 14) :: .ref (Y + 15) :: .ref (Y + 16) :: .ref (Y + 17) :: .int (nI tl) :: .int fa :: .int re :: .int ig :: .ref (Y + 18) :: .ref (Y + 19) :: .ref (Y + 20) :: .ref (Y + 21) :: []))).set (Y + 2) (aI 0 626 (upd (upd g2 112 (nI 0)) 113 (nI 0)))) (by rw [List.set_set]) ?_
                      refine g_aload_n (pc := 137) 5 dX12_search_137 rfl rfl ?_
                      refine g_get (pc := 138) dX12_search_138 fk_X12_13 (lk_ne (show (Y + 2) ≠ Y by omega) (lk_eq (lk_ne (show (Y + 4) ≠ Y by omega) (lk_ne (show (Y + 3) ≠ Y by omega) cYb)))) rfl ?_
                      refine g_bipush (pc := 141) (v := nI 114) dX12_search_141 (by decide) ?_
                      refine g_iconst (pc := 143) (v := nI 0) dX12_search_143 (by decide) ?_
                      refine g_iast (pc := 144) 114 dX12_search_144 (lk_eq (lk_ne (show Y ≠ (Y + 2) by omega) (lk_ne (show (Y + 4) ≠ (Y + 2) by omega) (lk_ne (show (Y + 3) ≠ (Y + 2) by omega) c2b)))) (IXn (by omega) (by omega)) ?_
                      refine GP.weq ((((w1.set (Y + 3) (aI 0 5008 (rmU g2 g3 pn))).set (Y + 4) (aI 0 8 (rmS g4 pn 7))).set Y (.inr (11, .int (nI 0) :: .int st :: .ref (Y + 1) :: .ref (Y + 2) :: .ref (Y + 3) :: .ref (Y + 4) :: .int (nI (min (pn + 1) 8)) :: .ref (Y + 5) :: .ref (Y + 6) :: .ref (Y + 7) :: .int dg :: .ref (Y + 8) :: .int dd :: .ref (Y + 9) :: .ref (Y + 10) :: .ref (Y + 11) :: .ref (Y + 12) :: .int ld :: .int be :: .int ib :: .ref (Y + 13) :: .ref (Y + 14) :: .ref (Y + 15) :: .ref (Y + 16) :: .ref (Y + 17) :: .int (nI tl) :: .int fa :: .int re :: .int ig :: .ref (Y + 18) :: .ref (Y + 19) :: .ref (Y + 20) :: .ref (Y + 21) :: []))).set (Y + 2) (aI 0 626 (upd (upd (upd g2 112 (nI 0)) 113 (nI 0)) 114 (nI 0)))) (by rw [List.set_set]) ?_
                      refine g_aload_n (pc := 145) 5 dX12_search_145 rfl rfl ?_
                      refine g_get (pc := 146) dX12_search_146 fk_X12_13 (lk_ne (show (Y + 2) ≠ Y by omega) (lk_eq (lk_ne (show (Y + 4) ≠ Y by omega) (lk_ne (show (Y + 3) ≠ Y by omega) cYb)))) rfl ?_
                      refine g_bipush (pc := 149) (v := nI 115) dX12_search_149 (by decide) ?_
                      refine g_iconst (pc := 151) (v := nI 0) dX12_search_151 (by decide) ?_
                      refine g_iast (pc := 152) 115 dX12_search_152 (lk_eq (lk_ne (show Y ≠ (Y + 2) by omega) (lk_ne (show (Y + 4) ≠ (Y + 2) by omega) (lk_ne (show (Y + 3) ≠ (Y + 2) by omega) c2b)))) (IXn (by omega) (by omega)) ?_
                      refine GP.weq ((((w1.set (Y + 3) (aI 0 5008 (rmU g2 g3 pn))).set (Y + 4) (aI 0 8 (rmS g4 pn 7))).set Y (.inr (11, .int (nI 0) :: .int st :: .ref (Y + 1) :: .ref (Y + 2) :: .ref (Y + 3) :: .ref (Y + 4) :: .int (nI (min (pn + 1) 8)) :: .ref (Y + 5) :: .ref (Y + 6) :: .ref (Y + 7) :: .int dg :: .ref (Y + 8) :: .int dd :: .ref (Y + 9) :: .ref (Y + 10) :: .ref (Y + 11) :: .ref (Y + 12) :: .int ld :: .int be :: .int ib :: .ref (Y + 13) :: .ref (Y + 14) :: .ref (Y + 15) :: .ref (Y + 16) :: .ref (Y + 17) :: .int (nI tl) :: .int fa :: .int re :: .int ig :: .ref (Y + 18) :: .ref (Y + 19) :: .ref (Y + 20) :: .ref (Y + 21) :: []))).set (Y + 2) (aI 0 626 (upd (upd (upd (upd g2 112 (nI 0)) 113 (nI 0)) 114 (nI 0)) 115 (nI 0)))) (by rw [List.set_set]) ?_
                      refine g_iconst (pc := 153) (v := nI 0) dX12_search_153 (by decide) ?_
                      refine g_istore (pc := 154) [(6, .int (nI 0)), (5, .int (nI sz)), (4, .int (nI v)), (3, .int (nI lv)), (2, .int (nI h)), (1, .int (nI d)), (0, .ref Y)] dX12_search_154 (by decide) rfl ?_
                      have hrz : rowR (upd (upd (upd (upd g2 112 (nI 0)) 113 (nI 0)) 114 (nI 0)) 115 (nI 0)) (sh.1, (d, 0, 0, 0, 0, fun _ => 0)) := row_start (g := g2) (FV9 := sh.2) b2 (by omega) (fun i hi => by rw [upd_n (by omega), upd_n (by omega), upd_n (by omega), upd_n (by omega)]) (by rw [upd_n (by decide), upd_n (by decide), upd_n (by decide), upd_s]) (by rw [upd_n (by decide), upd_n (by decide), upd_s]) (by rw [upd_n (by decide), upd_s]) upd_s
                      obtain ⟨w3, ew3⟩ : ∃ wy : Wd, wy = ((((w1.set (Y + 3) (aI 0 5008 (rmU g2 g3 pn))).set (Y + 4) (aI 0 8 (rmS g4 pn 7))).set Y (.inr (11, .int (nI 0) :: .int st :: .ref (Y + 1) :: .ref (Y + 2) :: .ref (Y + 3) :: .ref (Y + 4) :: .int (nI (min (pn + 1) 8)) :: .ref (Y + 5) :: .ref (Y + 6) :: .ref (Y + 7) :: .int dg :: .ref (Y + 8) :: .int dd :: .ref (Y + 9) :: .ref (Y + 10) :: .ref (Y + 11) :: .ref (Y + 12) :: .int ld :: .int be :: .int ib :: .ref (Y + 13) :: .ref (Y + 14) :: .ref (Y + 15) :: .ref (Y + 16) :: .ref (Y + 17) :: .int (nI tl) :: .int fa :: .int re :: .int ig :: .ref (Y + 18) :: .ref (Y + 19) :: .ref (Y + 20) :: .ref (Y + 21) :: []))).set (Y + 2) (aI 0 626 (upd (upd (upd (upd g2 112 (nI 0)) 113 (nI 0)) 114 (nI 0)) 115 (nI 0)))) := ⟨_, rfl⟩
                      refine GP.weq w3 ew3.symm ?_
                      have hM3 : mdC w3 Y tl tb fa st rf (sh.1, (d, 0, 0, 0, 0, fun _ => 0)) (min (pn + 1) 8) (psh pn pk 7) (psh pn ps sh) im := by rw [ew3]; exact ⟨⟨_, _, _, _, _, _, _, _, (lk_ne (show (Y + 2) ≠ Y by omega) (lk_eq (lk_ne (show (Y + 4) ≠ Y by omega) (lk_ne (show (Y + 3) ≠ Y by omega) cYb))))⟩, ⟨⟨_, (lk_ne (show (Y + 2) ≠ (Y + 1) by omega) (lk_ne (show Y ≠ (Y + 1) by omega) (lk_ne (show (Y + 4) ≠ (Y + 1) by omega) (lk_ne (show (Y + 3) ≠ (Y + 1) by omega) a1b)))), b1b⟩, ⟨_, (lk_eq (lk_ne (show Y ≠ (Y + 2) by omega) (lk_ne (show (Y + 4) ≠ (Y + 2) by omega) (lk_ne (show (Y + 3) ≠ (Y + 2) by omega) c2b)))), hrz⟩, ⟨_, _, (lk_ne (show (Y + 2) ≠ (Y + 3) by omega) (lk_ne (show Y ≠ (Y + 3) by omega) (lk_ne (show (Y + 4) ≠ (Y + 3) by omega) (lk_eq c3b)))), (lk_ne (show (Y + 2) ≠ (Y + 4) by omega) (lk_ne (show Y ≠ (Y + 4) by omega) (lk_eq (lk_ne (show (Y + 3) ≠ (Y + 4) by omega) c4b)))), (by omega), (rm_und b3 b4 b2)⟩, ⟨_, _, (lk_ne (show (Y + 2) ≠ (Y + 5) by omega) (lk_ne (show Y ≠ (Y + 5) by omega) (lk_ne (show (Y + 4) ≠ (Y + 5) by omega) (lk_ne (show (Y + 3) ≠ (Y + 5) by omega) a5b)))), (lk_ne (show (Y + 2) ≠ (Y + 6) by omega) (lk_ne (show Y ≠ (Y + 6) by omega) (lk_ne (show (Y + 4) ≠ (Y + 6) by omega) (lk_ne (show (Y + 3) ≠ (Y + 6) by omega) a6b)))), b5b⟩, ⟨_, (lk_ne (show (Y + 2) ≠ (Y + 11) by omega) (lk_ne (show Y ≠ (Y + 11) by omega) (lk_ne (show (Y + 4) ≠ (Y + 11) by omega) (lk_ne (show (Y + 3) ≠ (Y + 11) by omega) a11b)))), b11b⟩, ⟨_, (lk_ne (show (Y + 2) ≠ (Y + 17) by omega) (lk_ne (show Y ≠ (Y + 17) by omega) (lk_ne (show (Y + 4) ≠ (Y + 17) by omega) (lk_ne (show (Y + 3) ≠ (Y + 17) by omega) a17b)))), b17b⟩⟩, ⟨_, _, _, _, _, _, _, _, _, _, _, (lk_ne (show (Y + 2) ≠ (Y + 7) by omega) (lk_ne (show Y ≠ (Y + 7) by omega) (lk_ne (show (Y + 4) ≠ (Y + 7) by omega) (lk_ne (show (Y + 3) ≠ (Y + 7) by omega) a7b)))), (lk_ne (show (Y + 2) ≠ (Y + 8) by omega) (lk_ne (show Y ≠ (Y + 8) by omega) (lk_ne (show (Y + 4) ≠ (Y + 8) by omega) (lk_ne (show (Y + 3) ≠ (Y + 8) by omega) a8b)))), (lk_ne (show (Y + 2) ≠ (Y + 9) by omega) (lk_ne (show Y ≠ (Y + 9) by omega) (lk_ne (show (Y + 4) ≠ (Y + 9) by omega) (lk_ne (show (Y + 3) ≠ (Y + 9) by omega) a9b)))), (lk_ne (show (Y + 2) ≠ (Y + 10) by omega) (lk_ne (show Y ≠ (Y + 10) by omega) (lk_ne (show (Y + 4) ≠ (Y + 10) by omega) (lk_ne (show (Y + 3) ≠ (Y + 10) by omega) a10b)))), (lk_ne (show (Y + 2) ≠ (Y + 12) by omega) (lk_ne (show Y ≠ (Y + 12) by omega) (lk_ne (show (Y + 4) ≠ (Y + 12) by omega) (lk_ne (show (Y + 3) ≠ (Y + 12) by omega) a12b)))), (lk_ne (show (Y + 2) ≠ (Y + 13) by omega) (lk_ne (show Y ≠ (Y + 13) by omega) (lk_ne (show (Y + 4) ≠ (Y + 13) by omega) (lk_ne (show (Y + 3) ≠ (Y + 13) by omega) a13b)))), (lk_ne (show (Y + 2) ≠ (Y + 14) by omega) (lk_ne (show Y ≠ (Y + 14) by omega) (lk_ne (show (Y + 4) ≠ (Y + 14) by omega) (lk_ne (show (Y + 3) ≠ (Y + 14) by omega) a14b)))), (lk_ne (show (Y + 2) ≠ (Y + 18) by omega) (lk_ne (show Y ≠ (Y + 18) by omega) (lk_ne (show (Y + 4) ≠ (Y + 18) by omega) (lk_ne (show (Y + 3) ≠ (Y + 18) by omega) a18b)))), (lk_ne (show (Y + 2) ≠ (Y + 19) by omega) (lk_ne (show Y ≠ (Y + 19) by omega) (lk_ne (show (Y + 4) ≠ (Y + 19) by omega) (lk_ne (show (Y + 3) ≠ (Y + 19) by omega) a19b)))), (lk_ne (show (Y + 2) ≠ (Y + 20) by omega) (lk_ne (show Y ≠ (Y + 20) by omega) (lk_ne (show (Y + 4) ≠ (Y + 20) by omega) (lk_ne (show (Y + 3) ≠ (Y + 20) by omega) a20b)))), (lk_ne (show (Y + 2) ≠ (Y + 21) by omega) (lk_ne (show Y ≠ (Y + 21) by omega) (lk_ne (show (Y + 4) ≠ (Y + 21) by omega) (lk_ne (show (Y + 3) ≠ (Y + 21) by omega) a21b))))⟩, ⟨_, _, (lk_ne (show (Y + 2) ≠ (Y + 15) by omega) (lk_ne (show Y ≠ (Y + 15) by omega) (lk_ne (show (Y + 4) ≠ (Y + 15) by omega) (lk_ne (show (Y + 3) ≠ (Y + 15) by omega) a15b)))), (lk_ne (show (Y + 2) ≠ (Y + 16) by omega) (lk_ne (show Y ≠ (Y + 16) by omega) (lk_ne (show (Y + 4) ≠ (Y + 16) by omega) (lk_ne (show (Y + 3) ≠ (Y + 16) by omega) a16b)))), b15b⟩⟩
                      have hF3 : FR (modS Y) w1 w3 := by rw [ew3]; exact (FR.st (c' := aI 0 626 (upd (upd (upd (upd g2 112 (nI 0)) 113 (nI 0)) 114 (nI 0)) 115 (nI 0))) (FR.st (c' := .inr (11, .int (nI 0) :: .int st :: .ref (Y + 1) :: .ref (Y + 2) :: .ref (Y + 3) :: .ref (Y + 4) :: .int (nI (min (pn + 1) 8)) :: .ref (Y + 5) :: .ref (Y + 6) :: .ref (Y + 7) :: .int dg :: .ref (Y + 8) :: .int dd :: .ref (Y + 9) :: .ref (Y + 10) :: .ref (Y + 11) :: .ref (Y + 12) :: .int ld :: .int be :: .int ib :: .ref (Y + 13) :: .ref (Y + 14) :: .ref (Y + 15) :: .ref (Y + 16) :: .ref (Y + 17) :: .int (nI tl) :: .int fa :: .int re :: .int ig :: .ref (Y + 18) :: .ref (Y + 19) :: .ref (Y + 20) :: .ref (Y + 21) :: [])) (FR.st (c' := aI 0 8 (rmS g4 pn 7)) (FR.st (c' := aI 0 5008 (rmU g2 g3 pn)) FR.rf c3b rfl (by unfold modS; omega)) (lk_ne (show (Y + 3) ≠ (Y + 4) by omega) c4b) rfl (by unfold modS; omega)) (lk_ne (show (Y + 4) ≠ Y by omega) (lk_ne (show (Y + 3) ≠ Y by omega) cYb)) rfl (by unfold modS; omega)) (lk_ne (show Y ≠ (Y + 2) by omega) (lk_ne (show (Y + 4) ≠ (Y + 2) by omega) (lk_ne (show (Y + 3) ≠ (Y + 2) by omega) c2b))) rfl (by unfold modS; omega))
                      refine GP.post ?_ (GP.lsub _ (by simp) (mse_loop (S := sh.1) (d := d) (h := h) (lv := lv) (v := v) (sz := sz) hd10 (by omega) hh3 (by omega) (by omega) (by omega) sz 0 0 0 (fun _ => 0) w3 (by omega) ⟨rfl, rfl⟩ hM3 (hFb.tr hF3)))
                      rintro r wf ⟨ia, on, E, h1, h2, h3, h4⟩
                      exact Or.inr (Or.inr ⟨d, h, lv, v, sz, ia, on, E, rfl, rfl, rfl, rfl, hok, ⟨by omega, by omega, by omega, by omega⟩, hsz, by omega, h2, h1, h3, h4⟩)
                    · refine g_aload_n (pc := 108) 5 dX12_search_108 rfl rfl ?_
                      refine g_bipush (pc := 109) (v := -4) dX12_search_109 (by decide) ?_
                      obtain ⟨wr, ewr⟩ : ∃ wy : Wd, wy = w1 := ⟨_, rfl⟩
                      refine GP.weq wr ewr.symm ?_
                      have hMr : mdC wr Y tl tb fa st rf sh pn pk ps im := by rw [ewr]; exact ⟨⟨_, _, _, _, _, _, _, _, cYb⟩, ⟨⟨_, a1b, b1b⟩, ⟨_, c2b, b2⟩, ⟨_, _, c3b, c4b, b3, b4⟩, ⟨_, _, a5b, a6b, b5b⟩, ⟨_, a11b, b11b⟩, ⟨_, a17b, b17b⟩⟩, ⟨_, _, _, _, _, _, _, _, _, _, _, a7b, a8b, a9b, a10b, a12b, a13b, a14b, a18b, a19b, a20b, a21b⟩, ⟨_, _, a15b, a16b, b15b⟩⟩
                      have hFr : FR (modS Y) w1 wr := by rw [ewr]; exact FR.rf
                      refine g_callV (pc := 111) [.int (-4)] dX12_search_111 cv_X12_96.1 cv_X12_96.2.1 cv_X12_96.2.2.1 cv_X12_96.2.2.2 (by rw [ewr]; exact cYb) rfl rfl (Nat.le_of_ble_eq_true rfl) (by decide) (by decide) (mq_refuse4 _ hMr) ?_
                      rintro _ wq ⟨rfl, hR⟩
                      exact g_iret (pc := 114) dX12_search_114 (Or.inr (Or.inl ⟨d, h, lv, v, rfl, rfl, rfl, rfl, hok, ⟨by omega, by omega, by omega, by omega⟩, by omega, ⟨rfl, hR.1, (hFb).tr (hFr.tr hR.2)⟩⟩))
                  · exact absurd hd9 (by decide)
                · refine GP.weq _ e9 ?_
                  rw [IL, L9p, L1k] at h4
                  refine n_if_ne (pc := 61) 70 dX12_search_61 (by decide) (by omega) (fun hd9 => ?_) (fun hd9 => ?_)
                  · exact absurd rfl hd9
                  · refine g_aload_n (pc := 64) 0 dX12_search_64 rfl rfl ?_
                    refine g_iconst (pc := 65) (v := -1) dX12_search_65 (by decide) ?_
                    obtain ⟨wr, ewr⟩ : ∃ wy : Wd, wy = (w.set Y (.inr (11, .int (nI 0) :: .int st :: .ref (Y + 1) :: .ref (Y + 2) :: .ref (Y + 3) :: .ref (Y + 4) :: .int (nI pn) :: .ref (Y + 5) :: .ref (Y + 6) :: .ref (Y + 7) :: .int dg :: .ref (Y + 8) :: .int dd :: .ref (Y + 9) :: .ref (Y + 10) :: .ref (Y + 11) :: .ref (Y + 12) :: .int ld :: .int be :: .int ib :: .ref (Y + 13) :: .ref (Y + 14) :: .ref (Y + 15) :: .ref (Y + 16) :: .ref (Y + 17) :: .int (nI tl) :: .int fa :: .int re :: .int ig :: .ref (Y + 18) :: .ref (Y + 19) :: .ref (Y + 20) :: .ref (Y + 21) :: []))) := ⟨_, rfl⟩
                    refine GP.weq wr ewr.symm ?_
                    have hMr : mdC wr Y tl tb fa st rf sh pn pk ps im := by rw [ewr]; exact ⟨⟨_, _, _, _, _, _, _, _, (lk_eq hY)⟩, ⟨⟨_, (lk_ne (show Y ≠ (Y + 1) by omega) a1), b1⟩, ⟨_, (lk_ne (show Y ≠ (Y + 2) by omega) a2), b2⟩, ⟨_, _, (lk_ne (show Y ≠ (Y + 3) by omega) a3), (lk_ne (show Y ≠ (Y + 4) by omega) a4), b3, b4⟩, ⟨_, _, (lk_ne (show Y ≠ (Y + 5) by omega) a5), (lk_ne (show Y ≠ (Y + 6) by omega) a6), b5⟩, ⟨_, (lk_ne (show Y ≠ (Y + 11) by omega) a11), b11⟩, ⟨_, (lk_ne (show Y ≠ (Y + 17) by omega) a17), b17⟩⟩, ⟨_, _, _, _, _, _, _, _, _, _, _, (lk_ne (show Y ≠ (Y + 7) by omega) a7), (lk_ne (show Y ≠ (Y + 8) by omega) a8), (lk_ne (show Y ≠ (Y + 9) by omega) a9), (lk_ne (show Y ≠ (Y + 10) by omega) a10), (lk_ne (show Y ≠ (Y + 12) by omega) a12), (lk_ne (show Y ≠ (Y + 13) by omega) a13), (lk_ne (show Y ≠ (Y + 14) by omega) a14), (lk_ne (show Y ≠ (Y + 18) by omega) a18), (lk_ne (show Y ≠ (Y + 19) by omega) a19), (lk_ne (show Y ≠ (Y + 20) by omega) a20), (lk_ne (show Y ≠ (Y + 21) by omega) a21)⟩, ⟨_, _, (lk_ne (show Y ≠ (Y + 15) by omega) a15), (lk_ne (show Y ≠ (Y + 16) by omega) a16), b15⟩⟩
                    have hFr : FR (modS Y) w wr := by rw [ewr]; exact (FR.st (c' := .inr (11, .int (nI 0) :: .int st :: .ref (Y + 1) :: .ref (Y + 2) :: .ref (Y + 3) :: .ref (Y + 4) :: .int (nI pn) :: .ref (Y + 5) :: .ref (Y + 6) :: .ref (Y + 7) :: .int dg :: .ref (Y + 8) :: .int dd :: .ref (Y + 9) :: .ref (Y + 10) :: .ref (Y + 11) :: .ref (Y + 12) :: .int ld :: .int be :: .int ib :: .ref (Y + 13) :: .ref (Y + 14) :: .ref (Y + 15) :: .ref (Y + 16) :: .ref (Y + 17) :: .int (nI tl) :: .int fa :: .int re :: .int ig :: .ref (Y + 18) :: .ref (Y + 19) :: .ref (Y + 20) :: .ref (Y + 21) :: [])) FR.rf hY rfl (by unfold modS; omega))
                    refine g_callV (pc := 66) [.int (-1)] dX12_search_66 cv_X12_96.1 cv_X12_96.2.1 cv_X12_96.2.2.1 cv_X12_96.2.2.2 (by rw [ewr]; exact (lk_eq hY)) rfl rfl (Nat.le_of_ble_eq_true rfl) (by decide) (by decide) (mq_refuse1 _ hMr) ?_
                    rintro _ wq ⟨rfl, hR⟩
                    exact g_iret (pc := 69) dX12_search_69 (Or.inl ⟨fun g => h4 ⟨g.2.2.2.1, g.2.2.2.2⟩, ⟨rfl, hR.1, hFr.tr hR.2⟩⟩)
            · refine GP.weq _ e9 ?_
              rw [IL, L6, L00] at h3
              refine n_if_eq (pc := 46) 64 dX12_search_46 (by decide) (by omega) (fun hd9 => ?_) (fun hd9 => ?_)
              · refine g_aload_n (pc := 64) 0 dX12_search_64 rfl rfl ?_
                refine g_iconst (pc := 65) (v := -1) dX12_search_65 (by decide) ?_
                obtain ⟨wr, ewr⟩ : ∃ wy : Wd, wy = (w.set Y (.inr (11, .int (nI 0) :: .int st :: .ref (Y + 1) :: .ref (Y + 2) :: .ref (Y + 3) :: .ref (Y + 4) :: .int (nI pn) :: .ref (Y + 5) :: .ref (Y + 6) :: .ref (Y + 7) :: .int dg :: .ref (Y + 8) :: .int dd :: .ref (Y + 9) :: .ref (Y + 10) :: .ref (Y + 11) :: .ref (Y + 12) :: .int ld :: .int be :: .int ib :: .ref (Y + 13) :: .ref (Y + 14) :: .ref (Y + 15) :: .ref (Y + 16) :: .ref (Y + 17) :: .int (nI tl) :: .int fa :: .int re :: .int ig :: .ref (Y + 18) :: .ref (Y + 19) :: .ref (Y + 20) :: .ref (Y + 21) :: []))) := ⟨_, rfl⟩
                refine GP.weq wr ewr.symm ?_
                have hMr : mdC wr Y tl tb fa st rf sh pn pk ps im := by rw [ewr]; exact ⟨⟨_, _, _, _, _, _, _, _, (lk_eq hY)⟩, ⟨⟨_, (lk_ne (show Y ≠ (Y + 1) by omega) a1), b1⟩, ⟨_, (lk_ne (show Y ≠ (Y + 2) by omega) a2), b2⟩, ⟨_, _, (lk_ne (show Y ≠ (Y + 3) by omega) a3), (lk_ne (show Y ≠ (Y + 4) by omega) a4), b3, b4⟩, ⟨_, _, (lk_ne (show Y ≠ (Y + 5) by omega) a5), (lk_ne (show Y ≠ (Y + 6) by omega) a6), b5⟩, ⟨_, (lk_ne (show Y ≠ (Y + 11) by omega) a11), b11⟩, ⟨_, (lk_ne (show Y ≠ (Y + 17) by omega) a17), b17⟩⟩, ⟨_, _, _, _, _, _, _, _, _, _, _, (lk_ne (show Y ≠ (Y + 7) by omega) a7), (lk_ne (show Y ≠ (Y + 8) by omega) a8), (lk_ne (show Y ≠ (Y + 9) by omega) a9), (lk_ne (show Y ≠ (Y + 10) by omega) a10), (lk_ne (show Y ≠ (Y + 12) by omega) a12), (lk_ne (show Y ≠ (Y + 13) by omega) a13), (lk_ne (show Y ≠ (Y + 14) by omega) a14), (lk_ne (show Y ≠ (Y + 18) by omega) a18), (lk_ne (show Y ≠ (Y + 19) by omega) a19), (lk_ne (show Y ≠ (Y + 20) by omega) a20), (lk_ne (show Y ≠ (Y + 21) by omega) a21)⟩, ⟨_, _, (lk_ne (show Y ≠ (Y + 15) by omega) a15), (lk_ne (show Y ≠ (Y + 16) by omega) a16), b15⟩⟩
                have hFr : FR (modS Y) w wr := by rw [ewr]; exact (FR.st (c' := .inr (11, .int (nI 0) :: .int st :: .ref (Y + 1) :: .ref (Y + 2) :: .ref (Y + 3) :: .ref (Y + 4) :: .int (nI pn) :: .ref (Y + 5) :: .ref (Y + 6) :: .ref (Y + 7) :: .int dg :: .ref (Y + 8) :: .int dd :: .ref (Y + 9) :: .ref (Y + 10) :: .ref (Y + 11) :: .ref (Y + 12) :: .int ld :: .int be :: .int ib :: .ref (Y + 13) :: .ref (Y + 14) :: .ref (Y + 15) :: .ref (Y + 16) :: .ref (Y + 17) :: .int (nI tl) :: .int fa :: .int re :: .int ig :: .ref (Y + 18) :: .ref (Y + 19) :: .ref (Y + 20) :: .ref (Y + 21) :: [])) FR.rf hY rfl (by unfold modS; omega))
                refine g_callV (pc := 66) [.int (-1)] dX12_search_66 cv_X12_96.1 cv_X12_96.2.1 cv_X12_96.2.2.1 cv_X12_96.2.2.2 (by rw [ewr]; exact (lk_eq hY)) rfl rfl (Nat.le_of_ble_eq_true rfl) (by decide) (by decide) (mq_refuse1 _ hMr) ?_
                rintro _ wq ⟨rfl, hR⟩
                exact g_iret (pc := 69) dX12_search_69 (Or.inl ⟨fun g => h3 g.2.2.1, ⟨rfl, hR.1, hFr.tr hR.2⟩⟩)
              · exact absurd rfl hd9
        · refine GP.weq _ e9 ?_
          rw [IL, L3n, L1] at h2
          refine n_if_eq (pc := 34) 64 dX12_search_34 (by decide) (by omega) (fun hd9 => ?_) (fun hd9 => ?_)
          · refine g_aload_n (pc := 64) 0 dX12_search_64 rfl rfl ?_
            refine g_iconst (pc := 65) (v := -1) dX12_search_65 (by decide) ?_
            obtain ⟨wr, ewr⟩ : ∃ wy : Wd, wy = (w.set Y (.inr (11, .int (nI 0) :: .int st :: .ref (Y + 1) :: .ref (Y + 2) :: .ref (Y + 3) :: .ref (Y + 4) :: .int (nI pn) :: .ref (Y + 5) :: .ref (Y + 6) :: .ref (Y + 7) :: .int dg :: .ref (Y + 8) :: .int dd :: .ref (Y + 9) :: .ref (Y + 10) :: .ref (Y + 11) :: .ref (Y + 12) :: .int ld :: .int be :: .int ib :: .ref (Y + 13) :: .ref (Y + 14) :: .ref (Y + 15) :: .ref (Y + 16) :: .ref (Y + 17) :: .int (nI tl) :: .int fa :: .int re :: .int ig :: .ref (Y + 18) :: .ref (Y + 19) :: .ref (Y + 20) :: .ref (Y + 21) :: []))) := ⟨_, rfl⟩
            refine GP.weq wr ewr.symm ?_
            have hMr : mdC wr Y tl tb fa st rf sh pn pk ps im := by rw [ewr]; exact ⟨⟨_, _, _, _, _, _, _, _, (lk_eq hY)⟩, ⟨⟨_, (lk_ne (show Y ≠ (Y + 1) by omega) a1), b1⟩, ⟨_, (lk_ne (show Y ≠ (Y + 2) by omega) a2), b2⟩, ⟨_, _, (lk_ne (show Y ≠ (Y + 3) by omega) a3), (lk_ne (show Y ≠ (Y + 4) by omega) a4), b3, b4⟩, ⟨_, _, (lk_ne (show Y ≠ (Y + 5) by omega) a5), (lk_ne (show Y ≠ (Y + 6) by omega) a6), b5⟩, ⟨_, (lk_ne (show Y ≠ (Y + 11) by omega) a11), b11⟩, ⟨_, (lk_ne (show Y ≠ (Y + 17) by omega) a17), b17⟩⟩, ⟨_, _, _, _, _, _, _, _, _, _, _, (lk_ne (show Y ≠ (Y + 7) by omega) a7), (lk_ne (show Y ≠ (Y + 8) by omega) a8), (lk_ne (show Y ≠ (Y + 9) by omega) a9), (lk_ne (show Y ≠ (Y + 10) by omega) a10), (lk_ne (show Y ≠ (Y + 12) by omega) a12), (lk_ne (show Y ≠ (Y + 13) by omega) a13), (lk_ne (show Y ≠ (Y + 14) by omega) a14), (lk_ne (show Y ≠ (Y + 18) by omega) a18), (lk_ne (show Y ≠ (Y + 19) by omega) a19), (lk_ne (show Y ≠ (Y + 20) by omega) a20), (lk_ne (show Y ≠ (Y + 21) by omega) a21)⟩, ⟨_, _, (lk_ne (show Y ≠ (Y + 15) by omega) a15), (lk_ne (show Y ≠ (Y + 16) by omega) a16), b15⟩⟩
            have hFr : FR (modS Y) w wr := by rw [ewr]; exact (FR.st (c' := .inr (11, .int (nI 0) :: .int st :: .ref (Y + 1) :: .ref (Y + 2) :: .ref (Y + 3) :: .ref (Y + 4) :: .int (nI pn) :: .ref (Y + 5) :: .ref (Y + 6) :: .ref (Y + 7) :: .int dg :: .ref (Y + 8) :: .int dd :: .ref (Y + 9) :: .ref (Y + 10) :: .ref (Y + 11) :: .ref (Y + 12) :: .int ld :: .int be :: .int ib :: .ref (Y + 13) :: .ref (Y + 14) :: .ref (Y + 15) :: .ref (Y + 16) :: .ref (Y + 17) :: .int (nI tl) :: .int fa :: .int re :: .int ig :: .ref (Y + 18) :: .ref (Y + 19) :: .ref (Y + 20) :: .ref (Y + 21) :: [])) FR.rf hY rfl (by unfold modS; omega))
            refine g_callV (pc := 66) [.int (-1)] dX12_search_66 cv_X12_96.1 cv_X12_96.2.1 cv_X12_96.2.2.1 cv_X12_96.2.2.2 (by rw [ewr]; exact (lk_eq hY)) rfl rfl (Nat.le_of_ble_eq_true rfl) (by decide) (by decide) (mq_refuse1 _ hMr) ?_
            rintro _ wq ⟨rfl, hR⟩
            exact g_iret (pc := 69) dX12_search_69 (Or.inl ⟨fun g => h2 g.2.1, ⟨rfl, hR.1, hFr.tr hR.2⟩⟩)
          · exact absurd rfl hd9
  · refine GP.weq _ e9 ?_
    rw [IL, L10, L2n] at h1
    refine n_if_eq (pc := 16) 64 dX12_search_16 (by decide) (by omega) (fun hd9 => ?_) (fun hd9 => ?_)
    · refine g_aload_n (pc := 64) 0 dX12_search_64 rfl rfl ?_
      refine g_iconst (pc := 65) (v := -1) dX12_search_65 (by decide) ?_
      obtain ⟨wr, ewr⟩ : ∃ wy : Wd, wy = (w.set Y (.inr (11, .int (nI 0) :: .int st :: .ref (Y + 1) :: .ref (Y + 2) :: .ref (Y + 3) :: .ref (Y + 4) :: .int (nI pn) :: .ref (Y + 5) :: .ref (Y + 6) :: .ref (Y + 7) :: .int dg :: .ref (Y + 8) :: .int dd :: .ref (Y + 9) :: .ref (Y + 10) :: .ref (Y + 11) :: .ref (Y + 12) :: .int ld :: .int be :: .int ib :: .ref (Y + 13) :: .ref (Y + 14) :: .ref (Y + 15) :: .ref (Y + 16) :: .ref (Y + 17) :: .int (nI tl) :: .int fa :: .int re :: .int ig :: .ref (Y + 18) :: .ref (Y + 19) :: .ref (Y + 20) :: .ref (Y + 21) :: []))) := ⟨_, rfl⟩
      refine GP.weq wr ewr.symm ?_
      have hMr : mdC wr Y tl tb fa st rf sh pn pk ps im := by rw [ewr]; exact ⟨⟨_, _, _, _, _, _, _, _, (lk_eq hY)⟩, ⟨⟨_, (lk_ne (show Y ≠ (Y + 1) by omega) a1), b1⟩, ⟨_, (lk_ne (show Y ≠ (Y + 2) by omega) a2), b2⟩, ⟨_, _, (lk_ne (show Y ≠ (Y + 3) by omega) a3), (lk_ne (show Y ≠ (Y + 4) by omega) a4), b3, b4⟩, ⟨_, _, (lk_ne (show Y ≠ (Y + 5) by omega) a5), (lk_ne (show Y ≠ (Y + 6) by omega) a6), b5⟩, ⟨_, (lk_ne (show Y ≠ (Y + 11) by omega) a11), b11⟩, ⟨_, (lk_ne (show Y ≠ (Y + 17) by omega) a17), b17⟩⟩, ⟨_, _, _, _, _, _, _, _, _, _, _, (lk_ne (show Y ≠ (Y + 7) by omega) a7), (lk_ne (show Y ≠ (Y + 8) by omega) a8), (lk_ne (show Y ≠ (Y + 9) by omega) a9), (lk_ne (show Y ≠ (Y + 10) by omega) a10), (lk_ne (show Y ≠ (Y + 12) by omega) a12), (lk_ne (show Y ≠ (Y + 13) by omega) a13), (lk_ne (show Y ≠ (Y + 14) by omega) a14), (lk_ne (show Y ≠ (Y + 18) by omega) a18), (lk_ne (show Y ≠ (Y + 19) by omega) a19), (lk_ne (show Y ≠ (Y + 20) by omega) a20), (lk_ne (show Y ≠ (Y + 21) by omega) a21)⟩, ⟨_, _, (lk_ne (show Y ≠ (Y + 15) by omega) a15), (lk_ne (show Y ≠ (Y + 16) by omega) a16), b15⟩⟩
      have hFr : FR (modS Y) w wr := by rw [ewr]; exact (FR.st (c' := .inr (11, .int (nI 0) :: .int st :: .ref (Y + 1) :: .ref (Y + 2) :: .ref (Y + 3) :: .ref (Y + 4) :: .int (nI pn) :: .ref (Y + 5) :: .ref (Y + 6) :: .ref (Y + 7) :: .int dg :: .ref (Y + 8) :: .int dd :: .ref (Y + 9) :: .ref (Y + 10) :: .ref (Y + 11) :: .ref (Y + 12) :: .int ld :: .int be :: .int ib :: .ref (Y + 13) :: .ref (Y + 14) :: .ref (Y + 15) :: .ref (Y + 16) :: .ref (Y + 17) :: .int (nI tl) :: .int fa :: .int re :: .int ig :: .ref (Y + 18) :: .ref (Y + 19) :: .ref (Y + 20) :: .ref (Y + 21) :: [])) FR.rf hY rfl (by unfold modS; omega))
      refine g_callV (pc := 66) [.int (-1)] dX12_search_66 cv_X12_96.1 cv_X12_96.2.1 cv_X12_96.2.2.1 cv_X12_96.2.2.2 (by rw [ewr]; exact (lk_eq hY)) rfl rfl (Nat.le_of_ble_eq_true rfl) (by decide) (by decide) (mq_refuse1 _ hMr) ?_
      rintro _ wq ⟨rfl, hR⟩
      exact g_iret (pc := 69) dX12_search_69 (Or.inl ⟨fun g => h1 ⟨g.1.1, g.1.2.1⟩, ⟨rfl, hR.1, hFr.tr hR.2⟩⟩)
    · exact absurd rfl hd9
