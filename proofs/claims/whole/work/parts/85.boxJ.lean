/-! MahlerBox: search -/
def okSe (x y z u : Int32) : Prop := (2 ≤ x.toInt ∧ x.toInt ≤ 10 ∧ x.toInt % 2 = 0) ∧ (1 ≤ y.toInt ∧ y.toInt ≤ 3) ∧ isLv z ∧ 1000 ≤ u.toInt ∧ u.toInt ≤ 9999
theorem box_le {d h : Nat} (hd : d ≤ 10) (hh : h ≤ 3) : (2 * h + 1) ^ (d / 2) ≤ 16807 := by
  have h1 : (2 * h + 1) ^ (d / 2) ≤ 7 ^ (d / 2) := Nat.pow_le_pow_left (by omega) _
  have h2 : 7 ^ (d / 2) ≤ 7 ^ 5 := Nat.pow_le_pow_right (by decide) (by omega)
  have h3 : (7 : Nat) ^ 5 = 16807 := by decide
  omega
theorem sp_search (w : Wd) {X tl : Nat} {tb : Nat → Int32} {fa st : Int32} {rf : Nat → Nat} {sh : SV} {pn : Nat} {pk : Nat → Nat} {ps : Nat → SV} {im : Nat → Option SV} (hB : bxC w X tl tb fa st rf sh pn pk ps im) {x y z u : Int32} : EX11_search [.ref X, .int x, .int y, .int z, .int u] w (fun r w' => (¬ okSe x y z u ∧ rfP (-1) 0 w X tl tb fa rf sh pn pk ps im r w') ∨ (∃ d h lv v, x = nI d ∧ y = nI h ∧ z = nI lv ∧ u = nI v ∧ okSe x y z u ∧ 3125 < (2 * h + 1) ^ (d / 2) ∧ rfP (-4) 2 w X tl tb fa rf sh pn pk ps im r w') ∨ (∃ d h lv v sz ia on E, x = nI d ∧ y = nI h ∧ z = nI lv ∧ u = nI v ∧ okSe x y z u ∧ (2 * h + 1) ^ (d / 2) = sz ∧ sz ≤ 3125 ∧ srS d h lv v sz ia on E ∧ r = some (.int (nI ia)) ∧ bxC w' X tl tb fa (nI 0) rf (sh.1, (d, ia, sz, on, min ia 30, E)) (min (pn + 1) 8) (psh pn pk 7) (psh pn ps sh) im ∧ EX (boxS X) 4 500 w w')) := by
  refine EP.of (plainFor_of_name (by decide)) [(0, .ref X), (1, .int x), (2, .int y), (3, .int z), (4, .int u)] rfl (Nat.le_of_ble_eq_true rfl) (fun r wf h => by rcases h with ⟨-, h⟩ | ⟨d, h, lv, v, -, -, -, -, -, -, h⟩ | ⟨d, h, lv, v, sz, ia, on, E, -, -, -, -, -, -, -, -, rfl, -⟩; obtain ⟨x, rfl⟩ := rokR h; trivial; obtain ⟨x, rfl⟩ := rokR h; trivial; trivial) ?_
  show BX11_search w _ w 0 [(0, .ref X), (1, .int x), (2, .int y), (3, .int z), (4, .int u)] []
  have hB0 := id hB
  obtain ⟨⟨s, hX, hs⟩, htp, hW, hpa, him, hrf⟩ := hB
  have hs0 := id hs
  obtain ⟨sp9, sf9, sh9, hs1, hs2, hs3, hs4, hs5, hs6⟩ := hs
  obtain ⟨htl, tpl, tf, ht1, ht2, ht3⟩ := id htp
  obtain ⟨row9, hrow9⟩ := hW.2.2.2.2.1
  obtain ⟨spa9, hspa9⟩ := hW.2.2.2.2.2
  have z1 : (nI 1).toInt = 1 := by decide
  have z2 : (nI 2).toInt = 2 := by decide
  have z3 : (nI 3).toInt = 3 := by decide
  have z10 : (nI 10).toInt = 10 := by decide
  have z1000 : (nI 1000).toInt = 1000 := by decide
  have z9999 : (nI 9999).toInt = 9999 := by decide
  refine g_iload_n (pc := 0) 1 dX11_search_0 rfl rfl ?_
  refine g_iconst (pc := 1) (v := nI 2) dX11_search_1 (by decide) ?_
  refine g_icmp_lt (pc := 2) 31 dX11_search_2 (by decide) (fun h1 => ?_) (fun h1 => ?_)
  · rw [Int32.lt_iff_toInt_lt, z2] at h1
    refine g_iconst (pc := 31) (v := nI 0) dX11_search_31 (by decide) ?_
    refine g_istore (pc := 32) [(5, .int (nI 0)), (0, .ref X), (1, .int x), (2, .int y), (3, .int z), (4, .int u)] dX11_search_32 (by decide) rfl ?_
    refine g_iload (pc := 34) 0 dX11_search_34 rfl ?_
    refine n_if_eq (pc := 36) 62 dX11_search_36 (by decide) (by omega) (fun hq9 => ?_) (fun hq9 => ?_)
    · refine g_aload_n (pc := 62) 1 dX11_search_62 rfl rfl ?_
      refine g_iconst (pc := 63) (v := -1) dX11_search_63 (by decide) ?_
      refine g_callV (pc := 64) [.int (-1)] dX11_search_64 cv_X11_98.1 cv_X11_98.2.1 cv_X11_98.2.2.1 cv_X11_98.2.2.2 hX rfl rfl (Nat.le_of_ble_eq_true rfl) (by decide) (by decide) (sp_refuse1 _ hB0) ?_
      rintro _ w5 ⟨rfl, hB5, hE5⟩
      exact g_iret (pc := 67) dX11_search_67 (Or.inl ⟨fun h9 => by have := h9.1; omega, rfl, hB5, hE5.le (by omega) (by omega)⟩)
    · exact absurd rfl hq9
  · rw [Int32.lt_iff_toInt_lt, z2] at h1
    refine g_iload_n (pc := 5) 1 dX11_search_5 rfl rfl ?_
    refine g_bipush (pc := 6) (v := nI 10) dX11_search_6 (by decide) ?_
    refine g_icmp_gt (pc := 8) 31 dX11_search_8 (by decide) (fun h2 => ?_) (fun h2 => ?_)
    · rw [Int32.lt_iff_toInt_lt, z10] at h2
      refine g_iconst (pc := 31) (v := nI 0) dX11_search_31 (by decide) ?_
      refine g_istore (pc := 32) [(5, .int (nI 0)), (0, .ref X), (1, .int x), (2, .int y), (3, .int z), (4, .int u)] dX11_search_32 (by decide) rfl ?_
      refine g_iload (pc := 34) 0 dX11_search_34 rfl ?_
      refine n_if_eq (pc := 36) 62 dX11_search_36 (by decide) (by omega) (fun hq9 => ?_) (fun hq9 => ?_)
      · refine g_aload_n (pc := 62) 1 dX11_search_62 rfl rfl ?_
        refine g_iconst (pc := 63) (v := -1) dX11_search_63 (by decide) ?_
        refine g_callV (pc := 64) [.int (-1)] dX11_search_64 cv_X11_98.1 cv_X11_98.2.1 cv_X11_98.2.2.1 cv_X11_98.2.2.2 hX rfl rfl (Nat.le_of_ble_eq_true rfl) (by decide) (by decide) (sp_refuse1 _ hB0) ?_
        rintro _ w5 ⟨rfl, hB5, hE5⟩
        exact g_iret (pc := 67) dX11_search_67 (Or.inl ⟨fun h9 => by have := h9.1; omega, rfl, hB5, hE5.le (by omega) (by omega)⟩)
      · exact absurd rfl hq9
    · rw [Int32.lt_iff_toInt_lt, z10] at h2
      obtain ⟨d, hde, hd⟩ : ∃ d : Nat, x = nI d ∧ d < 11 := ⟨x.toInt.toNat, nI_toNat (by omega), by omega⟩
      subst hde
      have hdt : (nI d).toInt = d := nI_toInt (by omega)
      rw [hdt] at h1 h2
      refine g_iload_n (pc := 11) 1 dX11_search_11 rfl rfl ?_
      refine g_iconst (pc := 12) (v := nI 2) dX11_search_12 (by decide) ?_
      refine n_irem (pc := 13) dX11_search_13 (by omega) (by omega) (by omega) ?_
      refine n_if_ne (pc := 14) 31 dX11_search_14 (by decide) (by omega) (fun h3 => ?_) (fun h3 => ?_)
      · refine g_iconst (pc := 31) (v := nI 0) dX11_search_31 (by decide) ?_
        refine g_istore (pc := 32) [(5, .int (nI 0)), (0, .ref X), (1, .int (nI d)), (2, .int y), (3, .int z), (4, .int u)] dX11_search_32 (by decide) rfl ?_
        refine g_iload (pc := 34) 0 dX11_search_34 rfl ?_
        refine n_if_eq (pc := 36) 62 dX11_search_36 (by decide) (by omega) (fun hq9 => ?_) (fun hq9 => ?_)
        · refine g_aload_n (pc := 62) 1 dX11_search_62 rfl rfl ?_
          refine g_iconst (pc := 63) (v := -1) dX11_search_63 (by decide) ?_
          refine g_callV (pc := 64) [.int (-1)] dX11_search_64 cv_X11_98.1 cv_X11_98.2.1 cv_X11_98.2.2.1 cv_X11_98.2.2.2 hX rfl rfl (Nat.le_of_ble_eq_true rfl) (by decide) (by decide) (sp_refuse1 _ hB0) ?_
          rintro _ w5 ⟨rfl, hB5, hE5⟩
          exact g_iret (pc := 67) dX11_search_67 (Or.inl ⟨fun h9 => by have := h9.1; rw [hdt] at this; omega, rfl, hB5, hE5.le (by omega) (by omega)⟩)
        · exact absurd rfl hq9
      · refine g_iload_n (pc := 17) 2 dX11_search_17 rfl rfl ?_
        refine g_iconst (pc := 18) (v := nI 1) dX11_search_18 (by decide) ?_
        refine g_icmp_lt (pc := 19) 31 dX11_search_19 (by decide) (fun h4 => ?_) (fun h4 => ?_)
        · rw [Int32.lt_iff_toInt_lt, z1] at h4
          refine g_iconst (pc := 31) (v := nI 0) dX11_search_31 (by decide) ?_
          refine g_istore (pc := 32) [(5, .int (nI 0)), (0, .ref X), (1, .int (nI d)), (2, .int y), (3, .int z), (4, .int u)] dX11_search_32 (by decide) rfl ?_
          refine g_iload (pc := 34) 0 dX11_search_34 rfl ?_
          refine n_if_eq (pc := 36) 62 dX11_search_36 (by decide) (by omega) (fun hq9 => ?_) (fun hq9 => ?_)
          · refine g_aload_n (pc := 62) 1 dX11_search_62 rfl rfl ?_
            refine g_iconst (pc := 63) (v := -1) dX11_search_63 (by decide) ?_
            refine g_callV (pc := 64) [.int (-1)] dX11_search_64 cv_X11_98.1 cv_X11_98.2.1 cv_X11_98.2.2.1 cv_X11_98.2.2.2 hX rfl rfl (Nat.le_of_ble_eq_true rfl) (by decide) (by decide) (sp_refuse1 _ hB0) ?_
            rintro _ w5 ⟨rfl, hB5, hE5⟩
            exact g_iret (pc := 67) dX11_search_67 (Or.inl ⟨fun h9 => by have := h9.2.1; omega, rfl, hB5, hE5.le (by omega) (by omega)⟩)
          · exact absurd rfl hq9
        · rw [Int32.lt_iff_toInt_lt, z1] at h4
          refine g_iload_n (pc := 22) 2 dX11_search_22 rfl rfl ?_
          refine g_iconst (pc := 23) (v := nI 3) dX11_search_23 (by decide) ?_
          refine g_icmp_gt (pc := 24) 31 dX11_search_24 (by decide) (fun h5 => ?_) (fun h5 => ?_)
          · rw [Int32.lt_iff_toInt_lt, z3] at h5
            refine g_iconst (pc := 31) (v := nI 0) dX11_search_31 (by decide) ?_
            refine g_istore (pc := 32) [(5, .int (nI 0)), (0, .ref X), (1, .int (nI d)), (2, .int y), (3, .int z), (4, .int u)] dX11_search_32 (by decide) rfl ?_
            refine g_iload (pc := 34) 0 dX11_search_34 rfl ?_
            refine n_if_eq (pc := 36) 62 dX11_search_36 (by decide) (by omega) (fun hq9 => ?_) (fun hq9 => ?_)
            · refine g_aload_n (pc := 62) 1 dX11_search_62 rfl rfl ?_
              refine g_iconst (pc := 63) (v := -1) dX11_search_63 (by decide) ?_
              refine g_callV (pc := 64) [.int (-1)] dX11_search_64 cv_X11_98.1 cv_X11_98.2.1 cv_X11_98.2.2.1 cv_X11_98.2.2.2 hX rfl rfl (Nat.le_of_ble_eq_true rfl) (by decide) (by decide) (sp_refuse1 _ hB0) ?_
              rintro _ w5 ⟨rfl, hB5, hE5⟩
              exact g_iret (pc := 67) dX11_search_67 (Or.inl ⟨fun h9 => by have := h9.2.1; omega, rfl, hB5, hE5.le (by omega) (by omega)⟩)
            · exact absurd rfl hq9
          · rw [Int32.lt_iff_toInt_lt, z3] at h5
            obtain ⟨h, hhe, hh⟩ : ∃ h : Nat, y = nI h ∧ h < 4 := ⟨y.toInt.toNat, nI_toNat (by omega), by omega⟩
            subst hhe
            have hht : (nI h).toInt = h := nI_toInt (by omega)
            rw [hht] at h4 h5
            refine g_iconst (pc := 27) (v := nI 1) dX11_search_27 (by decide) ?_
            refine g_goto (pc := 28) 32 dX11_search_28 (by decide) ?_
            refine g_istore (pc := 32) [(5, .int (nI 1)), (0, .ref X), (1, .int (nI d)), (2, .int (nI h)), (3, .int z), (4, .int u)] dX11_search_32 (by decide) rfl ?_
            refine g_iload (pc := 34) 0 dX11_search_34 rfl ?_
            refine n_if_eq (pc := 36) 62 dX11_search_36 (by decide) (by omega) (fun hq9 => ?_) (fun hq9 => ?_)
            · exact absurd hq9 (by decide)
            · refine g_iload_n (pc := 39) 4 dX11_search_39 rfl rfl ?_
              refine g_callS (pc := 40) [.int z] dX11_search_40 cs_X11_168.1 cs_X11_168.2 rfl rfl (Nat.le_of_ble_eq_true rfl) (by decide) (by decide) (sp_isLevel _ (x := z)) ?_
              rintro _ w9 (⟨rfl, hplv, e9⟩ | ⟨rfl, hplv, e9⟩)
              · refine GP.weq _ e9 ?_
                refine n_if_eq (pc := 43) 62 dX11_search_43 (by decide) (by omega) (fun hzlv => ?_) (fun hzlv => ?_)
                · exact absurd hzlv (by decide)
                · obtain ⟨lv, hlve, hlv⟩ : ∃ lv : Nat, z = nI lv ∧ lv < 7 := ⟨z.toInt.toNat, nI_toNat (by omega), by omega⟩
                  subst hlve
                  refine g_iload (pc := 46) 5 dX11_search_46 rfl ?_
                  refine g_sipush (pc := 48) (v := nI 1000) dX11_search_48 (by decide) ?_
                  refine g_icmp_lt (pc := 51) 62 dX11_search_51 (by decide) (fun h6 => ?_) (fun h6 => ?_)
                  · rw [Int32.lt_iff_toInt_lt, z1000] at h6
                    refine g_aload_n (pc := 62) 1 dX11_search_62 rfl rfl ?_
                    refine g_iconst (pc := 63) (v := -1) dX11_search_63 (by decide) ?_
                    refine g_callV (pc := 64) [.int (-1)] dX11_search_64 cv_X11_98.1 cv_X11_98.2.1 cv_X11_98.2.2.1 cv_X11_98.2.2.2 hX rfl rfl (Nat.le_of_ble_eq_true rfl) (by decide) (by decide) (sp_refuse1 _ hB0) ?_
                    rintro _ w5 ⟨rfl, hB5, hE5⟩
                    exact g_iret (pc := 67) dX11_search_67 (Or.inl ⟨fun h9 => by have := h9.2.2.2.1; omega, rfl, hB5, hE5.le (by omega) (by omega)⟩)
                  · rw [Int32.lt_iff_toInt_lt, z1000] at h6
                    refine g_iload (pc := 54) 5 dX11_search_54 rfl ?_
                    refine g_sipush (pc := 56) (v := nI 9999) dX11_search_56 (by decide) ?_
                    refine g_icmp_le (pc := 59) 68 dX11_search_59 (by decide) (fun h7 => ?_) (fun h7 => ?_)
                    · rw [Int32.le_iff_toInt_le, z9999] at h7
                      obtain ⟨v, hve, hv⟩ : ∃ v : Nat, u = nI v ∧ v < 10000 := ⟨u.toInt.toNat, nI_toNat (by omega), by omega⟩
                      subst hve
                      have hvt : (nI v).toInt = v := nI_toInt (by omega)
                      rw [hvt] at h6 h7
                      have hbl := box_le (d := d) (h := h) (by omega) (by omega)
                      obtain ⟨sz, hsz⟩ : ∃ sz : Nat, (2 * h + 1) ^ (d / 2) = sz := ⟨_, rfl⟩
                      rw [hsz] at hbl
                      have hok : okSe (nI d) (nI h) (nI lv) (nI v) := ⟨by rw [hdt]; omega, by rw [hht]; omega, by unfold isLv; rw [nI_toInt (by omega)]; omega, by rw [hvt]; omega⟩
                      refine g_iload_n (pc := 68) 2 dX11_search_68 rfl rfl ?_
                      refine g_iload_n (pc := 69) 3 dX11_search_69 rfl rfl ?_
                      refine g_callS (pc := 70) [.int (nI d), .int (nI h)] dX11_search_70 cs_X11_171.1 cs_X11_171.2 rfl rfl (Nat.le_of_ble_eq_true rfl) (by decide) (by decide) (sp_boxSize _ (n := d) (h := h) (by omega) (by omega)) ?_
                      rintro _ w9 ⟨rfl, e9⟩
                      refine GP.weq _ e9 ?_
                      refine GP.ti (nI sz) (by rw [hsz]) ?_
                      refine g_sipush (pc := 73) (v := nI 3125) dX11_search_73 (by decide) ?_
                      refine n_icmp_le (pc := 76) 86 dX11_search_76 (by decide) (by omega) (by omega) (fun h8 => ?_) (fun h8 => ?_)
                      · obtain ⟨⟨n3, tp3, R3, hL⟩, ⟨bb, bl, hG⟩, hA, ⟨n4, h4', lv4, ia4, lk4, on4, rw4, en4, hH, hT, hQ, hr, hE⟩, -, -⟩ := id hW
                        refine g_aload_n (pc := 86) 1 dX11_search_86 rfl rfl ?_
                        refine g_get (pc := 87) dX11_search_87 fk_X11_40 hX rfl ?_
                        refine g_iload_n (pc := 90) 2 dX11_search_90 rfl rfl ?_
                        refine g_iload_n (pc := 91) 3 dX11_search_91 rfl rfl ?_
                        refine g_callV (pc := 92) [.int (nI d), .int (nI h)] dX11_search_92 cv_X11_174.1 cv_X11_174.2.1 cv_X11_174.2.2.1 cv_X11_174.2.2.2 hH rfl rfl (Nat.le_of_ble_eq_true rfl) (by decide) (by decide) (sp_hbegin _ (d := d) (e := h) hH hr (by omega) (by omega)) ?_
                        rintro _ w1 ⟨rfl, rw1, hrw1, e1⟩
                        have hF1 : FR (fun i => i = X + 112 ∨ i = X + 112 + 4) w w1 := by rw [e1]; exact FR.tr (FR.set (c' := oH (X + 112) d h lv4 0 0 0) hH rfl (Or.inl rfl)) (FR.set (c' := aL 13 rw1) (lk_ne (by omega) hr) rfl (Or.inr rfl))
                        have hH1 : w1[X + 112]? = some (oH (X + 112) d h lv4 0 0 0) := by rw [e1]; exact lk_ne (by omega) (lk_eq hH)
                        have hr1 : w1[X + 112 + 4]? = some (aL 13 rw1) := by rw [e1]; exact lk_eq (lk_ne (by omega) hr)
                        have hT1 := hT.fr hF1 (fun i _ _ g3 _ _ g6 _ => by omega)
                        have hG1 := hG.ex (EX.of hF1 (fun _ g => g)) (fun i _ _ => by omega)
                        have hX1 := hF1.lk (show ¬ (X = X + 112 ∨ X = X + 112 + 4) by omega) hX
                        refine g_aload_n (pc := 95) 1 dX11_search_95 rfl rfl ?_
                        refine g_get (pc := 96) dX11_search_96 fk_X11_40 hX1 rfl ?_
                        refine g_iload_n (pc := 99) 4 dX11_search_99 rfl rfl ?_
                        refine g_iload (pc := 100) 5 dX11_search_100 rfl ?_
                        refine g_aload_n (pc := 102) 1 dX11_search_102 rfl rfl ?_
                        refine g_get (pc := 103) dX11_search_103 fk_X11_26 hX1 rfl ?_
                        refine g_callV (pc := 106) [.int (nI lv), .int (nI v), .ref (X + 12)] dX11_search_106 cv_X11_177.1 cv_X11_177.2.1 cv_X11_177.2.2.1 cv_X11_177.2.2.2 hH1 rfl rfl (Nat.le_of_ble_eq_true rfl) (by decide) (by decide) (sp_setLimits _ (l := lv) (v := v) (by omega) (by omega) (by omega) hH1 hT1 hG1) ?_
                        rintro _ w2 ⟨rfl, hH2, hT2, hV2, hG2, hF2⟩
                        have US : ∀ i, i ≠ X + 112 → (i < X + 32 ∨ X + 35 < i) → (i < X + 118 ∨ X + 131 < i) → ¬ slS (X + 12) (X + 112) i := fun i g1 g2 g3 g4 => by unfold slS at g4; omega
                        have hX2 := hF2.lk (US _ (by omega) (by omega) (by omega)) hX1
                        have hr2 := hF2.lk (US _ (by omega) (by omega) (by omega)) hr1
                        have ht2 : tlC w2 X d h lv v 0 0 0 rw1 en4 := ⟨⟨n3, tp3, R3, (hL.fr hF1 (by omega) (fun i _ _ => by omega)).fr hF2 (US _ (by omega) (by omega) (by omega)) (fun i _ _ => US _ (by omega) (by omega) (by omega))⟩, ⟨bb, bl, hG2⟩, (hA.fr hF1 (fun i _ _ => by omega)).fr hF2 (fun i _ _ => US _ (by omega) (by omega) (by omega)), hH2, hT2, hV2, (hQ.fr hF1 (by omega) (by omega)).fr hF2 (US _ (by omega) (by omega) (by omega)) (US _ (by omega) (by omega) (by omega)), hr2, hF2.lk (US _ (by omega) (by omega) (by omega)) (hF1.lk (by omega) hE)⟩
                        have hFt : FR (toolS X) w w2 := (hF1.mono (fun i g => by unfold toolS; omega)).tr (hF2.mono (fun i g => by unfold slS at g; unfold toolS; omega))
                        refine g_iload_n (pc := 109) 2 dX11_search_109 rfl rfl ?_
                        refine g_iload_n (pc := 110) 3 dX11_search_110 rfl rfl ?_
                        refine g_callS (pc := 111) [.int (nI d), .int (nI h)] dX11_search_111 cs_X11_171.1 cs_X11_171.2 rfl rfl (Nat.le_of_ble_eq_true rfl) (by decide) (by decide) (sp_boxSize _ (n := d) (h := h) (by omega) (by omega)) ?_
                        rintro _ w9 ⟨rfl, e9⟩
                        refine GP.weq _ e9 ?_
                        refine GP.ti (nI sz) (by rw [hsz]) ?_
                        refine g_istore (pc := 114) [(6, .int (nI sz)), (5, .int (nI 1)), (0, .ref X), (1, .int (nI d)), (2, .int (nI h)), (3, .int (nI lv)), (4, .int (nI v))] dX11_search_114 (by decide) rfl ?_
                        refine g_iconst (pc := 116) (v := nI 0) dX11_search_116 (by decide) ?_
                        refine g_istore (pc := 117) [(7, .int (nI 0)), (6, .int (nI sz)), (5, .int (nI 1)), (0, .ref X), (1, .int (nI d)), (2, .int (nI h)), (3, .int (nI lv)), (4, .int (nI v))] dX11_search_117 (by decide) rfl ?_
                        refine GP.lsub _ (by simp) (se_loop (w := w) (d := d) (lv := lv) (sz := sz) (h := h) (v := v) hX (by omega) (by omega) (by omega) (by omega) (by omega) (by omega) (by omega) (fun w3 ia on rw9 en E ht hS hen hia hon hF => ?_) sz 0 w2 0 0 rw1 en4 (fun _ => 0) (by omega) ht2 hrw1 ⟨rfl, rfl⟩ (fun j hj => absurd hj (by omega)) (by omega) (by omega) hFt)
                        have hW3 := ht.wk hW hF
                        have hEt : EX (toolS X) 0 0 w w3 := EX.of hF (fun _ g => g)
                        have hB3 := hB0.tools hEt (fun i g => Or.inl g) hW3
                        obtain ⟨-, -, -, hH3, -, -, -, -, hE3⟩ := ht
                        have hX3 := hF.lk (show ¬ toolS X X by unfold toolS; omega) hX
                        have hs13 := hF.lk (show ¬ toolS X s by unfold toolS; omega) hs1
                        have hs23 := hF.lk (show ¬ toolS X sp9 by unfold toolS; omega) hs2
                        have hlt3 : s < w3.length := (List.getElem?_eq_some_iff.mp hs13).1
                        refine g_aload_n (pc := 172) 0 dX11_search_172 rfl rfl ?_
                        refine g_get (pc := 173) dX11_search_173 fk_X11_40 hX3 rfl ?_
                        refine g_callV (pc := 176) [] dX11_search_176 cv_X11_192.1 cv_X11_192.2.1 cv_X11_192.2.2.1 cv_X11_192.2.2.2 hH3 rfl rfl (Nat.le_of_ble_eq_true rfl) (by decide) (by decide) (sp_told _ hH3 hE3 (by omega)) ?_
                        rintro _ w9 ⟨rfl, g, hg, e9⟩
                        obtain ⟨w4, hw4⟩ : ∃ w4 : Wd, w4 = w3 ++ [oF d ia sz on (min ia 30) (w3.length + 1), aI 0 (min ia 30 * 16) g] := ⟨_, rfl⟩
                        refine GP.weq w4 (e9.trans hw4.symm) ?_
                        have hE4 : EX (fun _ => False) 2 486 w3 w4 := by
                          rw [hw4]
                          exact EX.app.le (by simp) (by simp [slW, slE]; omega)
                        have hf1 : w4[w3.length]? = some (oF d ia sz on (min ia 30) (w3.length + 1)) := by rw [hw4]; exact lk_1
                        have hf2 : w4[w3.length + 1]? = some (aI 0 (min ia 30 * 16) g) := by rw [hw4]; exact lk_2
                        have hl4 : w4.length = w3.length + 2 := by rw [hw4]; simp
                        have hX4 := hE4.lk (fun g => g) hX3
                        have hs14 := hE4.lk (fun g => g) hs13
                        have hs24 := hE4.lk (fun g => g) hs23
                        have hpo : ∀ i, i < 8 → ∃ v, sh9 i = some v ∧ isPo w4 v := fun i hi => by
                          obtain ⟨v, e1, e2⟩ := hs5 i hi
                          obtain ⟨b9, c9, e3, -⟩ := (e2.ex hEt (fun j hj => by unfold toolS at hj; omega)).ex hE4 (fun _ g => g.elim)
                          exact ⟨v, e1, _, e3⟩
                        refine g_astore (pc := 179) [(7, .ref w3.length), (0, .ref X)] dX11_search_179 (by decide) rfl ?_
                        refine g_aload_n (pc := 181) 1 dX11_search_181 rfl rfl ?_
                        refine g_bipush (pc := 182) (v := nI 7) dX11_search_182 (by decide) ?_
                        refine g_aload_n (pc := 184) 1 dX11_search_184 rfl rfl ?_
                        refine g_get (pc := 185) dX11_search_185 fk_X11_69 hX4 rfl ?_
                        refine g_aload (pc := 188) 0 dX11_search_188 rfl ?_
                        refine g_callV (pc := 190) [.ref w3.length] dX11_search_190 cv_X11_196.1 cv_X11_196.2.1 cv_X11_196.2.2.1 cv_X11_196.2.2.2 hs14 rfl rfl (Nat.le_of_ble_eq_true rfl) (by decide) (by decide) (sp_withFound _ (y := w3.length) hs14 hs24 hpo) ?_
                        rintro _ w9 ⟨rfl, h', hh', e9⟩
                        obtain ⟨w5, hw5⟩ : ∃ w5 : Wd, w5 = w4 ++ [oS (w4.length + 1) w3.length, aR 4 8 h'] := ⟨_, rfl⟩
                        refine GP.weq w5 (e9.trans hw5.symm) ?_
                        have hE5 : EX (fun _ => False) 2 10 w4 w5 := by
                          rw [hw5]
                          exact EX.app.le (by simp) (by simp [slW, slE])
                        have hM1 : w5[w4.length]? = some (oS (w4.length + 1) w3.length) := by rw [hw5]; exact lk_1
                        have hM2 : w5[w4.length + 1]? = some (aR 4 8 h') := by rw [hw5]; exact lk_2
                        have hE45 := hE4.tr hE5
                        have hB5 := hB3.ext hE45
                        have hX5 := hE5.lk (fun g => g) hX4
                        have hfo : fouC w5 (X + 139) w3.length (d, ia, sz, on, min ia 30, E) := ⟨w3.length + 1, g, hE5.lk (fun g => g) hf1, by rw [Nat.mul_comm]; exact hE5.lk (fun g => g) hf2, by omega, by omega, fun j hj => by rw [hg j (by have : j < 16 * min ia 30 := hj; omega)]; exact hen j hj, by show d ≤ 12; omega, by show min ia 30 ≤ 30; omega, by show ia ≤ 5000; omega, by show sz ≤ 5000; omega, by show on ≤ 5000; omega⟩
                        have hNS : shC w5 (X + 139) w4.length (sh.1, (d, ia, sz, on, min ia 30, E)) := ⟨w4.length + 1, w3.length, h', hM1, hM2, by omega, by omega, fun i hi => by
                          rw [hh' i hi]
                          obtain ⟨v, e1, e2⟩ := hs5 i hi
                          exact ⟨v, e1, (e2.ex hEt (fun j hj => by unfold toolS at hj; omega)).ex hE45 (fun _ g => g.elim)⟩, hfo⟩
                        refine g_callV (pc := 193) [.int (nI 7), .ref w4.length] dX11_search_193 cv_X11_200.1 cv_X11_200.2.1 cv_X11_200.2.2.1 cv_X11_200.2.2.2 hX5 rfl rfl (Nat.le_of_ble_eq_true rfl) (by decide) (by decide) (sp_moveOn _ (kd := 7) hB5 hNS) ?_
                        rintro _ w6 ⟨rfl, hB6, hE6⟩
                        obtain ⟨⟨s6, hX6, -⟩, -⟩ := id hB6
                        have hf6 := hE6.lk (show ¬ boxS X w3.length by unfold boxS; omega) (hE5.lk (fun g => g) hf1)
                        refine g_aload_n (pc := 196) 1 dX11_search_196 rfl rfl ?_
                        refine g_aload (pc := 197) 0 dX11_search_197 rfl ?_
                        refine g_get (pc := 199) dX11_search_199 fk_X11_204 hf6 rfl ?_
                        refine g_callV (pc := 202) [.int (nI ia)] dX11_search_202 cv_X11_119.1 cv_X11_119.2.1 cv_X11_119.2.2.1 cv_X11_119.2.2.2 hX6 rfl rfl (Nat.le_of_ble_eq_true rfl) (by decide) (by decide) (sp_accept _ (x := nI ia) hB6) ?_
                        rintro _ w7 ⟨rfl, hB7, hE7⟩
                        exact g_iret (pc := 205) dX11_search_205 (Or.inr (Or.inr ⟨d, h, lv, v, sz, ia, on, E, rfl, rfl, rfl, rfl, hok, hsz, by omega, hS, rfl, hB7, (((((hEt.mono (fun i g => by unfold toolS at g; unfold boxS; omega)).tr (hE45.mono (fun _ g => g.elim))).tr hE6).tr hE7)).le (by omega) (by omega)⟩))
                      · refine g_aload_n (pc := 79) 1 dX11_search_79 rfl rfl ?_
                        refine g_bipush (pc := 80) (v := -4) dX11_search_80 (by decide) ?_
                        refine g_callV (pc := 82) [.int (-4)] dX11_search_82 cv_X11_98.1 cv_X11_98.2.1 cv_X11_98.2.2.1 cv_X11_98.2.2.2 hX rfl rfl (Nat.le_of_ble_eq_true rfl) (by decide) (by decide) (sp_refuse4 _ hB0) ?_
                        rintro _ w5 ⟨rfl, hB5, hE5⟩
                        exact g_iret (pc := 85) dX11_search_85 (Or.inr (Or.inl ⟨d, h, lv, v, rfl, rfl, rfl, rfl, hok, by rw [hsz]; omega, rfl, hB5, hE5.le (by omega) (by omega)⟩))
                    · rw [Int32.le_iff_toInt_le, z9999] at h7
                      refine g_aload_n (pc := 62) 1 dX11_search_62 rfl rfl ?_
                      refine g_iconst (pc := 63) (v := -1) dX11_search_63 (by decide) ?_
                      refine g_callV (pc := 64) [.int (-1)] dX11_search_64 cv_X11_98.1 cv_X11_98.2.1 cv_X11_98.2.2.1 cv_X11_98.2.2.2 hX rfl rfl (Nat.le_of_ble_eq_true rfl) (by decide) (by decide) (sp_refuse1 _ hB0) ?_
                      rintro _ w5 ⟨rfl, hB5, hE5⟩
                      exact g_iret (pc := 67) dX11_search_67 (Or.inl ⟨fun h9 => by have := h9.2.2.2.2; omega, rfl, hB5, hE5.le (by omega) (by omega)⟩)
              · refine GP.weq _ e9 ?_
                refine n_if_eq (pc := 43) 62 dX11_search_43 (by decide) (by omega) (fun hzlv => ?_) (fun hzlv => ?_)
                · refine g_aload_n (pc := 62) 1 dX11_search_62 rfl rfl ?_
                  refine g_iconst (pc := 63) (v := -1) dX11_search_63 (by decide) ?_
                  refine g_callV (pc := 64) [.int (-1)] dX11_search_64 cv_X11_98.1 cv_X11_98.2.1 cv_X11_98.2.2.1 cv_X11_98.2.2.2 hX rfl rfl (Nat.le_of_ble_eq_true rfl) (by decide) (by decide) (sp_refuse1 _ hB0) ?_
                  rintro _ w5 ⟨rfl, hB5, hE5⟩
                  exact g_iret (pc := 67) dX11_search_67 (Or.inl ⟨fun h9 => hplv h9.2.2.1, rfl, hB5, hE5.le (by omega) (by omega)⟩)
                · exact absurd rfl hzlv
