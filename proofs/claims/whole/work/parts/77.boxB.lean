/-! MahlerBox: turn, coefficient, value, often, found, smallest -/
theorem sqd_cg {a b : Nat → Int} {n : Nat} (h : ∀ t, t ≤ n → a t = b t) : sqd a n ↔ sqd b n := sqd_congr h
abbrev BX11_turn (w0 : Wd) (Post : Option Value → Wd → Prop) (w : Wd) (pc : Nat) (ls : List (Nat × Value)) (st : List Value) : Prop := GP "turn" RX11 cX11_turn 5 (some .int) 4 156 none w0 Post w pc ls st
abbrev EX11_turn (As : List Value) (w : Wd) (Post : Option Value → Wd → Prop) : Prop := EP yX11_turn cX11_turn 5 (some .int) 4 As w Post
theorem sp_turn (w : Wd) {X tl : Nat} {tb : Nat → Int32} {fa st : Int32} {rf : Nat → Nat} {sh : SV} {pn : Nat} {pk : Nat → Nat} {ps : Nat → SV} {im : Nat → Option SV} (hB : bxC w X tl tb fa st rf sh pn pk ps im) {x y z : Int32} : EX11_turn [.ref X, .int x, .int y, .int z] w (fun r w' => (¬ (0 ≤ x.toInt ∧ x.toInt ≤ 5) ∧ rfP (-1) 0 w X tl tb fa rf sh pn pk ps im r w') ∨ (∃ h, x = nI h ∧ h < 6 ∧ ¬ (isPl y ∧ isPl z) ∧ rfP (-2) 1 w X tl tb fa rf sh pn pk ps im r w') ∨ (∃ h i k, x = nI h ∧ h < 5 ∧ y = nI i ∧ i < 8 ∧ z = nI k ∧ k < 8 ∧ putP (trp h (sh.1 i).2 (sh.1 i).1 ((sh.1 i).1 + 1)) 4 k w X tl tb fa rf sh pn pk ps im r w') ∨ (∃ i k, x = nI 5 ∧ y = nI i ∧ i < 8 ∧ z = nI k ∧ k < 8 ∧ ¬ sqd (sh.1 i).2 (sh.1 i).1 ∧ rfP (-5) 3 w X tl tb fa rf sh pn pk ps im r w') ∨ (∃ i k, x = nI 5 ∧ y = nI i ∧ i < 8 ∧ z = nI k ∧ k < 8 ∧ sqd (sh.1 i).2 (sh.1 i).1 ∧ putP (fun t => if t ≤ (sh.1 i).1 then gco (sh.1 i).2 (sh.1 i).1 t else 0) 4 k w X tl tb fa rf sh pn pk ps im r w')) := by
  refine EP.of (plainFor_of_name (by decide)) [(0, .ref X), (1, .int x), (2, .int y), (3, .int z)] rfl (Nat.le_of_ble_eq_true rfl) (fun r wf h => by rcases h with ⟨-, h⟩ | ⟨h9, -, -, -, h⟩ | ⟨h9, i, k, -, -, -, -, -, -, h⟩ | ⟨i, k, -, -, -, -, -, -, h⟩ | ⟨i, k, -, -, -, -, -, -, h⟩; obtain ⟨x, rfl⟩ := rokR h; trivial; obtain ⟨x, rfl⟩ := rokR h; trivial; obtain ⟨x, rfl⟩ := rokP h; trivial; obtain ⟨x, rfl⟩ := rokR h; trivial; obtain ⟨x, rfl⟩ := rokP h; trivial) ?_
  show BX11_turn w _ w 0 [(0, .ref X), (1, .int x), (2, .int y), (3, .int z)] []
  have hB0 := id hB
  obtain ⟨⟨s, hX, hs⟩, htp, hW, hpa, him, hrf⟩ := hB
  have hs0 := id hs
  obtain ⟨sp9, sf9, sh9, hs1, hs2, hs3, hs4, hs5, hs6⟩ := hs
  obtain ⟨htl, tpl, tf, ht1, ht2, ht3⟩ := id htp
  obtain ⟨row9, hrow9⟩ := hW.2.2.2.2.1
  obtain ⟨spa9, hspa9⟩ := hW.2.2.2.2.2
  have z0 : (0 : Int32).toInt = 0 := by decide
  have z5 : (nI 5).toInt = 5 := by decide
  refine g_iload_n (pc := 0) 1 dX11_turn_0 rfl rfl ?_
  refine g_if_lt (pc := 1) 9 dX11_turn_1 (by decide) (fun h1 => ?_) (fun h1 => ?_)
  · rw [Int32.lt_iff_toInt_lt, z0] at h1
    refine g_aload_n (pc := 9) 0 dX11_turn_9 rfl rfl ?_
    refine g_iconst (pc := 10) (v := -1) dX11_turn_10 (by decide) ?_
    refine g_callV (pc := 11) [.int (-1)] dX11_turn_11 cv_X11_98.1 cv_X11_98.2.1 cv_X11_98.2.2.1 cv_X11_98.2.2.2 hX rfl rfl (Nat.le_of_ble_eq_true rfl) (by decide) (by decide) (sp_refuse1 _ hB0) ?_
    rintro _ w5 ⟨rfl, hB5, hE5⟩
    exact g_iret (pc := 14) dX11_turn_14 (Or.inl ⟨by omega, rfl, hB5, hE5.le (by omega) (by omega)⟩)
  · rw [Int32.lt_iff_toInt_lt, z0] at h1
    refine g_iload_n (pc := 4) 1 dX11_turn_4 rfl rfl ?_
    refine g_iconst (pc := 5) (v := nI 5) dX11_turn_5 (by decide) ?_
    refine g_icmp_le (pc := 6) 15 dX11_turn_6 (by decide) (fun h2 => ?_) (fun h2 => ?_)
    · rw [Int32.le_iff_toInt_le, z5] at h2
      obtain ⟨h, hhe, hh⟩ : ∃ h : Nat, x = nI h ∧ h < 6 := ⟨x.toInt.toNat, nI_toNat (by omega), by omega⟩
      subst hhe
      clear h1 h2
      refine g_iload_n (pc := 15) 2 dX11_turn_15 rfl rfl ?_
      refine g_callS (pc := 16) [.int y] dX11_turn_16 cs_X11_95.1 cs_X11_95.2 rfl rfl (Nat.le_of_ble_eq_true rfl) (by decide) (by decide) (sp_isPlace _ (x := y)) ?_
      rintro _ w9 (⟨rfl, hpi, e9⟩ | ⟨rfl, hpi, e9⟩)
      · refine GP.weq _ e9 ?_
        refine n_if_eq (pc := 19) 29 dX11_turn_19 (by decide) (by omega) (fun hzi => ?_) (fun hzi => ?_)
        · exact absurd hzi (by decide)
        · obtain ⟨i, hie, hi⟩ : ∃ i : Nat, y = nI i ∧ i < 8 := ⟨y.toInt.toNat, nI_toNat (by omega), by omega⟩
          subst hie
          refine g_iload_n (pc := 22) 3 dX11_turn_22 rfl rfl ?_
          refine g_callS (pc := 23) [.int z] dX11_turn_23 cs_X11_95.1 cs_X11_95.2 rfl rfl (Nat.le_of_ble_eq_true rfl) (by decide) (by decide) (sp_isPlace _ (x := z)) ?_
          rintro _ w9 (⟨rfl, hpk, e9⟩ | ⟨rfl, hpk, e9⟩)
          · refine GP.weq _ e9 ?_
            refine n_if_ne (pc := 26) 36 dX11_turn_26 (by decide) (by omega) (fun hzk => ?_) (fun hzk => ?_)
            · obtain ⟨k, hke, hk⟩ : ∃ k : Nat, z = nI k ∧ k < 8 := ⟨z.toInt.toNat, nI_toNat (by omega), by omega⟩
              subst hke
              obtain ⟨v1, hv1, b1, c1, ho1, hb1, hvB1, hbB1, hc1, hk1⟩ := hs5 i hi
              refine g_aload_n (pc := 36) 0 dX11_turn_36 rfl rfl ?_
              refine g_get (pc := 37) dX11_turn_37 fk_X11_69 hX rfl ?_
              refine g_iload_n (pc := 40) 2 dX11_turn_40 rfl rfl ?_
              refine g_callV (pc := 41) [.int (nI i)] dX11_turn_41 cv_X11_111.1 cv_X11_111.2.1 cv_X11_111.2.2.1 cv_X11_111.2.2.2 hs1 rfl rfl (Nat.le_of_ble_eq_true rfl) (by decide) (by decide) (sp_poly _ (i := i) hs1 hs2 hi hv1) ?_
              rintro _ w9 ⟨rfl, e9⟩
              refine GP.weq _ e9 ?_
              refine g_astore (pc := 44) [(4, .ref v1), (0, .ref X), (1, .int (nI h)), (2, .int (nI i)), (3, .int (nI k))] dX11_turn_44 (by decide) rfl ?_
              refine g_iload_n (pc := 46) 2 dX11_turn_46 rfl rfl ?_
              refine g_iconst (pc := 47) (v := nI 5) dX11_turn_47 (by decide) ?_
              refine n_icmp_ge (pc := 48) 64 dX11_turn_48 (by decide) (by omega) (by omega) (fun h5 => ?_) (fun h5 => ?_)
              · have h55 : h = 5 := by omega
                subst h55
                refine g_aload (pc := 64) 0 dX11_turn_64 rfl ?_
                refine g_aload_n (pc := 66) 1 dX11_turn_66 rfl rfl ?_
                refine g_get (pc := 67) dX11_turn_67 fk_X11_61 hX rfl ?_
                refine g_callV (pc := 70) [.ref (X + 137)] dX11_turn_70 cv_X11_128.1 cv_X11_128.2.1 cv_X11_128.2.2.1 cv_X11_128.2.2.2 ho1 rfl rfl (Nat.le_of_ble_eq_true rfl) (by decide) (by decide) (sp_writeTo _ ho1 hb1 hspa9 (by omega) (by omega) (by decide) (by have := hk1.1; omega)) ?_
                rintro _ w1 ⟨rfl, e', he', e9⟩
                obtain ⟨hB1, hE1⟩ := hB0.spare e' hspa9
                rw [← e9] at hB1 hE1
                have hsp1 : w1[X + 137]? = some (aL 25 e') := by rw [e9]; exact lk_eq hspa9
                have U1 : ∀ i c, w[i]? = some c → i ≠ X + 137 → w1[i]? = some c := fun i c h1 h2 => by rw [e9]; exact lk_ne (Ne.symm h2) h1
                have hX1 := U1 _ _ hX (by omega)
                have ho11 := U1 _ _ ho1 (by omega)
                have hr1 := U1 _ _ hrow9 (by omega)
                have hg1 : ∀ j, j < 25 → toI e' j = (sh.1 i).2 j := fun j hj => by show (e' j).toInt = _; rw [he' j hj]; exact okP_ext hc1 hk1 j
                have hn1 := hk1.1
                refine g_aload_n (pc := 73) 1 dX11_turn_73 rfl rfl ?_
                refine g_get (pc := 74) dX11_turn_74 fk_X11_57 hX1 rfl ?_
                refine g_lconst (pc := 77) (v := 0) dX11_turn_77 (by decide) ?_
                refine g_callS (pc := 78) [.ref (X + 136), .long 0] dX11_turn_78 cs_X11_146.1 cs_X11_146.2 rfl rfl (Nat.le_of_ble_eq_true rfl) (by decide) (by decide) (sp_fill1 _ (X + 136) 25 row9 0 hr1 (by decide)) ?_
                rintro _ w2 ⟨rfl, e8⟩
                obtain ⟨hB2, hE2⟩ := hB1.row (fillF row9 0 25 0) hr1
                rw [← e8] at hB2 hE2
                have hr2 : w2[X + 136]? = some (aL 25 (fillF row9 0 25 0)) := by rw [e8]; exact lk_eq hr1
                have hsp2 : w2[X + 137]? = some (aL 25 e') := by rw [e8]; exact lk_ne (by omega) hsp1
                have hX2 : w2[X]? = some (oB X s fa st) := by rw [e8]; exact lk_ne (by omega) hX1
                have ho12 : w2[v1]? = some (oP (sh.1 i).1 b1) := by rw [e8]; exact lk_ne (by omega) ho11
                refine g_aload_n (pc := 81) 1 dX11_turn_81 rfl rfl ?_
                refine g_get (pc := 82) dX11_turn_82 fk_X11_61 hX2 rfl ?_
                refine g_aload (pc := 85) 0 dX11_turn_85 rfl ?_
                refine g_get (pc := 87) dX11_turn_87 fk_X11_132 ho12 rfl ?_
                refine g_aload_n (pc := 90) 1 dX11_turn_90 rfl rfl ?_
                refine g_get (pc := 91) dX11_turn_91 fk_X11_57 hX2 rfl ?_
                refine g_callS (pc := 94) [.ref (X + 137), .int (nI ((sh.1 i).1)), .ref (X + 136)] dX11_turn_94 cs_X11_152.1 cs_X11_152.2 rfl rfl (Nat.le_of_ble_eq_true rfl) (by decide) (by decide) (sp_writesSquared _ (n := (sh.1 i).1) hsp2 hr2 (by omega) (by decide) (by decide) (by omega) hn1 (by omega)) ?_
                rintro _ w9 (⟨rfl, hsq, g', hg', hgn, e7⟩ | ⟨rfl, hsq, g', hgn, e7⟩)
                · skip
                  obtain ⟨hB3, hE3⟩ := hB2.row g' hr2
                  rw [← e7] at hB3 hE3
                  have hr3 : w9[X + 136]? = some (aL 25 g') := by rw [e7]; exact lk_eq hr2
                  have hX3 : w9[X]? = some (oB X s fa st) := by rw [e7]; exact lk_ne (by omega) hX2
                  have hEE := ((hE1.tr hE2).tr hE3).le (Nat.le_refl 0) (Nat.le_refl 0)
                  refine n_if_ne (pc := 97) 107 dX11_turn_97 (by decide) (by omega) (fun hz => ?_) (fun hz => ?_)
                  · refine g_aload_n (pc := 107) 1 dX11_turn_107 rfl rfl ?_
                    refine g_iconst (pc := 108) (v := nI 4) dX11_turn_108 (by decide) ?_
                    refine g_iload_n (pc := 109) 4 dX11_turn_109 rfl rfl ?_
                    refine g_callV (pc := 110) [.int (nI 4), .int (nI k)] dX11_turn_110 cv_X11_107.1 cv_X11_107.2.1 cv_X11_107.2.2.1 cv_X11_107.2.2.2 hX3 rfl rfl (Nat.le_of_ble_eq_true rfl) (by decide) (by decide) (sp_putRow _ (kd := 4) (k := k) (F := (fun t => if t ≤ (sh.1 i).1 then gco (sh.1 i).2 (sh.1 i).1 t else 0)) hB3 hr3 (fun t ht => by by_cases e6 : t ≤ (sh.1 i).1; · { rw [if_pos e6, hg' t e6]; exact gco_congr e6 (fun u hu => hg1 u (by omega)) }; · { rw [if_neg e6, hgn t (by omega)]; simp only [fillF]; rw [if_pos (by omega)]; decide }) hk) ?_
                    rintro _ w4 hP
                    obtain ⟨x9, rfl⟩ := rokP hP
                    exact g_iret (pc := 113) dX11_turn_113 (Or.inr (Or.inr (Or.inr (Or.inr ⟨i, k, rfl, rfl, hi, rfl, hk, (sqd_cg (fun u hu => hg1 u (by omega))).mp hsq, hP.from hEE⟩))))
                  · exact absurd hz (by decide)
                · skip
                  obtain ⟨hB3, hE3⟩ := hB2.row g' hr2
                  rw [← e7] at hB3 hE3
                  have hr3 : w9[X + 136]? = some (aL 25 g') := by rw [e7]; exact lk_eq hr2
                  have hX3 : w9[X]? = some (oB X s fa st) := by rw [e7]; exact lk_ne (by omega) hX2
                  have hEE := ((hE1.tr hE2).tr hE3).le (Nat.le_refl 0) (Nat.le_refl 0)
                  refine n_if_ne (pc := 97) 107 dX11_turn_97 (by decide) (by omega) (fun hz => ?_) (fun hz => ?_)
                  · exact absurd rfl hz
                  · refine g_aload_n (pc := 100) 1 dX11_turn_100 rfl rfl ?_
                    refine g_bipush (pc := 101) (v := -5) dX11_turn_101 (by decide) ?_
                    refine g_callV (pc := 103) [.int (-5)] dX11_turn_103 cv_X11_98.1 cv_X11_98.2.1 cv_X11_98.2.2.1 cv_X11_98.2.2.2 hX3 rfl rfl (Nat.le_of_ble_eq_true rfl) (by decide) (by decide) (sp_refuse5 _ hB3) ?_
                    rintro _ w6 ⟨rfl, hB6, hE6⟩
                    exact g_iret (pc := 106) dX11_turn_106 (Or.inr (Or.inr (Or.inr (Or.inl ⟨i, k, rfl, rfl, hi, rfl, hk, fun h9 => hsq ((sqd_cg (fun u hu => hg1 u (by omega))).mpr h9), rfl, hB6, (hEE.tr hE6).le (by omega) (by omega)⟩))))
              · refine g_aload (pc := 51) 0 dX11_turn_51 rfl ?_
                refine g_iload_n (pc := 53) 2 dX11_turn_53 rfl rfl ?_
                refine g_aload_n (pc := 54) 1 dX11_turn_54 rfl rfl ?_
                refine g_get (pc := 55) dX11_turn_55 fk_X11_57 hX rfl ?_
                rcases (show h = 0 ∨ h = 1 ∨ h = 2 ∨ h = 3 ∨ h = 4 by omega) with e5 | e5 | e5 | e5 | e5
                · subst e5
                  refine g_callV (pc := 58) [.int (nI 0), .ref (X + 136)] dX11_turn_58 cv_X11_142.1 cv_X11_142.2.1 cv_X11_142.2.2.1 cv_X11_142.2.2.2 ho1 rfl rfl (Nat.le_of_ble_eq_true rfl) (by decide) (by decide) (sp_writeTurned0 _ ho1 hb1 hrow9 (by omega) (by omega) hk1.1 (fun t ht => by rw [hc1 t ht]; exact hk1.2.1 t ht)) ?_
                  rintro _ w1 ⟨rfl, e', he', e9⟩
                  obtain ⟨hB1, hE1⟩ := hB0.row e' hrow9
                  rw [← e9] at hB1 hE1
                  have hr1 : w1[X + 136]? = some (aL 25 e') := by rw [e9]; exact lk_eq hrow9
                  have hX1 : w1[X]? = some (oB X s fa st) := by rw [e9]; exact lk_ne (by omega) hX
                  refine g_goto (pc := 61) 107 dX11_turn_61 (by decide) ?_
                  refine g_aload_n (pc := 107) 1 dX11_turn_107 rfl rfl ?_
                  refine g_iconst (pc := 108) (v := nI 4) dX11_turn_108 (by decide) ?_
                  refine g_iload_n (pc := 109) 4 dX11_turn_109 rfl rfl ?_
                  refine g_callV (pc := 110) [.int (nI 4), .int (nI k)] dX11_turn_110 cv_X11_107.1 cv_X11_107.2.1 cv_X11_107.2.2.1 cv_X11_107.2.2.2 hX1 rfl rfl (Nat.le_of_ble_eq_true rfl) (by decide) (by decide) (sp_putRow _ (kd := 4) (k := k) (F := trp 0 (sh.1 i).2 (sh.1 i).1 ((sh.1 i).1 + 1)) hB1 hr1 (fun t ht => by rw [he' t ht]; exact trp_cg (fun u hu => hc1 u hu) t) hk) ?_
                  rintro _ w2 hP
                  obtain ⟨x9, rfl⟩ := rokP hP
                  exact g_iret (pc := 113) dX11_turn_113 (Or.inr (Or.inr (Or.inl ⟨0, i, k, rfl, by omega, rfl, hi, rfl, hk, hP.from hE1⟩)))
                · subst e5
                  refine g_callV (pc := 58) [.int (nI 1), .ref (X + 136)] dX11_turn_58 cv_X11_142.1 cv_X11_142.2.1 cv_X11_142.2.2.1 cv_X11_142.2.2.2 ho1 rfl rfl (Nat.le_of_ble_eq_true rfl) (by decide) (by decide) (sp_writeTurned1 _ ho1 hb1 hrow9 (by omega) (by omega) hk1.1 (fun t ht => by rw [hc1 t ht]; exact hk1.2.1 t ht)) ?_
                  rintro _ w1 ⟨rfl, e', he', e9⟩
                  obtain ⟨hB1, hE1⟩ := hB0.row e' hrow9
                  rw [← e9] at hB1 hE1
                  have hr1 : w1[X + 136]? = some (aL 25 e') := by rw [e9]; exact lk_eq hrow9
                  have hX1 : w1[X]? = some (oB X s fa st) := by rw [e9]; exact lk_ne (by omega) hX
                  refine g_goto (pc := 61) 107 dX11_turn_61 (by decide) ?_
                  refine g_aload_n (pc := 107) 1 dX11_turn_107 rfl rfl ?_
                  refine g_iconst (pc := 108) (v := nI 4) dX11_turn_108 (by decide) ?_
                  refine g_iload_n (pc := 109) 4 dX11_turn_109 rfl rfl ?_
                  refine g_callV (pc := 110) [.int (nI 4), .int (nI k)] dX11_turn_110 cv_X11_107.1 cv_X11_107.2.1 cv_X11_107.2.2.1 cv_X11_107.2.2.2 hX1 rfl rfl (Nat.le_of_ble_eq_true rfl) (by decide) (by decide) (sp_putRow _ (kd := 4) (k := k) (F := trp 1 (sh.1 i).2 (sh.1 i).1 ((sh.1 i).1 + 1)) hB1 hr1 (fun t ht => by rw [he' t ht]; exact trp_cg (fun u hu => hc1 u hu) t) hk) ?_
                  rintro _ w2 hP
                  obtain ⟨x9, rfl⟩ := rokP hP
                  exact g_iret (pc := 113) dX11_turn_113 (Or.inr (Or.inr (Or.inl ⟨1, i, k, rfl, by omega, rfl, hi, rfl, hk, hP.from hE1⟩)))
                · subst e5
                  refine g_callV (pc := 58) [.int (nI 2), .ref (X + 136)] dX11_turn_58 cv_X11_142.1 cv_X11_142.2.1 cv_X11_142.2.2.1 cv_X11_142.2.2.2 ho1 rfl rfl (Nat.le_of_ble_eq_true rfl) (by decide) (by decide) (sp_writeTurned2 _ ho1 hb1 hrow9 (by omega) (by omega) hk1.1 (fun t ht => by rw [hc1 t ht]; exact hk1.2.1 t ht)) ?_
                  rintro _ w1 ⟨rfl, e', he', e9⟩
                  obtain ⟨hB1, hE1⟩ := hB0.row e' hrow9
                  rw [← e9] at hB1 hE1
                  have hr1 : w1[X + 136]? = some (aL 25 e') := by rw [e9]; exact lk_eq hrow9
                  have hX1 : w1[X]? = some (oB X s fa st) := by rw [e9]; exact lk_ne (by omega) hX
                  refine g_goto (pc := 61) 107 dX11_turn_61 (by decide) ?_
                  refine g_aload_n (pc := 107) 1 dX11_turn_107 rfl rfl ?_
                  refine g_iconst (pc := 108) (v := nI 4) dX11_turn_108 (by decide) ?_
                  refine g_iload_n (pc := 109) 4 dX11_turn_109 rfl rfl ?_
                  refine g_callV (pc := 110) [.int (nI 4), .int (nI k)] dX11_turn_110 cv_X11_107.1 cv_X11_107.2.1 cv_X11_107.2.2.1 cv_X11_107.2.2.2 hX1 rfl rfl (Nat.le_of_ble_eq_true rfl) (by decide) (by decide) (sp_putRow _ (kd := 4) (k := k) (F := trp 2 (sh.1 i).2 (sh.1 i).1 ((sh.1 i).1 + 1)) hB1 hr1 (fun t ht => by rw [he' t ht]; exact trp_cg (fun u hu => hc1 u hu) t) hk) ?_
                  rintro _ w2 hP
                  obtain ⟨x9, rfl⟩ := rokP hP
                  exact g_iret (pc := 113) dX11_turn_113 (Or.inr (Or.inr (Or.inl ⟨2, i, k, rfl, by omega, rfl, hi, rfl, hk, hP.from hE1⟩)))
                · subst e5
                  refine g_callV (pc := 58) [.int (nI 3), .ref (X + 136)] dX11_turn_58 cv_X11_142.1 cv_X11_142.2.1 cv_X11_142.2.2.1 cv_X11_142.2.2.2 ho1 rfl rfl (Nat.le_of_ble_eq_true rfl) (by decide) (by decide) (sp_writeTurned3 _ ho1 hb1 hrow9 (by omega) (by omega) hk1.1 (fun t ht => by rw [hc1 t ht]; exact hk1.2.1 t ht)) ?_
                  rintro _ w1 ⟨rfl, e', he', e9⟩
                  obtain ⟨hB1, hE1⟩ := hB0.row e' hrow9
                  rw [← e9] at hB1 hE1
                  have hr1 : w1[X + 136]? = some (aL 25 e') := by rw [e9]; exact lk_eq hrow9
                  have hX1 : w1[X]? = some (oB X s fa st) := by rw [e9]; exact lk_ne (by omega) hX
                  refine g_goto (pc := 61) 107 dX11_turn_61 (by decide) ?_
                  refine g_aload_n (pc := 107) 1 dX11_turn_107 rfl rfl ?_
                  refine g_iconst (pc := 108) (v := nI 4) dX11_turn_108 (by decide) ?_
                  refine g_iload_n (pc := 109) 4 dX11_turn_109 rfl rfl ?_
                  refine g_callV (pc := 110) [.int (nI 4), .int (nI k)] dX11_turn_110 cv_X11_107.1 cv_X11_107.2.1 cv_X11_107.2.2.1 cv_X11_107.2.2.2 hX1 rfl rfl (Nat.le_of_ble_eq_true rfl) (by decide) (by decide) (sp_putRow _ (kd := 4) (k := k) (F := trp 3 (sh.1 i).2 (sh.1 i).1 ((sh.1 i).1 + 1)) hB1 hr1 (fun t ht => by rw [he' t ht]; exact trp_cg (fun u hu => hc1 u hu) t) hk) ?_
                  rintro _ w2 hP
                  obtain ⟨x9, rfl⟩ := rokP hP
                  exact g_iret (pc := 113) dX11_turn_113 (Or.inr (Or.inr (Or.inl ⟨3, i, k, rfl, by omega, rfl, hi, rfl, hk, hP.from hE1⟩)))
                · subst e5
                  refine g_callV (pc := 58) [.int (nI 4), .ref (X + 136)] dX11_turn_58 cv_X11_142.1 cv_X11_142.2.1 cv_X11_142.2.2.1 cv_X11_142.2.2.2 ho1 rfl rfl (Nat.le_of_ble_eq_true rfl) (by decide) (by decide) (sp_writeTurned4 _ ho1 hb1 hrow9 (by omega) (by omega) hk1.1 (fun t ht => by rw [hc1 t ht]; exact hk1.2.1 t ht)) ?_
                  rintro _ w1 ⟨rfl, e', he', e9⟩
                  obtain ⟨hB1, hE1⟩ := hB0.row e' hrow9
                  rw [← e9] at hB1 hE1
                  have hr1 : w1[X + 136]? = some (aL 25 e') := by rw [e9]; exact lk_eq hrow9
                  have hX1 : w1[X]? = some (oB X s fa st) := by rw [e9]; exact lk_ne (by omega) hX
                  refine g_goto (pc := 61) 107 dX11_turn_61 (by decide) ?_
                  refine g_aload_n (pc := 107) 1 dX11_turn_107 rfl rfl ?_
                  refine g_iconst (pc := 108) (v := nI 4) dX11_turn_108 (by decide) ?_
                  refine g_iload_n (pc := 109) 4 dX11_turn_109 rfl rfl ?_
                  refine g_callV (pc := 110) [.int (nI 4), .int (nI k)] dX11_turn_110 cv_X11_107.1 cv_X11_107.2.1 cv_X11_107.2.2.1 cv_X11_107.2.2.2 hX1 rfl rfl (Nat.le_of_ble_eq_true rfl) (by decide) (by decide) (sp_putRow _ (kd := 4) (k := k) (F := trp 4 (sh.1 i).2 (sh.1 i).1 ((sh.1 i).1 + 1)) hB1 hr1 (fun t ht => by rw [he' t ht]; exact trp_cg (fun u hu => hc1 u hu) t) hk) ?_
                  rintro _ w2 hP
                  obtain ⟨x9, rfl⟩ := rokP hP
                  exact g_iret (pc := 113) dX11_turn_113 (Or.inr (Or.inr (Or.inl ⟨4, i, k, rfl, by omega, rfl, hi, rfl, hk, hP.from hE1⟩)))
            · exact absurd hzk (by decide)
          · refine GP.weq _ e9 ?_
            refine n_if_ne (pc := 26) 36 dX11_turn_26 (by decide) (by omega) (fun hzk => ?_) (fun hzk => ?_)
            · exact absurd rfl hzk
            · refine g_aload_n (pc := 29) 0 dX11_turn_29 rfl rfl ?_
              refine g_bipush (pc := 30) (v := -2) dX11_turn_30 (by decide) ?_
              refine g_callV (pc := 32) [.int (-2)] dX11_turn_32 cv_X11_98.1 cv_X11_98.2.1 cv_X11_98.2.2.1 cv_X11_98.2.2.2 hX rfl rfl (Nat.le_of_ble_eq_true rfl) (by decide) (by decide) (sp_refuse2 _ hB0) ?_
              rintro _ w5 ⟨rfl, hB5, hE5⟩
              exact g_iret (pc := 35) dX11_turn_35 (Or.inr (Or.inl ⟨h, rfl, hh, fun h9 => hpk h9.2, rfl, hB5, hE5.le (by omega) (by omega)⟩))
      · refine GP.weq _ e9 ?_
        refine n_if_eq (pc := 19) 29 dX11_turn_19 (by decide) (by omega) (fun hzi => ?_) (fun hzi => ?_)
        · refine g_aload_n (pc := 29) 0 dX11_turn_29 rfl rfl ?_
          refine g_bipush (pc := 30) (v := -2) dX11_turn_30 (by decide) ?_
          refine g_callV (pc := 32) [.int (-2)] dX11_turn_32 cv_X11_98.1 cv_X11_98.2.1 cv_X11_98.2.2.1 cv_X11_98.2.2.2 hX rfl rfl (Nat.le_of_ble_eq_true rfl) (by decide) (by decide) (sp_refuse2 _ hB0) ?_
          rintro _ w5 ⟨rfl, hB5, hE5⟩
          exact g_iret (pc := 35) dX11_turn_35 (Or.inr (Or.inl ⟨h, rfl, hh, fun h9 => hpi h9.1, rfl, hB5, hE5.le (by omega) (by omega)⟩))
        · exact absurd rfl hzi
    · rw [Int32.le_iff_toInt_le, z5] at h2
      refine g_aload_n (pc := 9) 0 dX11_turn_9 rfl rfl ?_
      refine g_iconst (pc := 10) (v := -1) dX11_turn_10 (by decide) ?_
      refine g_callV (pc := 11) [.int (-1)] dX11_turn_11 cv_X11_98.1 cv_X11_98.2.1 cv_X11_98.2.2.1 cv_X11_98.2.2.2 hX rfl rfl (Nat.le_of_ble_eq_true rfl) (by decide) (by decide) (sp_refuse1 _ hB0) ?_
      rintro _ w5 ⟨rfl, hB5, hE5⟩
      exact g_iret (pc := 14) dX11_turn_14 (Or.inl ⟨by omega, rfl, hB5, hE5.le (by omega) (by omega)⟩)
abbrev BX11_coefficient (w0 : Wd) (Post : Option Value → Wd → Prop) (w : Wd) (pc : Nat) (ls : List (Nat × Value)) (st : List Value) : Prop := GP "coefficient" RX11 cX11_coefficient 3 (some .int) 1 39 none w0 Post w pc ls st
abbrev EX11_coefficient (As : List Value) (w : Wd) (Post : Option Value → Wd → Prop) : Prop := EP yX11_coefficient cX11_coefficient 3 (some .int) 1 As w Post
theorem sp_coefficient (w : Wd) {X tl : Nat} {tb : Nat → Int32} {fa st : Int32} {rf : Nat → Nat} {sh : SV} {pn : Nat} {pk : Nat → Nat} {ps : Nat → SV} {im : Nat → Option SV} (hB : bxC w X tl tb fa st rf sh pn pk ps im) {x y : Int32} : EX11_coefficient [.ref X, .int x, .int y] w (fun r w' => (¬ (isPl x ∧ (0 ≤ y.toInt ∧ y.toInt ≤ 12)) ∧ r = some (.int (-2147483648)) ∧ bxC w' X tl tb fa st rf sh pn pk ps im ∧ EX (boxS X) 0 0 w w') ∨ (∃ i j v, x = nI i ∧ i < 8 ∧ y = nI j ∧ j ≤ 12 ∧ r = some (.int v) ∧ v.toInt = (sh.1 i).2 j ∧ bxC w' X tl tb fa st rf sh pn pk ps im ∧ EX (boxS X) 0 0 w w')) := by
  refine EP.of (plainFor_of_name (by decide)) [(0, .ref X), (1, .int x), (2, .int y)] rfl (Nat.le_of_ble_eq_true rfl) (fun r wf h => by rcases h with ⟨-, rfl, -⟩ | ⟨i, j, v, -, -, -, -, rfl, -⟩ <;> trivial) ?_
  show BX11_coefficient w _ w 0 [(0, .ref X), (1, .int x), (2, .int y)] []
  have hB0 := id hB
  obtain ⟨⟨s, hX, hs⟩, htp, hW, hpa, him, hrf⟩ := hB
  have hs0 := id hs
  obtain ⟨sp9, sf9, sh9, hs1, hs2, hs3, hs4, hs5, hs6⟩ := hs
  obtain ⟨htl, tpl, tf, ht1, ht2, ht3⟩ := id htp
  obtain ⟨row9, hrow9⟩ := hW.2.2.2.2.1
  obtain ⟨spa9, hspa9⟩ := hW.2.2.2.2.2
  refine g_iload_n (pc := 0) 1 dX11_coefficient_0 rfl rfl ?_
  refine g_callS (pc := 1) [.int x] dX11_coefficient_1 cs_X11_95.1 cs_X11_95.2 rfl rfl (Nat.le_of_ble_eq_true rfl) (by decide) (by decide) (sp_isPlace _ (x := x)) ?_
  rintro _ w9 (⟨rfl, hpi, e9⟩ | ⟨rfl, hpi, e9⟩)
  · refine GP.weq _ e9 ?_
    refine n_if_eq (pc := 4) 14 dX11_coefficient_4 (by decide) (by omega) (fun hzi => ?_) (fun hzi => ?_)
    · exact absurd hzi (by decide)
    · obtain ⟨i, hie, hi⟩ : ∃ i : Nat, x = nI i ∧ i < 8 := ⟨x.toInt.toNat, nI_toNat (by omega), by omega⟩
      subst hie
      refine g_iload_n (pc := 7) 2 dX11_coefficient_7 rfl rfl ?_
      refine g_callS (pc := 8) [.int y] dX11_coefficient_8 cs_X11_235.1 cs_X11_235.2 rfl rfl (Nat.le_of_ble_eq_true rfl) (by decide) (by decide) (sp_isPower _ (x := y)) ?_
      rintro _ w9 (⟨rfl, hpj, e9⟩ | ⟨rfl, hpj, e9⟩)
      · refine GP.weq _ e9 ?_
        refine n_if_ne (pc := 11) 17 dX11_coefficient_11 (by decide) (by omega) (fun hzj => ?_) (fun hzj => ?_)
        · obtain ⟨j, hje, hj⟩ : ∃ j : Nat, y = nI j ∧ j < 13 := ⟨y.toInt.toNat, nI_toNat (by omega), by omega⟩
          subst hje
          obtain ⟨v1, hv1, b1, c1, ho1, hb1, hvB1, hbB1, hc1, hk1⟩ := hs5 i hi
          refine g_aload_n (pc := 17) 0 dX11_coefficient_17 rfl rfl ?_
          refine g_get (pc := 18) dX11_coefficient_18 fk_X11_69 hX rfl ?_
          refine g_iload_n (pc := 21) 1 dX11_coefficient_21 rfl rfl ?_
          refine g_callV (pc := 22) [.int (nI i)] dX11_coefficient_22 cv_X11_111.1 cv_X11_111.2.1 cv_X11_111.2.2.1 cv_X11_111.2.2.2 hs1 rfl rfl (Nat.le_of_ble_eq_true rfl) (by decide) (by decide) (sp_poly _ (i := i) hs1 hs2 hi hv1) ?_
          rintro _ w9 ⟨rfl, e9⟩
          refine GP.weq _ e9 ?_
          refine g_iload_n (pc := 25) 2 dX11_coefficient_25 rfl rfl ?_
          refine g_callV (pc := 26) [.int (nI j)] dX11_coefficient_26 cv_X11_241.1 cv_X11_241.2.1 cv_X11_241.2.2.1 cv_X11_241.2.2.2 ho1 rfl rfl (Nat.le_of_ble_eq_true rfl) (by decide) (by decide) (sp_ofPower _ (x := j) ho1 hb1 hk1.1 (by omega)) ?_
          rintro _ w9 ⟨rfl, e9⟩
          refine GP.weq _ e9 ?_
          obtain ⟨x9, hx9⟩ : ∃ x9 : Int32, (if j ≤ (sh.1 i).1 then c1 j else 0) = x9 := ⟨_, rfl⟩
          have hx8 : x9.toInt = (sh.1 i).2 j := by
            rw [← hx9, ← okP_ext hc1 hk1 j]
            by_cases e : j ≤ (sh.1 i).1
            · rw [if_pos e, if_pos e]
            · rw [if_neg e, if_neg e]
              decide
          refine GP.ti x9 hx9 ?_
          exact g_iret (pc := 29) dX11_coefficient_29 (Or.inr ⟨i, j, x9, rfl, hi, rfl, by omega, rfl, hx8, hB0, EX.rf⟩)
        · exact absurd hzj (by decide)
      · refine GP.weq _ e9 ?_
        refine n_if_ne (pc := 11) 17 dX11_coefficient_11 (by decide) (by omega) (fun hzj => ?_) (fun hzj => ?_)
        · exact absurd rfl hzj
        · refine g_ldc (pc := 14) kc_X11_240 dX11_coefficient_14 ?_
          exact g_iret (pc := 16) dX11_coefficient_16 (Or.inl ⟨fun h9 => hpj h9.2, rfl, hB0, EX.rf⟩)
  · refine GP.weq _ e9 ?_
    refine n_if_eq (pc := 4) 14 dX11_coefficient_4 (by decide) (by omega) (fun hzi => ?_) (fun hzi => ?_)
    · refine g_ldc (pc := 14) kc_X11_240 dX11_coefficient_14 ?_
      exact g_iret (pc := 16) dX11_coefficient_16 (Or.inl ⟨fun h9 => hpi h9.1, rfl, hB0, EX.rf⟩)
    · exact absurd rfl hzi
abbrev BX11_value (w0 : Wd) (Post : Option Value → Wd → Prop) (w : Wd) (pc : Nat) (ls : List (Nat × Value)) (st : List Value) : Prop := GP "value" RX11 cX11_value 3 (some .long) 2 78 none w0 Post w pc ls st
abbrev EX11_value (As : List Value) (w : Wd) (Post : Option Value → Wd → Prop) : Prop := EP yX11_value cX11_value 3 (some .long) 2 As w Post
theorem sp_value (w : Wd) {X tl : Nat} {tb : Nat → Int32} {fa st : Int32} {rf : Nat → Nat} {sh : SV} {pn : Nat} {pk : Nat → Nat} {ps : Nat → SV} {im : Nat → Option SV} (hB : bxC w X tl tb fa st rf sh pn pk ps im) {x y : Int32} : EX11_value [.ref X, .int x, .int y] w (fun r w' => (¬ (isPl x ∧ -50 ≤ y.toInt ∧ y.toInt ≤ 50) ∧ r = some (.long (-9223372036854775808)) ∧ bxC w' X tl tb fa st rf sh pn pk ps im ∧ EX (boxS X) 0 0 w w') ∨ (∃ i v, x = nI i ∧ i < 8 ∧ -50 ≤ y.toInt ∧ y.toInt ≤ 50 ∧ r = some (.long v) ∧ ((hfit (sh.1 i).2 y.toInt (sh.1 i).1 ((sh.1 i).1 + 1) ∧ v.toInt = hev (sh.1 i).2 y.toInt (sh.1 i).1 ((sh.1 i).1 + 1)) ∨ (¬ hfit (sh.1 i).2 y.toInt (sh.1 i).1 ((sh.1 i).1 + 1) ∧ v.toInt = -9223372036854775808)) ∧ bxC w' X tl tb fa st rf sh pn pk ps im ∧ EX (boxS X) 0 0 w w')) := by
  refine EP.of (plainFor_of_name (by decide)) [(0, .ref X), (1, .int x), (2, .int y)] rfl (Nat.le_of_ble_eq_true rfl) (fun r wf h => by rcases h with ⟨-, rfl, -⟩ | ⟨i, v, -, -, -, -, rfl, -⟩ <;> trivial) ?_
  show BX11_value w _ w 0 [(0, .ref X), (1, .int x), (2, .int y)] []
  have hB0 := id hB
  obtain ⟨⟨s, hX, hs⟩, htp, hW, hpa, him, hrf⟩ := hB
  have hs0 := id hs
  obtain ⟨sp9, sf9, sh9, hs1, hs2, hs3, hs4, hs5, hs6⟩ := hs
  obtain ⟨htl, tpl, tf, ht1, ht2, ht3⟩ := id htp
  obtain ⟨row9, hrow9⟩ := hW.2.2.2.2.1
  obtain ⟨spa9, hspa9⟩ := hW.2.2.2.2.2
  have z50 : (nI 50).toInt = 50 := by decide
  have m50 : (-50 : Int32).toInt = -50 := by decide
  refine g_iload_n (pc := 0) 1 dX11_value_0 rfl rfl ?_
  refine g_callS (pc := 1) [.int x] dX11_value_1 cs_X11_95.1 cs_X11_95.2 rfl rfl (Nat.le_of_ble_eq_true rfl) (by decide) (by decide) (sp_isPlace _ (x := x)) ?_
  rintro _ w9 (⟨rfl, hpi, e9⟩ | ⟨rfl, hpi, e9⟩)
  · refine GP.weq _ e9 ?_
    refine n_if_eq (pc := 4) 19 dX11_value_4 (by decide) (by omega) (fun hzi => ?_) (fun hzi => ?_)
    · exact absurd hzi (by decide)
    · obtain ⟨i, hie, hi⟩ : ∃ i : Nat, x = nI i ∧ i < 8 := ⟨x.toInt.toNat, nI_toNat (by omega), by omega⟩
      subst hie
      refine g_iload_n (pc := 7) 2 dX11_value_7 rfl rfl ?_
      refine g_bipush (pc := 8) (v := -50) dX11_value_8 (by decide) ?_
      refine g_icmp_lt (pc := 10) 19 dX11_value_10 (by decide) (fun h1 => ?_) (fun h1 => ?_)
      · rw [Int32.lt_iff_toInt_lt, m50] at h1
        refine g_ldc2 (pc := 19) kc_X11_280 dX11_value_19 ?_
        exact g_lret (pc := 22) dX11_value_22 (Or.inl ⟨fun h9 => by have := h9.2.1; omega, rfl, hB0, EX.rf⟩)
      · rw [Int32.lt_iff_toInt_lt, m50] at h1
        refine g_iload_n (pc := 13) 2 dX11_value_13 rfl rfl ?_
        refine g_bipush (pc := 14) (v := nI 50) dX11_value_14 (by decide) ?_
        refine g_icmp_le (pc := 16) 23 dX11_value_16 (by decide) (fun h2 => ?_) (fun h2 => ?_)
        · rw [Int32.le_iff_toInt_le, z50] at h2
          obtain ⟨v1, hv1, b1, c1, ho1, hb1, hvB1, hbB1, hc1, hk1⟩ := hs5 i hi
          refine g_aload_n (pc := 23) 0 dX11_value_23 rfl rfl ?_
          refine g_get (pc := 24) dX11_value_24 fk_X11_69 hX rfl ?_
          refine g_iload_n (pc := 27) 1 dX11_value_27 rfl rfl ?_
          refine g_callV (pc := 28) [.int (nI i)] dX11_value_28 cv_X11_111.1 cv_X11_111.2.1 cv_X11_111.2.2.1 cv_X11_111.2.2.2 hs1 rfl rfl (Nat.le_of_ble_eq_true rfl) (by decide) (by decide) (sp_poly _ (i := i) hs1 hs2 hi hv1) ?_
          rintro _ w9 ⟨rfl, e9⟩
          refine GP.weq _ e9 ?_
          refine g_iload_n (pc := 31) 2 dX11_value_31 rfl rfl ?_
          refine g_callV (pc := 32) [.int y] dX11_value_32 cv_X11_310.1 cv_X11_310.2.1 cv_X11_310.2.2.1 cv_X11_310.2.2.2 ho1 rfl rfl (Nat.le_of_ble_eq_true rfl) (by decide) (by decide) (sp_valueAt _ (x := y) ho1 hb1 hk1.1 (fun t ht => by rw [hc1 t ht]; exact hk1.2.1 t ht) ⟨by omega, by omega⟩) ?_
          rintro _ w9 ⟨v, rfl, e9, hv⟩
          refine GP.weq _ e9 ?_
          have hcg : ∀ m, m ≤ (sh.1 i).1 + 1 → hev (toJ c1) y.toInt (sh.1 i).1 m = hev (sh.1 i).2 y.toInt (sh.1 i).1 m := by
            intro m
            induction m with
            | zero => intro _; rfl
            | succ m ih =>
              intro hm
              show hev (toJ c1) y.toInt (sh.1 i).1 m * y.toInt + toJ c1 ((sh.1 i).1 - m) = hev (sh.1 i).2 y.toInt (sh.1 i).1 m * y.toInt + (sh.1 i).2 ((sh.1 i).1 - m)
              rw [ih (by omega)]
              congr 1
              exact hc1 _ (by omega)
          have hfc : hfit (toJ c1) y.toInt (sh.1 i).1 ((sh.1 i).1 + 1) ↔ hfit (sh.1 i).2 y.toInt (sh.1 i).1 ((sh.1 i).1 + 1) := by
            constructor
            · intro h9 j hj
              rw [← hcg j (by omega), ← hcg (j + 1) (by omega)]
              exact h9 j hj
            · intro h9 j hj
              rw [hcg j (by omega), hcg (j + 1) (by omega)]
              exact h9 j hj
          rw [hfc, hcg _ (Nat.le_refl _)] at hv
          exact g_lret (pc := 35) dX11_value_35 (Or.inr ⟨i, v, rfl, hi, by omega, by omega, rfl, hv, hB0, EX.rf⟩)
        · rw [Int32.le_iff_toInt_le, z50] at h2
          refine g_ldc2 (pc := 19) kc_X11_280 dX11_value_19 ?_
          exact g_lret (pc := 22) dX11_value_22 (Or.inl ⟨fun h9 => by have := h9.2.2; omega, rfl, hB0, EX.rf⟩)
  · refine GP.weq _ e9 ?_
    refine n_if_eq (pc := 4) 19 dX11_value_4 (by decide) (by omega) (fun hzi => ?_) (fun hzi => ?_)
    · refine g_ldc2 (pc := 19) kc_X11_280 dX11_value_19 ?_
      exact g_lret (pc := 22) dX11_value_22 (Or.inl ⟨fun h9 => hpi h9.1, rfl, hB0, EX.rf⟩)
    · exact absurd rfl hzi
abbrev BX11_often (w0 : Wd) (Post : Option Value → Wd → Prop) (w : Wd) (pc : Nat) (ls : List (Nat × Value)) (st : List Value) : Prop := GP "often" RX11 cX11_often 3 (some .int) 4 156 none w0 Post w pc ls st
abbrev EX11_often (As : List Value) (w : Wd) (Post : Option Value → Wd → Prop) : Prop := EP yX11_often cX11_often 3 (some .int) 4 As w Post
theorem sp_often (w : Wd) {X tl : Nat} {tb : Nat → Int32} {fa st : Int32} {rf : Nat → Nat} {sh : SV} {pn : Nat} {pk : Nat → Nat} {ps : Nat → SV} {im : Nat → Option SV} (hB : bxC w X tl tb fa st rf sh pn pk ps im) {x y : Int32} : EX11_often [.ref X, .int x, .int y] w (fun r w' => (¬ (isPl x ∧ ∃ n, y = nI n ∧ n < 43 ∧ cyIs n) ∧ r = some (.int (-1)) ∧ bxC w' X tl tb fa st rf sh pn pk ps im ∧ EX (boxS X) 0 0 w w') ∨ (∃ i n c G T', x = nI i ∧ i < 8 ∧ y = nI n ∧ n < 43 ∧ cyIs n ∧ ofC n c (sh.1 i).2 (sh.1 i).1 G T' ∧ (∀ q, ¬ dvB n G T' q) ∧ r = some (.int (nI c)) ∧ bxC w' X tl tb fa st rf sh pn pk ps im ∧ EX (boxS X) 0 0 w w')) := by
  refine EP.of (plainFor_of_name (by decide)) [(0, .ref X), (1, .int x), (2, .int y)] rfl (Nat.le_of_ble_eq_true rfl) (fun r wf h => by rcases h with ⟨-, rfl, -⟩ | ⟨i, n, c, G, T', -, -, -, -, -, -, -, rfl, -⟩ <;> trivial) ?_
  show BX11_often w _ w 0 [(0, .ref X), (1, .int x), (2, .int y)] []
  have hB0 := id hB
  obtain ⟨⟨s, hX, hs⟩, htp, hW, hpa, him, hrf⟩ := hB
  have hs0 := id hs
  obtain ⟨sp9, sf9, sh9, hs1, hs2, hs3, hs4, hs5, hs6⟩ := hs
  obtain ⟨htl, tpl, tf, ht1, ht2, ht3⟩ := id htp
  obtain ⟨row9, hrow9⟩ := hW.2.2.2.2.1
  obtain ⟨spa9, hspa9⟩ := hW.2.2.2.2.2
  obtain ⟨tpc, mkc, lfc, hc9, hcD, -⟩ := id hW.2.2.1
  obtain ⟨pf, mf, hp1, hp2, hall⟩ := hcD
  refine g_iload_n (pc := 0) 1 dX11_often_0 rfl rfl ?_
  refine g_callS (pc := 1) [.int x] dX11_often_1 cs_X11_95.1 cs_X11_95.2 rfl rfl (Nat.le_of_ble_eq_true rfl) (by decide) (by decide) (sp_isPlace _ (x := x)) ?_
  rintro _ w9 (⟨rfl, hpi, e9⟩ | ⟨rfl, hpi, e9⟩)
  · refine GP.weq _ e9 ?_
    refine n_if_eq (pc := 4) 18 dX11_often_4 (by decide) (by omega) (fun hzi => ?_) (fun hzi => ?_)
    · exact absurd hzi (by decide)
    · obtain ⟨i, hie, hi⟩ : ∃ i : Nat, x = nI i ∧ i < 8 := ⟨x.toInt.toNat, nI_toNat (by omega), by omega⟩
      subst hie
      refine g_aload_n (pc := 7) 0 dX11_often_7 rfl rfl ?_
      refine g_get (pc := 8) dX11_often_8 fk_X11_33 hX rfl ?_
      refine g_iload_n (pc := 11) 2 dX11_often_11 rfl rfl ?_
      by_cases h42 : 0 ≤ y.toInt ∧ y.toInt ≤ 42
      · obtain ⟨n, hne, hn⟩ : ∃ n : Nat, y = nI n ∧ n < 43 := ⟨y.toInt.toNat, nI_toNat (by omega), by omega⟩
        subst hne
        by_cases hcy : cyIs n
        · obtain ⟨v, b, f, hv, hv1, hv2, hvo, hvb, hvf, hmf⟩ := (hall n hn).2 hcy
          refine g_callV (pc := 12) [.int (nI n)] dX11_often_12 cv_X11_155.1 cv_X11_155.2.1 cv_X11_155.2.2.1 cv_X11_155.2.2.2 hc9 rfl rfl (Nat.le_of_ble_eq_true rfl) (by decide) (by decide) (sp_divisor _ (i := n) hc9 hp1 (by omega) hv) ?_
          rintro _ w9 ⟨rfl, e9⟩
          refine GP.weq _ e9 ?_
          refine g_ifnonnull (pc := 15) 20 dX11_often_15 (by decide) ?_
          clear hv hv1 hv2 hvo hvb hvf hmf
          obtain ⟨v1, hv1, b1, c1, ho1, hb1, hvB1, hbB1, hc1, hk1⟩ := hs5 i hi
          refine g_aload_n (pc := 20) 0 dX11_often_20 rfl rfl ?_
          refine g_get (pc := 21) dX11_often_21 fk_X11_33 hX rfl ?_
          refine g_aload_n (pc := 24) 0 dX11_often_24 rfl rfl ?_
          refine g_get (pc := 25) dX11_often_25 fk_X11_69 hX rfl ?_
          refine g_iload_n (pc := 28) 1 dX11_often_28 rfl rfl ?_
          refine g_callV (pc := 29) [.int (nI i)] dX11_often_29 cv_X11_111.1 cv_X11_111.2.1 cv_X11_111.2.2.1 cv_X11_111.2.2.2 hs1 rfl rfl (Nat.le_of_ble_eq_true rfl) (by decide) (by decide) (sp_poly _ (i := i) hs1 hs2 hi hv1) ?_
          rintro _ w9 ⟨rfl, e9⟩
          refine GP.weq _ e9 ?_
          refine g_callV (pc := 32) [.ref v1] dX11_often_32 cv_X11_158.1 cv_X11_158.2.1 cv_X11_158.2.2.1 cv_X11_158.2.2.2 hc9 rfl rfl (Nat.le_of_ble_eq_true rfl) (by decide) (by decide) (sp_begin _ hW.2.2.1 ho1 hb1 hk1.1 (fun j hj => by rw [hc1 j hj]; exact hk1.2.1 j hj)) ?_
          rintro _ w1 ⟨rfl, hM1, hF1⟩
          obtain ⟨hB1, hE1⟩ := hB0.cir hF1 hM1.a
          have UC : ∀ i, i < X + 52 ∨ X + 57 < i → ¬ cirS (X + 52) i := fun i hi h9 => by unfold cirS at h9; omega
          have hX1 := hF1.lk (UC _ (by omega)) hX
          obtain ⟨-, -, mk1, lf1, ⟨hc1', -⟩, -⟩ := id hM1
          refine g_aload_n (pc := 35) 0 dX11_often_35 rfl rfl ?_
          refine g_get (pc := 36) dX11_often_36 fk_X11_33 hX1 rfl ?_
          refine g_iload_n (pc := 39) 2 dX11_often_39 rfl rfl ?_
          refine g_callV (pc := 40) [.int (nI n)] dX11_often_40 cv_X11_307.1 cv_X11_307.2.1 cv_X11_307.2.2.1 cv_X11_307.2.2.2 hc1' rfl rfl (Nat.le_of_ble_eq_true rfl) (by decide) (by decide) (sp_divideOut _ (n := n) hM1 (by omega)) ?_
          rintro _ w2 ⟨c, G0, T', rfl, hof, hno, hM2, hF2⟩
          obtain ⟨hB2, hE2⟩ := hB1.cir hF2 hM2.a
          obtain ⟨G, hofG, hG⟩ := ofC_cg (F' := (sh.1 i).2) (fun j hj => hc1 j hj) hof
          exact g_iret (pc := 43) dX11_often_43 (Or.inr ⟨i, n, c, G, T', rfl, hi, rfl, hn, hcy, hofG, fun q hq => hno q (dvB_cg (fun j hj => (hG j hj).symm) hq), rfl, hB2, (hE1.tr hE2).le (by omega) (by omega)⟩)
        · refine g_callV (pc := 12) [.int (nI n)] dX11_often_12 cv_X11_155.1 cv_X11_155.2.1 cv_X11_155.2.2.1 cv_X11_155.2.2.2 hc9 rfl rfl (Nat.le_of_ble_eq_true rfl) (by decide) (by decide) (sp_divisorN _ (i := n) hc9 hp1 (by omega) ((hall n hn).1 hcy).1) ?_
          rintro _ w9 ⟨rfl, e9⟩
          refine GP.weq _ e9 ?_
          refine g_ifnonnullN (pc := 15) dX11_often_15 ?_
          refine g_iconst (pc := 18) (v := -1) dX11_often_18 (by decide) ?_
          exact g_iret (pc := 19) dX11_often_19 (Or.inl ⟨fun h9 => hcy (by obtain ⟨-, m9, e1, e2, e3⟩ := h9; have := (nI_inj (by omega) (by omega)).mp e1; rw [this]; exact e3), rfl, hB0, EX.rf⟩)
      · refine g_callV (pc := 12) [.int y] dX11_often_12 cv_X11_155.1 cv_X11_155.2.1 cv_X11_155.2.2.1 cv_X11_155.2.2.2 hc9 rfl rfl (Nat.le_of_ble_eq_true rfl) (by decide) (by decide) (sp_divisorX _ hc9 hp1 h42) ?_
        rintro _ w9 ⟨rfl, e9⟩
        refine GP.weq _ e9 ?_
        refine g_ifnonnullN (pc := 15) dX11_often_15 ?_
        refine g_iconst (pc := 18) (v := -1) dX11_often_18 (by decide) ?_
        exact g_iret (pc := 19) dX11_often_19 (Or.inl ⟨fun h9 => h42 (by obtain ⟨-, m9, e1, e2, -⟩ := h9; rw [e1, nI_toInt (by omega)]; omega), rfl, hB0, EX.rf⟩)
  · refine GP.weq _ e9 ?_
    refine n_if_eq (pc := 4) 18 dX11_often_4 (by decide) (by omega) (fun hzi => ?_) (fun hzi => ?_)
    · refine g_iconst (pc := 18) (v := -1) dX11_often_18 (by decide) ?_
      exact g_iret (pc := 19) dX11_often_19 (Or.inl ⟨fun h9 => hpi h9.1, rfl, hB0, EX.rf⟩)
    · exact absurd rfl hzi
