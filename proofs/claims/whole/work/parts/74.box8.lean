/-! MahlerBox: core, by, plus -/
theorem wkC.cir {w w' : Wd} {X : Nat} (h : wkC w X) (hF : FR (cirS (X + 52)) w w') (hA : cirA w' (X + 52)) : wkC w' X := by
  obtain ⟨⟨n, tp, R, h1⟩, ⟨bb, bl, h2⟩, h3, ⟨m, hh, lv, ia, lk, on, rw9, en, a1, ⟨⟨tf, b1, b2⟩, b3⟩, a3, a4, a5⟩, ⟨g1, h6⟩, g2, h7⟩ := h
  have hE := EX.of hF (fun _ h => h)
  have hS : ∀ i, i < X + 52 ∨ X + 57 < i → ¬ cirS (X + 52) i := fun i hi h9 => by unfold cirS at h9; omega
  exact ⟨⟨n, tp, R, h1.ex hE (hS _ (by omega)) (fun i _ _ => hS _ (by omega))⟩, ⟨bb, bl, h2.ex hE (fun i _ _ => hS _ (by omega))⟩, hA, ⟨m, hh, lv, ia, lk, on, rw9, en, hE.lk (hS _ (by omega)) a1, ⟨⟨tf, hE.lk (hS _ (by omega)) b1, b2⟩, fun k hk => (b3 k hk).ex hE (hS _ (by omega)) (hS _ (by omega))⟩, a3.ex hE (hS _ (by omega)) (hS _ (by omega)), hE.lk (hS _ (by omega)) a4, hE.lk (hS _ (by omega)) a5⟩, ⟨g1, hE.lk (hS _ (by omega)) h6⟩, g2, hE.lk (hS _ (by omega)) h7⟩
theorem bxC.cir {w w' : Wd} {X tl : Nat} {tb : Nat → Int32} {fa st : Int32} {rf : Nat → Nat} {sh : SV} {pn : Nat} {pk : Nat → Nat} {ps : Nat → SV} {im : Nat → Option SV} (h : bxC w X tl tb fa st rf sh pn pk ps im) (hF : FR (cirS (X + 52)) w w') (hA : cirA w' (X + 52)) : bxC w' X tl tb fa st rf sh pn pk ps im ∧ EX (boxS X) 0 0 w w' :=
  ⟨h.tools (EX.of hF (fun _ h => h)) (fun i hi => by unfold cirS at hi; omega) (h.2.2.1.cir hF hA), EX.of hF (fun i hi => by unfold cirS at hi; unfold boxS; omega)⟩
theorem ofC_cg {n : Nat} {F F' : Nat → Int} {T : Nat} (h : ∀ j, j ≤ T → F j = F' j) : ∀ {c : Nat} {G : Nat → Int} {T' : Nat}, ofC n c F T G T' → ∃ G', ofC n c F' T G' T' ∧ ∀ j, j ≤ T' → G j = G' j
  | 0, G, T', ⟨e1, e2⟩ => ⟨F', ⟨rfl, e2⟩, fun j hj => by rw [e1]; exact h j (by omega)⟩
  | c + 1, G, T', ⟨F1, T1, h1, h2, h3⟩ => by
    obtain ⟨G1, g1, g2⟩ := ofC_cg h h1
    exact ⟨G, ⟨G1, T1, g1, ⟨h2.1, h2.2.1, divOk_cong (fun _ _ => rfl) (fun i hi => g2 i (by have := h2.2.1; omega)) h2.2.2⟩, h3⟩, fun _ _ => rfl⟩
theorem dvB_cg {n : Nat} {F F' q : Nat → Int} {T : Nat} (h : ∀ j, j ≤ T → F j = F' j) (hd : dvB n F T q) : dvB n F' T q := ⟨hd.1, hd.2.1, divOk_cong (fun _ _ => rfl) (fun i hi => h i (by have := hd.2.1; omega)) hd.2.2⟩
theorem coC_cg {F F' : Nat → Int} {T : Nat} (h : ∀ j, j ≤ T → F j = F' j) : ∀ {k : Nat} {G : Nat → Int} {T' : Nat}, coC k F T G T' → ∃ G', coC k F' T G' T' ∧ ∀ j, j ≤ T' → G j = G' j
  | 0, G, T', ⟨e1, e2⟩ => ⟨F', ⟨rfl, e2⟩, fun j hj => by rw [e1]; exact h j (by omega)⟩
  | k + 1, G, T', ⟨F1, T1, c, h1, h2, h3⟩ => by
    obtain ⟨G1, g1, g2⟩ := coC_cg h h1
    obtain ⟨G2, g3, g4⟩ := ofC_cg g2 h2
    exact ⟨G2, ⟨G1, T1, c, g1, g3, fun q hq => h3 q (dvB_cg (fun j hj => (g4 j hj).symm) hq)⟩, g4⟩
abbrev BX11_core (w0 : Wd) (Post : Option Value → Wd → Prop) (w : Wd) (pc : Nat) (ls : List (Nat × Value)) (st : List Value) : Prop := GP "core" RX11 cX11_core 3 (some .int) 4 156 none w0 Post w pc ls st
abbrev EX11_core (As : List Value) (w : Wd) (Post : Option Value → Wd → Prop) : Prop := EP yX11_core cX11_core 3 (some .int) 4 As w Post
theorem sp_core (w : Wd) {X tl : Nat} {tb : Nat → Int32} {fa st : Int32} {rf : Nat → Nat} {sh : SV} {pn : Nat} {pk : Nat → Nat} {ps : Nat → SV} {im : Nat → Option SV} (hB : bxC w X tl tb fa st rf sh pn pk ps im) {x z : Int32} : EX11_core [.ref X, .int x, .int z] w (fun r w' => (¬ (isPl x ∧ isPl z) ∧ rfP (-2) 1 w X tl tb fa rf sh pn pk ps im r w') ∨ (∃ i k G T', x = nI i ∧ i < 8 ∧ z = nI k ∧ k < 8 ∧ coC 43 (sh.1 i).2 (sh.1 i).1 G T' ∧ putP (fun t => if t ≤ T' then (if G T' < 0 then -G t else G t) else 0) 6 k w X tl tb fa rf sh pn pk ps im r w')) := by
  refine EP.of (plainFor_of_name (by decide)) [(0, .ref X), (1, .int x), (2, .int z)] rfl (Nat.le_of_ble_eq_true rfl) (fun r wf h => by rcases h with ⟨-, h⟩ | ⟨i, k, G, T', -, -, -, -, -, h⟩; obtain ⟨x, rfl⟩ := rokR h; trivial; obtain ⟨x, rfl⟩ := rokP h; trivial) ?_
  show BX11_core w _ w 0 [(0, .ref X), (1, .int x), (2, .int z)] []
  have hB0 := id hB
  obtain ⟨⟨s, hX, hs⟩, htp, hW, hpa, him, hrf⟩ := hB
  have hs0 := id hs
  obtain ⟨sp9, sf9, sh9, hs1, hs2, hs3, hs4, hs5, hs6⟩ := hs
  obtain ⟨htl, tpl, tf, ht1, ht2, ht3⟩ := id htp
  obtain ⟨row9, hrow9⟩ := hW.2.2.2.2.1
  obtain ⟨spa9, hspa9⟩ := hW.2.2.2.2.2
  refine g_iload_n (pc := 0) 1 dX11_core_0 rfl rfl ?_
  refine g_callS (pc := 1) [.int x] dX11_core_1 cs_X11_95.1 cs_X11_95.2 rfl rfl (Nat.le_of_ble_eq_true rfl) (by decide) (by decide) (sp_isPlace _ (x := x)) ?_
  rintro _ w9 (⟨rfl, hpi, e9⟩ | ⟨rfl, hpi, e9⟩)
  · refine GP.weq _ e9 ?_
    refine n_if_eq (pc := 4) 14 dX11_core_4 (by decide) (by omega) (fun hzi => ?_) (fun hzi => ?_)
    · exact absurd hzi (by decide)
    · obtain ⟨i, hie, hi⟩ : ∃ i : Nat, x = nI i ∧ i < 8 := ⟨x.toInt.toNat, nI_toNat (by omega), by omega⟩
      subst hie
      refine g_iload_n (pc := 7) 2 dX11_core_7 rfl rfl ?_
      refine g_callS (pc := 8) [.int z] dX11_core_8 cs_X11_95.1 cs_X11_95.2 rfl rfl (Nat.le_of_ble_eq_true rfl) (by decide) (by decide) (sp_isPlace _ (x := z)) ?_
      rintro _ w9 (⟨rfl, hpk, e9⟩ | ⟨rfl, hpk, e9⟩)
      · refine GP.weq _ e9 ?_
        refine n_if_ne (pc := 11) 21 dX11_core_11 (by decide) (by omega) (fun hzk => ?_) (fun hzk => ?_)
        · obtain ⟨k, hke, hk⟩ : ∃ k : Nat, z = nI k ∧ k < 8 := ⟨z.toInt.toNat, nI_toNat (by omega), by omega⟩
          subst hke
          obtain ⟨v1, hv1, b1, c1, ho1, hb1, hvB1, hbB1, hc1, hk1⟩ := hs5 i hi
          have hA := hW.2.2.1
          obtain ⟨tpc, mkc, lfc, hc9, hcr⟩ := id hA
          refine g_aload_n (pc := 21) 0 dX11_core_21 rfl rfl ?_
          refine g_get (pc := 22) dX11_core_22 fk_X11_33 hX rfl ?_
          refine g_aload_n (pc := 25) 0 dX11_core_25 rfl rfl ?_
          refine g_get (pc := 26) dX11_core_26 fk_X11_69 hX rfl ?_
          refine g_iload_n (pc := 29) 1 dX11_core_29 rfl rfl ?_
          refine g_callV (pc := 30) [.int (nI i)] dX11_core_30 cv_X11_111.1 cv_X11_111.2.1 cv_X11_111.2.2.1 cv_X11_111.2.2.2 hs1 rfl rfl (Nat.le_of_ble_eq_true rfl) (by decide) (by decide) (sp_poly _ (i := i) hs1 hs2 hi hv1) ?_
          rintro _ w9 ⟨rfl, e9⟩
          refine GP.weq _ e9 ?_
          refine g_callV (pc := 33) [.ref v1] dX11_core_33 cv_X11_158.1 cv_X11_158.2.1 cv_X11_158.2.2.1 cv_X11_158.2.2.2 hc9 rfl rfl (Nat.le_of_ble_eq_true rfl) (by decide) (by decide) (sp_begin _ hA ho1 hb1 hk1.1 (fun j hj => by rw [hc1 j hj]; exact hk1.2.1 j hj)) ?_
          rintro _ w1 ⟨rfl, hM1, hF1⟩
          obtain ⟨hB1, hE1⟩ := hB0.cir hF1 hM1.a
          have UC : ∀ i, i < X + 52 ∨ X + 57 < i → ¬ cirS (X + 52) i := fun i hi h9 => by unfold cirS at h9; omega
          have hX1 := hF1.lk (UC _ (by omega)) hX
          obtain ⟨-, -, mk1, lf1, ⟨hc1', -⟩, -⟩ := id hM1
          refine g_aload_n (pc := 36) 0 dX11_core_36 rfl rfl ?_
          refine g_get (pc := 37) dX11_core_37 fk_X11_33 hX1 rfl ?_
          refine g_callV (pc := 40) [] dX11_core_40 cv_X11_162.1 cv_X11_162.2.1 cv_X11_162.2.2.1 cv_X11_162.2.2.2 hc1' rfl rfl (Nat.le_of_ble_eq_true rfl) (by decide) (by decide) (sp_divideAllOut _ hM1) ?_
          rintro _ w2 ⟨rfl, G0, T', hco, hM2, hF2⟩
          obtain ⟨hB2, hE2⟩ := hB1.cir hF2 hM2.a
          have hX2 := hF2.lk (UC _ (by omega)) hX1
          have hr2 := hF2.lk (UC _ (by omega)) (hF1.lk (UC _ (by omega)) hrow9)
          obtain ⟨hT2, hbd2, mk2, lf2, ⟨hc2, -, hl2, -⟩, hlf2, -⟩ := id hM2
          obtain ⟨G, hcoG, hG⟩ := coC_cg (F' := (sh.1 i).2) (fun j hj => hc1 j hj) hco
          refine g_aload_n (pc := 43) 0 dX11_core_43 rfl rfl ?_
          refine g_get (pc := 44) dX11_core_44 fk_X11_33 hX2 rfl ?_
          refine g_aload_n (pc := 47) 0 dX11_core_47 rfl rfl ?_
          refine g_get (pc := 48) dX11_core_48 fk_X11_57 hX2 rfl ?_
          refine g_callV (pc := 51) [.ref (X + 136)] dX11_core_51 cv_X11_165.1 cv_X11_165.2.1 cv_X11_165.2.2.1 cv_X11_165.2.2.2 hc2 rfl rfl (Nat.le_of_ble_eq_true rfl) (by decide) (by decide) (sp_writeCore _ (F := G0) hT2 hc2 hl2 hlf2 hbd2 hr2 (by omega) (by omega) (by decide) (by decide)) ?_
          rintro _ w3 ⟨rfl, e', he', e9⟩
          obtain ⟨hB3, hE3⟩ := hB2.row e' hr2
          rw [← e9] at hB3 hE3
          have hr3 : w3[X + 136]? = some (aL 25 e') := by rw [e9]; exact lk_eq hr2
          have hX3 : w3[X]? = some (oB X s fa st) := by rw [e9]; exact lk_ne (by omega) hX2
          refine g_aload_n (pc := 54) 0 dX11_core_54 rfl rfl ?_
          refine g_bipush (pc := 55) (v := nI 6) dX11_core_55 (by decide) ?_
          refine g_iload_n (pc := 57) 2 dX11_core_57 rfl rfl ?_
          refine g_callV (pc := 58) [.int (nI 6), .int (nI k)] dX11_core_58 cv_X11_107.1 cv_X11_107.2.1 cv_X11_107.2.2.1 cv_X11_107.2.2.2 hX3 rfl rfl (Nat.le_of_ble_eq_true rfl) (by decide) (by decide) (sp_putRow _ (kd := 6) (k := k) (F := (fun t => if t ≤ T' then (if G T' < 0 then -G t else G t) else 0)) hB3 hr3 (fun t ht => by rw [he' t ht]; by_cases e8 : t ≤ T'; · { rw [if_pos e8, if_pos e8, hG t e8, hG T' (Nat.le_refl _)] }; · { rw [if_neg e8, if_neg e8] }) hk) ?_
          rintro _ w4 hP
          obtain ⟨x9, rfl⟩ := rokP hP
          exact g_iret (pc := 61) dX11_core_61 (Or.inr ⟨i, k, G, T', rfl, hi, rfl, hk, hcoG, hP.from (((hE1.tr hE2).tr hE3).le (by omega) (by omega))⟩)
        · exact absurd hzk (by decide)
      · refine GP.weq _ e9 ?_
        refine n_if_ne (pc := 11) 21 dX11_core_11 (by decide) (by omega) (fun hzk => ?_) (fun hzk => ?_)
        · exact absurd rfl hzk
        · refine g_aload_n (pc := 14) 0 dX11_core_14 rfl rfl ?_
          refine g_bipush (pc := 15) (v := -2) dX11_core_15 (by decide) ?_
          refine g_callV (pc := 17) [.int (-2)] dX11_core_17 cv_X11_98.1 cv_X11_98.2.1 cv_X11_98.2.2.1 cv_X11_98.2.2.2 hX rfl rfl (Nat.le_of_ble_eq_true rfl) (by decide) (by decide) (sp_refuse2 _ hB0) ?_
          rintro _ w5 ⟨rfl, hB5, hE5⟩
          exact g_iret (pc := 20) dX11_core_20 (Or.inl ⟨fun h9 => hpk h9.2, rfl, hB5, hE5.le (by omega) (by omega)⟩)
  · refine GP.weq _ e9 ?_
    refine n_if_eq (pc := 4) 14 dX11_core_4 (by decide) (by omega) (fun hzi => ?_) (fun hzi => ?_)
    · refine g_aload_n (pc := 14) 0 dX11_core_14 rfl rfl ?_
      refine g_bipush (pc := 15) (v := -2) dX11_core_15 (by decide) ?_
      refine g_callV (pc := 17) [.int (-2)] dX11_core_17 cv_X11_98.1 cv_X11_98.2.1 cv_X11_98.2.2.1 cv_X11_98.2.2.2 hX rfl rfl (Nat.le_of_ble_eq_true rfl) (by decide) (by decide) (sp_refuse2 _ hB0) ?_
      rintro _ w5 ⟨rfl, hB5, hE5⟩
      exact g_iret (pc := 20) dX11_core_20 (Or.inl ⟨fun h9 => hpi h9.1, rfl, hB5, hE5.le (by omega) (by omega)⟩)
    · exact absurd rfl hzi
abbrev BX11_by (w0 : Wd) (Post : Option Value → Wd → Prop) (w : Wd) (pc : Nat) (ls : List (Nat × Value)) (st : List Value) : Prop := GP "by" RX11 cX11_by 5 (some .int) 4 156 none w0 Post w pc ls st
abbrev EX11_by (As : List Value) (w : Wd) (Post : Option Value → Wd → Prop) : Prop := EP yX11_by cX11_by 5 (some .int) 4 As w Post
theorem sp_by (w : Wd) {X tl : Nat} {tb : Nat → Int32} {fa st : Int32} {rf : Nat → Nat} {sh : SV} {pn : Nat} {pk : Nat → Nat} {ps : Nat → SV} {im : Nat → Option SV} (hB : bxC w X tl tb fa st rf sh pn pk ps im) {x y z : Int32} : EX11_by [.ref X, .int x, .int y, .int z] w (fun r w' => (¬ (isPl x ∧ isPl y ∧ isPl z) ∧ rfP (-2) 1 w X tl tb fa rf sh pn pk ps im r w') ∨ (∃ i j k, x = nI i ∧ i < 8 ∧ y = nI j ∧ j < 8 ∧ z = nI k ∧ k < 8 ∧ (∀ q, ¬ ((sh.1 j).1 ≤ (sh.1 i).1 ∧ divOk q (sh.1 j).2 (sh.1 i).2 (sh.1 j).1 ((sh.1 i).1 - (sh.1 j).1))) ∧ rfP (-4) 2 w X tl tb fa rf sh pn pk ps im r w') ∨ (∃ i j k q, x = nI i ∧ i < 8 ∧ y = nI j ∧ j < 8 ∧ z = nI k ∧ k < 8 ∧ (sh.1 j).1 ≤ (sh.1 i).1 ∧ divOk q (sh.1 j).2 (sh.1 i).2 (sh.1 j).1 ((sh.1 i).1 - (sh.1 j).1) ∧ putP (cutP q ((sh.1 i).1 - (sh.1 j).1 + 1)) 2 k w X tl tb fa rf sh pn pk ps im r w')) := by
  refine EP.of (plainFor_of_name (by decide)) [(0, .ref X), (1, .int x), (2, .int y), (3, .int z)] rfl (Nat.le_of_ble_eq_true rfl) (fun r wf h => by rcases h with ⟨-, h⟩ | ⟨i, j, k, -, -, -, -, -, -, -, h⟩ | ⟨i, j, k, q, -, -, -, -, -, -, -, -, h⟩; obtain ⟨x, rfl⟩ := rokR h; trivial; obtain ⟨x, rfl⟩ := rokR h; trivial; obtain ⟨x, rfl⟩ := rokP h; trivial) ?_
  show BX11_by w _ w 0 [(0, .ref X), (1, .int x), (2, .int y), (3, .int z)] []
  have hB0 := id hB
  obtain ⟨⟨s, hX, hs⟩, htp, hW, hpa, him, hrf⟩ := hB
  have hs0 := id hs
  obtain ⟨sp9, sf9, sh9, hs1, hs2, hs3, hs4, hs5, hs6⟩ := hs
  obtain ⟨htl, tpl, tf, ht1, ht2, ht3⟩ := id htp
  obtain ⟨row9, hrow9⟩ := hW.2.2.2.2.1
  obtain ⟨spa9, hspa9⟩ := hW.2.2.2.2.2
  refine g_iload_n (pc := 0) 1 dX11_by_0 rfl rfl ?_
  refine g_callS (pc := 1) [.int x] dX11_by_1 cs_X11_95.1 cs_X11_95.2 rfl rfl (Nat.le_of_ble_eq_true rfl) (by decide) (by decide) (sp_isPlace _ (x := x)) ?_
  rintro _ w9 (⟨rfl, hpi, e9⟩ | ⟨rfl, hpi, e9⟩)
  · refine GP.weq _ e9 ?_
    refine n_if_eq (pc := 4) 21 dX11_by_4 (by decide) (by omega) (fun hzi => ?_) (fun hzi => ?_)
    · exact absurd hzi (by decide)
    · obtain ⟨i, hie, hi⟩ : ∃ i : Nat, x = nI i ∧ i < 8 := ⟨x.toInt.toNat, nI_toNat (by omega), by omega⟩
      subst hie
      refine g_iload_n (pc := 7) 2 dX11_by_7 rfl rfl ?_
      refine g_callS (pc := 8) [.int y] dX11_by_8 cs_X11_95.1 cs_X11_95.2 rfl rfl (Nat.le_of_ble_eq_true rfl) (by decide) (by decide) (sp_isPlace _ (x := y)) ?_
      rintro _ w9 (⟨rfl, hpj, e9⟩ | ⟨rfl, hpj, e9⟩)
      · refine GP.weq _ e9 ?_
        refine n_if_eq (pc := 11) 21 dX11_by_11 (by decide) (by omega) (fun hzj => ?_) (fun hzj => ?_)
        · exact absurd hzj (by decide)
        · obtain ⟨j, hje, hj⟩ : ∃ j : Nat, y = nI j ∧ j < 8 := ⟨y.toInt.toNat, nI_toNat (by omega), by omega⟩
          subst hje
          refine g_iload_n (pc := 14) 3 dX11_by_14 rfl rfl ?_
          refine g_callS (pc := 15) [.int z] dX11_by_15 cs_X11_95.1 cs_X11_95.2 rfl rfl (Nat.le_of_ble_eq_true rfl) (by decide) (by decide) (sp_isPlace _ (x := z)) ?_
          rintro _ w9 (⟨rfl, hpk, e9⟩ | ⟨rfl, hpk, e9⟩)
          · refine GP.weq _ e9 ?_
            refine n_if_ne (pc := 18) 28 dX11_by_18 (by decide) (by omega) (fun hzk => ?_) (fun hzk => ?_)
            · obtain ⟨k, hke, hk⟩ : ∃ k : Nat, z = nI k ∧ k < 8 := ⟨z.toInt.toNat, nI_toNat (by omega), by omega⟩
              subst hke
              obtain ⟨v1, hv1, b1, c1, ho1, hb1, hvB1, hbB1, hc1, hk1⟩ := hs5 i hi
              obtain ⟨v2, hv2, b2, c2, ho2, hb2, hvB2, hbB2, hc2, hk2⟩ := hs5 j hj
              refine g_aload_n (pc := 28) 0 dX11_by_28 rfl rfl ?_
              refine g_get (pc := 29) dX11_by_29 fk_X11_69 hX rfl ?_
              refine g_iload_n (pc := 32) 1 dX11_by_32 rfl rfl ?_
              refine g_callV (pc := 33) [.int (nI i)] dX11_by_33 cv_X11_111.1 cv_X11_111.2.1 cv_X11_111.2.2.1 cv_X11_111.2.2.2 hs1 rfl rfl (Nat.le_of_ble_eq_true rfl) (by decide) (by decide) (sp_poly _ (i := i) hs1 hs2 hi hv1) ?_
              rintro _ w9 ⟨rfl, e9⟩
              refine GP.weq _ e9 ?_
              refine g_astore (pc := 36) [(4, .ref v1), (0, .ref X), (1, .int (nI i)), (2, .int (nI j)), (3, .int (nI k))] dX11_by_36 (by decide) rfl ?_
              refine g_aload (pc := 38) 0 dX11_by_38 rfl ?_
              refine g_aload_n (pc := 40) 1 dX11_by_40 rfl rfl ?_
              refine g_get (pc := 41) dX11_by_41 fk_X11_61 hX rfl ?_
              refine g_callV (pc := 44) [.ref (X + 137)] dX11_by_44 cv_X11_128.1 cv_X11_128.2.1 cv_X11_128.2.2.1 cv_X11_128.2.2.2 ho1 rfl rfl (Nat.le_of_ble_eq_true rfl) (by decide) (by decide) (sp_writeTo _ ho1 hb1 hspa9 (by omega) (by omega) (by decide) (by have := hk1.1; omega)) ?_
              rintro _ w1 ⟨rfl, e', he', e9⟩
              obtain ⟨hB1, hE1⟩ := hB0.spare e' hspa9
              rw [← e9] at hB1 hE1
              have hsp1 : w1[X + 137]? = some (aL 25 e') := by rw [e9]; exact lk_eq hspa9
              have U1 : ∀ i c, w[i]? = some c → i ≠ X + 137 → w1[i]? = some c := fun i c h1 h2 => by rw [e9]; exact lk_ne (Ne.symm h2) h1
              have hX1 := U1 _ _ hX (by omega)
              have hs11 := U1 _ _ hs1 (by omega)
              have hs21 := U1 _ _ hs2 (by omega)
              have ho11 := U1 _ _ ho1 (by omega)
              have ho21 := U1 _ _ ho2 (by omega)
              have hb21 := U1 _ _ hb2 (by omega)
              have hr1 := U1 _ _ hrow9 (by omega)
              have hg1 : ∀ j, j < 25 → toI e' j = (sh.1 i).2 j := fun j hj => by show (e' j).toInt = _; rw [he' j hj]; exact okP_ext hc1 hk1 j
              obtain ⟨k1a, k1b, k1c, k1d⟩ := id hk1
              obtain ⟨k2a, k2b, k2c, k2d⟩ := id hk2
              refine g_aload_n (pc := 47) 1 dX11_by_47 rfl rfl ?_
              refine g_get (pc := 48) dX11_by_48 fk_X11_69 hX1 rfl ?_
              refine g_iload_n (pc := 51) 3 dX11_by_51 rfl rfl ?_
              refine g_callV (pc := 52) [.int (nI j)] dX11_by_52 cv_X11_111.1 cv_X11_111.2.1 cv_X11_111.2.2.1 cv_X11_111.2.2.2 hs11 rfl rfl (Nat.le_of_ble_eq_true rfl) (by decide) (by decide) (sp_poly _ (i := j) hs11 hs21 hj hv2) ?_
              rintro _ w9 ⟨rfl, e9⟩
              refine GP.weq _ e9 ?_
              refine g_aload_n (pc := 55) 1 dX11_by_55 rfl rfl ?_
              refine g_get (pc := 56) dX11_by_56 fk_X11_61 hX1 rfl ?_
              refine g_aload (pc := 59) 0 dX11_by_59 rfl ?_
              refine g_get (pc := 61) dX11_by_61 fk_X11_132 ho11 rfl ?_
              have hl2 : c2 ((sh.1 j).1) ≠ 0 := fun e => by
                have h9 := hc2 _ (Nat.le_refl _)
                rw [e] at h9
                exact k2c (h9.symm.trans (by decide))
              by_cases hle : (sh.1 j).1 ≤ (sh.1 i).1
              · have hTd : (sh.1 i).1 - (sh.1 j).1 + (sh.1 j).1 = (sh.1 i).1 := by omega
                refine GP.ti (nI ((sh.1 i).1 - (sh.1 j).1 + (sh.1 j).1)) (by rw [hTd]) ?_
                refine g_aload_n (pc := 64) 1 dX11_by_64 rfl rfl ?_
                refine g_get (pc := 65) dX11_by_65 fk_X11_57 hX1 rfl ?_
                refine g_callV (pc := 68) [.ref (X + 137), .int (nI ((sh.1 i).1 - (sh.1 j).1 + (sh.1 j).1)), .ref (X + 136)] dX11_by_68 cv_X11_135.1 cv_X11_135.2.1 cv_X11_135.2.2.1 cv_X11_135.2.2.2 ho21 rfl rfl (Nat.le_of_ble_eq_true rfl) (by decide) (by decide) (sp_divides _ (T := (sh.1 i).1 - (sh.1 j).1) ho21 hb21 hsp1 hr1 (by omega) (by omega) (by omega) (by omega) (by omega) (by decide) (by decide) k2a (by omega) (by omega) (by omega) (fun t ht => by rw [hc2 t ht]; exact k2b t ht) hl2 (fun t ht => by have h9 := k1b t (by omega); have h8 : (e' t).toInt = (sh.1 i).2 t := hg1 t (by omega); rw [h8]; omega)) ?_
                rintro _ w9 (⟨rfl, cur, qc, hok, hq0, e8⟩ | ⟨rfl, hno, cur, qc, e8⟩)
                · skip
                  obtain ⟨hBa, hEa⟩ := hB1.row qc hr1
                  obtain ⟨hB2, hEb⟩ := hBa.spare cur (lk_ne (by omega) hsp1)
                  have hE2 := hEa.tr hEb
                  rw [← e8] at hB2 hE2
                  have hr2 : w9[X + 136]? = some (aL 25 qc) := by rw [e8]; exact lk_ne (by omega) (lk_eq hr1)
                  have hX2 : w9[X]? = some (oB X s fa st) := by rw [e8]; exact lk_ne (by omega) (lk_ne (by omega) hX1)
                  refine n_if_ne (pc := 71) 81 dX11_by_71 (by decide) (by omega) (fun hz => ?_) (fun hz => ?_)
                  · have hok2 : divOk (toI qc) (sh.1 j).2 (sh.1 i).2 (sh.1 j).1 ((sh.1 i).1 - (sh.1 j).1) := divOk_cong (fun t ht => hc2 t ht) (fun t ht => hg1 t (by omega)) hok
                    refine g_aload_n (pc := 81) 1 dX11_by_81 rfl rfl ?_
                    refine g_iconst (pc := 82) (v := nI 2) dX11_by_82 (by decide) ?_
                    refine g_iload_n (pc := 83) 4 dX11_by_83 rfl rfl ?_
                    refine g_callV (pc := 84) [.int (nI 2), .int (nI k)] dX11_by_84 cv_X11_107.1 cv_X11_107.2.1 cv_X11_107.2.2.1 cv_X11_107.2.2.2 hX2 rfl rfl (Nat.le_of_ble_eq_true rfl) (by decide) (by decide) (sp_putRow _ (kd := 2) (k := k) (F := cutP (toI qc) ((sh.1 i).1 - (sh.1 j).1 + 1)) hB2 hr2 (fun t ht => by unfold cutP; by_cases e7 : t < (sh.1 i).1 - (sh.1 j).1 + 1; · { rw [if_pos e7]; rfl }; · { rw [if_neg e7, hq0 t ht (by omega)]; decide }) hk) ?_
                    rintro _ w4 hP
                    obtain ⟨x9, rfl⟩ := rokP hP
                    exact g_iret (pc := 87) dX11_by_87 (Or.inr (Or.inr ⟨i, j, k, toI qc, rfl, hi, rfl, hj, rfl, hk, hle, hok2, hP.from ((hE1.tr hE2).le (by omega) (by omega))⟩))
                  · exact absurd hz (by decide)
                · skip
                  obtain ⟨hBa, hEa⟩ := hB1.row qc hr1
                  obtain ⟨hB2, hEb⟩ := hBa.spare cur (lk_ne (by omega) hsp1)
                  have hE2 := hEa.tr hEb
                  rw [← e8] at hB2 hE2
                  have hr2 : w9[X + 136]? = some (aL 25 qc) := by rw [e8]; exact lk_ne (by omega) (lk_eq hr1)
                  have hX2 : w9[X]? = some (oB X s fa st) := by rw [e8]; exact lk_ne (by omega) (lk_ne (by omega) hX1)
                  refine n_if_ne (pc := 71) 81 dX11_by_71 (by decide) (by omega) (fun hz => ?_) (fun hz => ?_)
                  · exact absurd rfl hz
                  · refine g_aload_n (pc := 74) 1 dX11_by_74 rfl rfl ?_
                    refine g_bipush (pc := 75) (v := -4) dX11_by_75 (by decide) ?_
                    refine g_callV (pc := 77) [.int (-4)] dX11_by_77 cv_X11_98.1 cv_X11_98.2.1 cv_X11_98.2.2.1 cv_X11_98.2.2.2 hX2 rfl rfl (Nat.le_of_ble_eq_true rfl) (by decide) (by decide) (sp_refuse4 _ hB2) ?_
                    rintro _ w6 ⟨rfl, hB6, hE6⟩
                    exact g_iret (pc := 80) dX11_by_80 (Or.inr (Or.inl ⟨i, j, k, rfl, hi, rfl, hj, rfl, hk, fun q hq => hno q (divOk_cong (fun t ht => (hc2 t ht).symm) (fun t ht => (hg1 t (by omega)).symm) hq.2), rfl, hB6, ((hE1.tr hE2).tr hE6).le (by omega) (by omega)⟩))
              · refine g_aload_n (pc := 64) 1 dX11_by_64 rfl rfl ?_
                refine g_get (pc := 65) dX11_by_65 fk_X11_57 hX1 rfl ?_
                refine g_callV (pc := 68) [.ref (X + 137), .int (nI ((sh.1 i).1)), .ref (X + 136)] dX11_by_68 cv_X11_135.1 cv_X11_135.2.1 cv_X11_135.2.2.1 cv_X11_135.2.2.2 ho21 rfl rfl (Nat.le_of_ble_eq_true rfl) (by decide) (by decide) (sp_dividesShort _ (t := (sh.1 i).1) ho21 hb21 hsp1 k2a hl2 (by omega)) ?_
                rintro _ w9 ⟨rfl, e9⟩
                refine GP.weq _ e9 ?_
                refine n_if_ne (pc := 71) 81 dX11_by_71 (by decide) (by omega) (fun hz => ?_) (fun hz => ?_)
                · exact absurd rfl hz
                · refine g_aload_n (pc := 74) 1 dX11_by_74 rfl rfl ?_
                  refine g_bipush (pc := 75) (v := -4) dX11_by_75 (by decide) ?_
                  refine g_callV (pc := 77) [.int (-4)] dX11_by_77 cv_X11_98.1 cv_X11_98.2.1 cv_X11_98.2.2.1 cv_X11_98.2.2.2 hX1 rfl rfl (Nat.le_of_ble_eq_true rfl) (by decide) (by decide) (sp_refuse4 _ hB1) ?_
                  rintro _ w6 ⟨rfl, hB6, hE6⟩
                  exact g_iret (pc := 80) dX11_by_80 (Or.inr (Or.inl ⟨i, j, k, rfl, hi, rfl, hj, rfl, hk, fun q hq => absurd hq.1 hle, rfl, hB6, ((hE1).tr hE6).le (by omega) (by omega)⟩))
            · exact absurd hzk (by decide)
          · refine GP.weq _ e9 ?_
            refine n_if_ne (pc := 18) 28 dX11_by_18 (by decide) (by omega) (fun hzk => ?_) (fun hzk => ?_)
            · exact absurd rfl hzk
            · refine g_aload_n (pc := 21) 0 dX11_by_21 rfl rfl ?_
              refine g_bipush (pc := 22) (v := -2) dX11_by_22 (by decide) ?_
              refine g_callV (pc := 24) [.int (-2)] dX11_by_24 cv_X11_98.1 cv_X11_98.2.1 cv_X11_98.2.2.1 cv_X11_98.2.2.2 hX rfl rfl (Nat.le_of_ble_eq_true rfl) (by decide) (by decide) (sp_refuse2 _ hB0) ?_
              rintro _ w5 ⟨rfl, hB5, hE5⟩
              exact g_iret (pc := 27) dX11_by_27 (Or.inl ⟨fun h9 => hpk h9.2.2, rfl, hB5, hE5.le (by omega) (by omega)⟩)
      · refine GP.weq _ e9 ?_
        refine n_if_eq (pc := 11) 21 dX11_by_11 (by decide) (by omega) (fun hzj => ?_) (fun hzj => ?_)
        · refine g_aload_n (pc := 21) 0 dX11_by_21 rfl rfl ?_
          refine g_bipush (pc := 22) (v := -2) dX11_by_22 (by decide) ?_
          refine g_callV (pc := 24) [.int (-2)] dX11_by_24 cv_X11_98.1 cv_X11_98.2.1 cv_X11_98.2.2.1 cv_X11_98.2.2.2 hX rfl rfl (Nat.le_of_ble_eq_true rfl) (by decide) (by decide) (sp_refuse2 _ hB0) ?_
          rintro _ w5 ⟨rfl, hB5, hE5⟩
          exact g_iret (pc := 27) dX11_by_27 (Or.inl ⟨fun h9 => hpj h9.2.1, rfl, hB5, hE5.le (by omega) (by omega)⟩)
        · exact absurd rfl hzj
  · refine GP.weq _ e9 ?_
    refine n_if_eq (pc := 4) 21 dX11_by_4 (by decide) (by omega) (fun hzi => ?_) (fun hzi => ?_)
    · refine g_aload_n (pc := 21) 0 dX11_by_21 rfl rfl ?_
      refine g_bipush (pc := 22) (v := -2) dX11_by_22 (by decide) ?_
      refine g_callV (pc := 24) [.int (-2)] dX11_by_24 cv_X11_98.1 cv_X11_98.2.1 cv_X11_98.2.2.1 cv_X11_98.2.2.2 hX rfl rfl (Nat.le_of_ble_eq_true rfl) (by decide) (by decide) (sp_refuse2 _ hB0) ?_
      rintro _ w5 ⟨rfl, hB5, hE5⟩
      exact g_iret (pc := 27) dX11_by_27 (Or.inl ⟨fun h9 => hpi h9.1, rfl, hB5, hE5.le (by omega) (by omega)⟩)
    · exact absurd rfl hzi
