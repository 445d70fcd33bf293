/-! MahlerBox: read, listing, turn -/
theorem cg_A {f g : Nat → Int32} {ln : Nat} (hU : ∀ i, i < ln → ub (f i) = ub (g i)) {p c : Nat} : (p < ln ∧ ub (f p) = c) = (p < ln ∧ ub (g p) = c) := propext (and_congr_right fun h => by rw [hU p h])
theorem cg_D {f g : Nat → Int32} {ln : Nat} (hU : ∀ i, i < ln → ub (f i) = ub (g i)) {p : Nat} : (p < ln ∧ 48 ≤ ub (f p) ∧ ub (f p) ≤ 57) = (p < ln ∧ 48 ≤ ub (g p) ∧ ub (g p) ≤ 57) := propext (and_congr_right fun h => by rw [hU p h])
theorem skp_cg {f g : Nat → Int32} {ln : Nat} (hU : ∀ i, i < ln → ub (f i) = ub (g i)) : ∀ k p, skp f ln k p = skp g ln k p
  | 0, _ => rfl
  | k + 1, p => by simp only [skp, cg_A hU, skp_cg hU k (p + 1)]
theorem skB_cg {f g : Nat → Int32} {ln : Nat} (hU : ∀ i, i < ln → ub (f i) = ub (g i)) {p : Nat} : skB f ln p = skB g ln p := skp_cg hU _ _
theorem tkn_cg {f g : Nat → Int32} {ln : Nat} (hU : ∀ i, i < ln → ub (f i) = ub (g i)) : ∀ k p v, tkn f ln k p v = tkn g ln k p v
  | 0, _, _ => rfl
  | k + 1, p, v => by
    simp only [tkn]
    by_cases h : p < ln
    · rw [hU p h]
      simp only [tkn_cg hU k]
    · rw [if_neg (fun h9 => h h9.1), if_neg (fun h9 => h h9.1)]
theorem tkN_cg {f g : Nat → Int32} {ln : Nat} (hU : ∀ i, i < ln → ub (f i) = ub (g i)) {p v : Nat} : tkN f ln p v = tkN g ln p v := tkn_cg hU _ _ _
theorem pTx_cg {f g : Nat → Int32} {ln : Nat} (hU : ∀ i, i < ln → ub (f i) = ub (g i)) {sz p : Nat} : pTx f ln sz p = pTx g ln sz p := by
  unfold pTx
  simp only [cg_A hU, cg_D hU, skB_cg hU, tkN_cg hU]
theorem pTn_cg {f g : Nat → Int32} {ln : Nat} (hU : ∀ i, i < ln → ub (f i) = ub (g i)) {a b sz p : Nat} : pTn f ln a b sz p = pTn g ln a b sz p := by
  unfold pTn
  simp only [cg_A hU, skB_cg hU, pTx_cg hU]
theorem pTerm_cg {f g : Nat → Int32} {ln : Nat} (hU : ∀ i, i < ln → ub (f i) = ub (g i)) {p : Nat} : pTerm f ln p = pTerm g ln p := by
  unfold pTerm
  simp only [cg_D hU, skB_cg hU, tkN_cg hU, pTn_cg hU]
theorem pLoop_cg {f g : Nat → Int32} {ln : Nat} (hU : ∀ i, i < ln → ub (f i) = ub (g i)) : ∀ k p mi G, pLoop f ln k p mi G = pLoop g ln k p mi G
  | 0, _, _, _ => rfl
  | k + 1, p, mi, G => by
    simp only [pLoop, pTerm_cg hU, cg_A hU, pLoop_cg hU k]
theorem pAll_cg {f g : Nat → Int32} {ln : Nat} (hU : ∀ i, i < ln → ub (f i) = ub (g i)) : pAll f ln = pAll g ln := by
  unfold pAll
  simp only [skB_cg hU, cg_A hU, pLoop_cg hU]
theorem wD_eq {s t : (Nat → Int32) × Nat} (h : tEq s t) (x u : Nat) : tEq (wD s x u) (wD t x u) := by
  unfold wD
  split
  · exact wB_eq h _
  · exact h
theorem wN_eq {s t : (Nat → Int32) × Nat} (h : tEq s t) (x : Nat) : tEq (wN s x) (wN t x) := wD_eq (wD_eq (wD_eq (wD_eq h _ _) _ _) _ _) _ _
theorem wT_eq {s t : (Nat → Int32) × Nat} (h : tEq s t) (v : Int) (p : Nat) : tEq (wT s v p) (wT t v p) := by
  have h0 : tEq (wT0 s v) (wT0 t v) := by
    unfold wT0
    rw [h.1]
    split
    · exact wB_eq h _
    · split
      · exact wB_eq h _
      · exact h
  have h1 : tEq (wT1 (wT0 s v) v.natAbs p) (wT1 (wT0 t v) v.natAbs p) := by
    unfold wT1
    split
    · exact wN_eq h0 _
    · exact h0
  have h2 : tEq (wT2 (wT1 (wT0 s v) v.natAbs p) p) (wT2 (wT1 (wT0 t v) v.natAbs p) p) := by
    unfold wT2
    split
    · exact wB_eq h1 _
    · exact h1
  unfold wT wT3
  split
  · exact wN_eq (wB_eq h2 _) _
  · exact h2
theorem wAll_eq {F F' : Nat → Int} {s t : (Nat → Int32) × Nat} {n : Nat} (h : tEq s t) (hF : ∀ j, j ≤ n → F j = F' j) : ∀ m, tEq (wAll F s n m) (wAll F' t n m)
  | 0 => h
  | m + 1 => by
    have ih := wAll_eq h hF m
    unfold wAll
    rw [hF (n - m) (by omega)]
    split
    · exact ih
    · exact wT_eq ih _ _
theorem trp_cg {h n : Nat} {F F' : Nat → Int} (hF : ∀ t, t ≤ n → F t = F' t) (j : Nat) : trp h F n (n + 1) j = trp h F' n (n + 1) j := by
  unfold trp
  split
  · by_cases c : j ≤ n ∧ n - j < n + 1
    · rw [if_pos c, if_pos c, hF _ (by omega)]
    · rw [if_neg c, if_neg c]
  · by_cases c : j < n + 1
    · rw [if_pos c, if_pos c, hF _ (by omega)]
    · rw [if_neg c, if_neg c]
  · by_cases c : j % 2 = 0 ∧ j / 2 < n + 1
    · rw [if_pos c, if_pos c, hF _ (by omega)]
    · rw [if_neg c, if_neg c]
  · by_cases c : j < n + 1
    · rw [if_pos c, if_pos c, hF _ (by omega)]
    · rw [if_neg c, if_neg c]
  · by_cases c : j + 1 < n + 1
    · rw [if_pos c, if_pos c, hF _ (by omega)]
    · rw [if_neg c, if_neg c]
theorem wAll_400 {F : Nat → Int} {s : (Nat → Int32) × Nat} {n : Nat} (hs : s.2 = 0) (hn : n ≤ 12) : (wAll F s n (n + 1)).2 ≤ 400 := by
  have := wAll_le (F := F) (s := s) (n := n) (n + 1)
  omega
abbrev BX11_listing (w0 : Wd) (Post : Option Value → Wd → Prop) (w : Wd) (pc : Nat) (ls : List (Nat × Value)) (st : List Value) : Prop := GP "listing" RX11 cX11_listing 2 (some .int) 4 156 none w0 Post w pc ls st
abbrev EX11_listing (As : List Value) (w : Wd) (Post : Option Value → Wd → Prop) : Prop := EP yX11_listing cX11_listing 2 (some .int) 4 As w Post
theorem sp_listing (w : Wd) {X tl : Nat} {tb : Nat → Int32} {fa st : Int32} {rf : Nat → Nat} {sh : SV} {pn : Nat} {pk : Nat → Nat} {ps : Nat → SV} {im : Nat → Option SV} (hB : bxC w X tl tb fa st rf sh pn pk ps im) {x : Int32} : EX11_listing [.ref X, .int x] w (fun r w' => (¬ isPl x ∧ rfP (-2) 1 w X tl tb fa rf sh pn pk ps im r w') ∨ (∃ i, x = nI i ∧ i < 8 ∧ r = some (.int (nI (wAll (sh.1 i).2 (tb, 0) (sh.1 i).1 ((sh.1 i).1 + 1)).2)) ∧ bxC w' X (wAll (sh.1 i).2 (tb, 0) (sh.1 i).1 ((sh.1 i).1 + 1)).2 (wAll (sh.1 i).2 (tb, 0) (sh.1 i).1 ((sh.1 i).1 + 1)).1 fa (nI 0) rf sh pn pk ps im ∧ EX (boxS X) 4 25 w w')) := by
  refine EP.of (plainFor_of_name (by decide)) [(0, .ref X), (1, .int x)] rfl (Nat.le_of_ble_eq_true rfl) (fun r wf h => by rcases h with ⟨-, h⟩ | ⟨i, -, -, rfl, -⟩; obtain ⟨x, rfl⟩ := rokR h; trivial; trivial) ?_
  show BX11_listing w _ w 0 [(0, .ref X), (1, .int x)] []
  have hB0 := id hB
  obtain ⟨⟨s, hX, hs⟩, htp, hW, hpa, him, hrf⟩ := hB
  have hs0 := id hs
  obtain ⟨sp9, sf9, sh9, hs1, hs2, hs3, hs4, hs5, hs6⟩ := hs
  obtain ⟨htl, tpl, tf, ht1, ht2, ht3⟩ := id htp
  obtain ⟨row9, hrow9⟩ := hW.2.2.2.2.1
  obtain ⟨spa9, hspa9⟩ := hW.2.2.2.2.2
  refine g_iload_n (pc := 0) 1 dX11_listing_0 rfl rfl ?_
  refine g_callS (pc := 1) [.int x] dX11_listing_1 cs_X11_95.1 cs_X11_95.2 rfl rfl (Nat.le_of_ble_eq_true rfl) (by decide) (by decide) (sp_isPlace _ (x := x)) ?_
  rintro _ w9 (⟨rfl, hpi, e9⟩ | ⟨rfl, hpi, e9⟩)
  · refine GP.weq _ e9 ?_
    refine n_if_ne (pc := 4) 14 dX11_listing_4 (by decide) (by omega) (fun hzi => ?_) (fun hzi => ?_)
    · obtain ⟨i, hie, hi⟩ : ∃ i : Nat, x = nI i ∧ i < 8 := ⟨x.toInt.toNat, nI_toNat (by omega), by omega⟩
      subst hie
      obtain ⟨v1, hv1, b1, c1, ho1, hb1, hvB1, hbB1, hc1, hk1⟩ := hs5 i hi
      refine g_aload_n (pc := 14) 0 dX11_listing_14 rfl rfl ?_
      refine g_get (pc := 15) dX11_listing_15 fk_X11_69 hX rfl ?_
      refine g_iload_n (pc := 18) 1 dX11_listing_18 rfl rfl ?_
      refine g_callV (pc := 19) [.int (nI i)] dX11_listing_19 cv_X11_111.1 cv_X11_111.2.1 cv_X11_111.2.2.1 cv_X11_111.2.2.2 hs1 rfl rfl (Nat.le_of_ble_eq_true rfl) (by decide) (by decide) (sp_poly _ (i := i) hs1 hs2 hi hv1) ?_
      rintro _ w9 ⟨rfl, e9⟩
      refine GP.weq _ e9 ?_
      refine g_aload_n (pc := 22) 0 dX11_listing_22 rfl rfl ?_
      refine g_get (pc := 23) dX11_listing_23 fk_X11_12 hX rfl ?_
      refine g_callS (pc := 26) [.ref v1, .ref (X + 1)] dX11_listing_26 cs_X11_115.1 cs_X11_115.2 rfl rfl (Nat.le_of_ble_eq_true rfl) (by decide) (by decide) (sp_write _ ht1 ht2 ho1 hb1 (by omega) (by omega) (by omega) (by omega) (by omega) hk1.1 (fun t ht => by rw [hc1 t ht]; exact hk1.2.1 t ht)) ?_
      rintro _ w1 ⟨rfl, e9⟩
      have htE := wAll_eq (F := toJ c1) (F' := (sh.1 i).2) (s := (tf, 0)) (t := (tb, 0)) (n := (sh.1 i).1) ⟨rfl, fun i hi => absurd hi (by omega)⟩ (fun j hj => hc1 j hj) ((sh.1 i).1 + 1)
      have h400 := wAll_400 (F := (sh.1 i).2) (s := (tb, 0)) rfl hk1.1
      obtain ⟨S1, hS1⟩ : ∃ z, wAll (toJ c1) (tf, 0) (sh.1 i).1 ((sh.1 i).1 + 1) = z := ⟨_, rfl⟩
      obtain ⟨S2, hS2⟩ : ∃ z, (wAll (sh.1 i).2 (tb, 0) (sh.1 i).1 ((sh.1 i).1 + 1)) = z := ⟨_, rfl⟩
      rw [hS1] at e9
      rw [hS1, hS2] at htE
      rw [hS2] at h400
      have hEF : FR (fun i => i = X + 1 ∨ i = X + 2) w w1 := by rw [e9]; exact FR.tr (FR.set (c' := aI 2 400 S1.1) ht2 rfl (Or.inr rfl)) (FR.set (c' := oT (X + 2) S1.2 tpl) (lk_ne (by omega) ht1) rfl (Or.inl rfl))
      have hE1 : EX (fun i => i = X + 1 ∨ i = X + 2) 0 0 w w1 := EX.of hEF (fun _ h => h)
      have hS : ∀ i, (i = X + 1 ∨ i = X + 2) → i < X + 139 := fun i hi => by omega
      have q1 : w1[X + 1]? = some (oT (X + 2) S2.2 tpl) := by rw [e9, ← htE.1]; exact lk_eq (lk_ne (by omega) ht1)
      have q2 : w1[X + 2]? = some (aI 2 400 S1.1) := by rw [e9]; exact lk_ne (by omega) (lk_eq ht2)
      have hX1 := hE1.lk (show ¬ (X = X + 1 ∨ X = X + 2) by omega) hX
      have hB1 : bxC w1 X S2.2 S2.1 fa st rf sh pn pk ps im := ⟨⟨s, hX1, hs0.ex hE1 hS⟩, ⟨h400, tpl, S1.1, q1, q2, fun i hi => htE.2 i (by rw [htE.1]; exact hi)⟩, hW.ex hE1 (fun i h => by omega), hpa.ex hE1 (fun i _ _ => by omega) hS, him.ex hE1 (by omega) hS, hrf.ex hE1 (by omega)⟩
      refine g_aload_n (pc := 29) 0 dX11_listing_29 rfl rfl ?_
      refine g_aload_n (pc := 30) 0 dX11_listing_30 rfl rfl ?_
      refine g_get (pc := 31) dX11_listing_31 fk_X11_12 hX1 rfl ?_
      refine g_get (pc := 34) dX11_listing_34 fk_X11_88 q1 rfl ?_
      refine g_callV (pc := 37) [.int (nI S2.2)] dX11_listing_37 cv_X11_119.1 cv_X11_119.2.1 cv_X11_119.2.2.1 cv_X11_119.2.2.2 hX1 rfl rfl (Nat.le_of_ble_eq_true rfl) (by decide) (by decide) (sp_accept _ (x := nI S2.2) hB1) ?_
      rintro _ w5 ⟨rfl, hB5, hE5⟩
      exact g_iret (pc := 40) dX11_listing_40 (Or.inr ⟨i, rfl, hi, by rw [hS2], by rw [hS2]; exact hB5, ((hE1.mono (fun i hi => by unfold boxS; omega)).tr hE5).le (by omega) (by omega)⟩)
    · exact absurd hzi (by decide)
  · refine GP.weq _ e9 ?_
    refine n_if_ne (pc := 4) 14 dX11_listing_4 (by decide) (by omega) (fun hzi => ?_) (fun hzi => ?_)
    · exact absurd rfl hzi
    · refine g_aload_n (pc := 7) 0 dX11_listing_7 rfl rfl ?_
      refine g_bipush (pc := 8) (v := -2) dX11_listing_8 (by decide) ?_
      refine g_callV (pc := 10) [.int (-2)] dX11_listing_10 cv_X11_98.1 cv_X11_98.2.1 cv_X11_98.2.2.1 cv_X11_98.2.2.2 hX rfl rfl (Nat.le_of_ble_eq_true rfl) (by decide) (by decide) (sp_refuse2 _ hB0) ?_
      rintro _ w5 ⟨rfl, hB5, hE5⟩
      exact g_iret (pc := 13) dX11_listing_13 (Or.inl ⟨hpi, rfl, hB5, hE5.le (by omega) (by omega)⟩)
abbrev BX11_read (w0 : Wd) (Post : Option Value → Wd → Prop) (w : Wd) (pc : Nat) (ls : List (Nat × Value)) (st : List Value) : Prop := GP "read" RX11 cX11_read 2 (some .int) 5 195 none w0 Post w pc ls st
abbrev EX11_read (As : List Value) (w : Wd) (Post : Option Value → Wd → Prop) : Prop := EP yX11_read cX11_read 2 (some .int) 5 As w Post
theorem sp_read (w : Wd) {X tl : Nat} {tb : Nat → Int32} {fa st : Int32} {rf : Nat → Nat} {sh : SV} {pn : Nat} {pk : Nat → Nat} {ps : Nat → SV} {im : Nat → Option SV} (hB : bxC w X tl tb fa st rf sh pn pk ps im) {x : Int32} : EX11_read [.ref X, .int x] w (fun r w' => (¬ isPl x ∧ rfP (-2) 1 w X tl tb fa rf sh pn pk ps im r w') ∨ (∃ i er, x = nI i ∧ i < 8 ∧ pAll tb tl = .inl er ∧ rfP (-6) 4 w X 0 tb (nI er) rf sh pn pk ps im r w') ∨ (∃ i Ge c, x = nI i ∧ i < 8 ∧ pAll tb tl = .inr Ge ∧ topI Ge 25 c ∧ fitI Ge c ∧ putP Ge 0 i w X 0 tb (-1) rf sh pn pk ps im r w') ∨ (∃ i Ge c, x = nI i ∧ i < 8 ∧ pAll tb tl = .inr Ge ∧ topI Ge 25 c ∧ ¬ fitI Ge c ∧ rfP (-6) 4 w X 0 tb (-2) rf sh pn pk ps im r w')) := by
  refine EP.of (plainFor_of_name (by decide)) [(0, .ref X), (1, .int x)] rfl (Nat.le_of_ble_eq_true rfl) (fun r wf h => by rcases h with ⟨-, h⟩ | ⟨i, er, -, -, -, h⟩ | ⟨i, Ge, c, -, -, -, -, -, h⟩ | ⟨i, Ge, c, -, -, -, -, -, h⟩; obtain ⟨x, rfl⟩ := rokR h; trivial; obtain ⟨x, rfl⟩ := rokR h; trivial; obtain ⟨x, rfl⟩ := rokP h; trivial; obtain ⟨x, rfl⟩ := rokR h; trivial) ?_
  show BX11_read w _ w 0 [(0, .ref X), (1, .int x)] []
  have hB0 := id hB
  obtain ⟨⟨s, hX, hs⟩, htp, hW, hpa, him, hrf⟩ := hB
  have hs0 := id hs
  obtain ⟨sp9, sf9, sh9, hs1, hs2, hs3, hs4, hs5, hs6⟩ := hs
  obtain ⟨htl, tpl, tf, ht1, ht2, ht3⟩ := id htp
  obtain ⟨row9, hrow9⟩ := hW.2.2.2.2.1
  obtain ⟨spa9, hspa9⟩ := hW.2.2.2.2.2
  refine g_iload_n (pc := 0) 1 dX11_read_0 rfl rfl ?_
  refine g_callS (pc := 1) [.int x] dX11_read_1 cs_X11_95.1 cs_X11_95.2 rfl rfl (Nat.le_of_ble_eq_true rfl) (by decide) (by decide) (sp_isPlace _ (x := x)) ?_
  rintro _ w9 (⟨rfl, hpi, e9⟩ | ⟨rfl, hpi, e9⟩)
  · refine GP.weq _ e9 ?_
    refine n_if_ne (pc := 4) 14 dX11_read_4 (by decide) (by omega) (fun hzi => ?_) (fun hzi => ?_)
    · obtain ⟨i, hie, hi⟩ : ∃ i : Nat, x = nI i ∧ i < 8 := ⟨x.toInt.toNat, nI_toNat (by omega), by omega⟩
      subst hie
      refine g_aload_n (pc := 14) 0 dX11_read_14 rfl rfl ?_
      refine g_aload_n (pc := 15) 0 dX11_read_15 rfl rfl ?_
      refine g_get (pc := 16) dX11_read_16 fk_X11_12 hX rfl ?_
      refine g_aload_n (pc := 19) 0 dX11_read_19 rfl rfl ?_
      refine g_get (pc := 20) dX11_read_20 fk_X11_57 hX rfl ?_
      refine g_callS (pc := 23) [.ref (X + 1), .ref (X + 136)] dX11_read_23 cs_X11_101.1 cs_X11_101.2 rfl rfl (Nat.le_of_ble_eq_true rfl) (by decide) (by decide) (sp_parse _ ht1 ht2 hrow9 (by omega) (by omega) (by omega) htl) ?_
      rintro _ w9 (⟨er, hp1, hp2, rfl, pl', g', e9⟩ | ⟨Ge, c, pl', g', hp1, hp2, hp3, e9, hp4⟩)
      · skip
        obtain ⟨w1, hw1⟩ : ∃ w1 : Wd, w1 = w9 := ⟨_, rfl⟩
        rw [← hw1] at e9
        refine GP.weq w1 hw1.symm ?_
        have hE1 : EX (fun i => i = X + 1 ∨ i = X + 136) 0 0 w w1 := by rw [e9]; exact EX.of (FR.tr (FR.set (c' := oT (X + 2) tl pl') ht1 rfl (Or.inl rfl)) (FR.set (c' := aL 25 g') (lk_ne (by omega) hrow9) rfl (Or.inr rfl))) (fun _ h => h)
        have q1 : w1[X + 1]? = some (oT (X + 2) tl pl') := by rw [e9]; exact lk_ne (by omega) (lk_eq ht1)
        have q2 : w1[X + 2]? = some (aI 2 400 tf) := by rw [e9]; exact lk_ne (by omega) (lk_ne (by omega) ht2)
        have q3 : w1[X + 136]? = some (aL 25 g') := by rw [e9]; exact lk_eq (lk_ne (by omega) hrow9)
        have q7 : w1[X + 137]? = some (aL 25 spa9) := hE1.lk (by omega) hspa9
        have hX1 := hE1.lk (show ¬ (X = X + 1 ∨ X = X + 136) by omega) hX
        refine g_put (pc := 26) [.ref (X + 1), .ref (X + 3), .ref (X + 12), .ref (X + 52), .ref (X + 112), .ref (X + 132), .ref (X + 135), .ref (X + 136), .ref (X + 137), .ref (X + 138), .ref s, .int (nI er), .int st] dX11_read_26 fk_X11_73 hX1 (Nat.le_of_ble_eq_true rfl) rfl rfl ?_
        refine g_aload_n (pc := 29) 0 dX11_read_29 rfl rfl ?_
        refine g_get (pc := 30) dX11_read_30 fk_X11_12 (lk_eq hX1) rfl ?_
        refine g_iconst (pc := 33) (v := nI 0) dX11_read_33 (by decide) ?_
        refine g_put (pc := 34) [.ref (X + 2), .int (nI 0), .int (nI pl')] dX11_read_34 fk_X11_88 (lk_ne (by omega) q1) (Nat.le_of_ble_eq_true rfl) rfl rfl ?_
        obtain ⟨w2, hw2⟩ : ∃ w2 : Wd, w2 = ((w1.set X (.inr (10, [.ref (X + 1), .ref (X + 3), .ref (X + 12), .ref (X + 52), .ref (X + 112), .ref (X + 132), .ref (X + 135), .ref (X + 136), .ref (X + 137), .ref (X + 138), .ref s, .int (nI er), .int st]))).set (X + 1) (.inr (8, [.ref (X + 2), .int (nI 0), .int (nI pl')]))) := ⟨_, rfl⟩
        refine GP.weq w2 hw2.symm ?_
        have hE2 : EX (fun i => i = X ∨ i = X + 1) 0 0 w1 w2 := by rw [hw2]; exact EX.of ((FR.st (c' := .inr (8, [.ref (X + 2), .int (nI 0), .int (nI pl')])) (FR.st (c' := .inr (10, [.ref (X + 1), .ref (X + 3), .ref (X + 12), .ref (X + 52), .ref (X + 112), .ref (X + 132), .ref (X + 135), .ref (X + 136), .ref (X + 137), .ref (X + 138), .ref s, .int (nI er), .int st])) FR.rf hX1 rfl (by omega)) (lk_ne (by omega) q1) rfl (by omega))) (fun _ h => h)
        have hX2 : w2[X]? = some (oB X s (nI er) st) := by rw [hw2]; exact (lk_ne (by omega) (lk_eq hX1))
        have t2 : w2[X + 1]? = some (oT (X + 2) 0 pl') := by rw [hw2]; exact (lk_eq (lk_ne (by omega) q1))
        have hE3 : EX (fun i => i = X ∨ i = X + 1 ∨ i = X + 136) 0 0 w w2 := (hE1.mono (fun i hi => by omega)).tr (hE2.mono (fun i hi => by omega))
        have hS : ∀ i, (i = X ∨ i = X + 1 ∨ i = X + 136) → i < X + 139 := fun i hi => by omega
        have hr2 := hE2.lk (show ¬ (X + 136 = X ∨ X + 136 = X + 1) by omega) q3
        have hB2 : bxC w2 X 0 tb (nI er) st rf sh pn pk ps im := ⟨⟨s, hX2, hs0.ex hE3 hS⟩, ⟨by omega, pl', tf, t2, hE2.lk (by omega) q2, fun i hi => absurd hi (by omega)⟩, hW.with hE3 (fun i h => by omega) ⟨g', hr2⟩ ⟨spa9, hE2.lk (by omega) q7⟩, hpa.ex hE3 (fun i _ _ => by omega) hS, him.ex hE3 (by omega) hS, hrf.ex hE3 (by omega)⟩
        have hEX := hE3.mono (S' := boxS X) (fun i hi => by unfold boxS; omega)
        refine g_aload_n (pc := 37) 0 dX11_read_37 rfl rfl ?_
        refine g_get (pc := 38) dX11_read_38 fk_X11_73 hX2 rfl ?_
        refine g_iconst (pc := 41) (v := -1) dX11_read_41 (by decide) ?_
        refine g_icmp_ne (pc := 42) 54 dX11_read_42 (by decide) (fun hc => ?_) (fun hc => ?_)
        · refine g_aload_n (pc := 54) 0 dX11_read_54 rfl rfl ?_
          refine g_bipush (pc := 55) (v := -6) dX11_read_55 (by decide) ?_
          refine g_callV (pc := 57) [.int (-6)] dX11_read_57 cv_X11_98.1 cv_X11_98.2.1 cv_X11_98.2.2.1 cv_X11_98.2.2.2 hX2 rfl rfl (Nat.le_of_ble_eq_true rfl) (by decide) (by decide) (sp_refuse6 _ hB2) ?_
          rintro _ w6 ⟨rfl, hB6, hE6⟩
          exact g_iret (pc := 60) dX11_read_60 (Or.inr (Or.inl ⟨i, er, rfl, hi, by rw [← pAll_cg ht3]; exact hp1, rfl, hB6, (hEX.tr hE6).le (by omega) (by omega)⟩))
        · exact absurd (Decidable.not_not.mp hc) (nI_nneg (by omega) (by decide))
      · rcases hp4 with ⟨hfit, rfl⟩ | ⟨hfit, rfl⟩
        · obtain ⟨w1, hw1⟩ : ∃ w1 : Wd, w1 = w9 := ⟨_, rfl⟩
          rw [← hw1] at e9
          refine GP.weq w1 hw1.symm ?_
          have hE1 : EX (fun i => i = X + 1 ∨ i = X + 136) 0 0 w w1 := by rw [e9]; exact EX.of (FR.tr (FR.set (c' := oT (X + 2) tl pl') ht1 rfl (Or.inl rfl)) (FR.set (c' := aL 25 g') (lk_ne (by omega) hrow9) rfl (Or.inr rfl))) (fun _ h => h)
          have q1 : w1[X + 1]? = some (oT (X + 2) tl pl') := by rw [e9]; exact lk_ne (by omega) (lk_eq ht1)
          have q2 : w1[X + 2]? = some (aI 2 400 tf) := by rw [e9]; exact lk_ne (by omega) (lk_ne (by omega) ht2)
          have q3 : w1[X + 136]? = some (aL 25 g') := by rw [e9]; exact lk_eq (lk_ne (by omega) hrow9)
          have q7 : w1[X + 137]? = some (aL 25 spa9) := hE1.lk (by omega) hspa9
          have hX1 := hE1.lk (show ¬ (X = X + 1 ∨ X = X + 136) by omega) hX
          refine g_put (pc := 26) [.ref (X + 1), .ref (X + 3), .ref (X + 12), .ref (X + 52), .ref (X + 112), .ref (X + 132), .ref (X + 135), .ref (X + 136), .ref (X + 137), .ref (X + 138), .ref s, .int (-1), .int st] dX11_read_26 fk_X11_73 hX1 (Nat.le_of_ble_eq_true rfl) rfl rfl ?_
          refine g_aload_n (pc := 29) 0 dX11_read_29 rfl rfl ?_
          refine g_get (pc := 30) dX11_read_30 fk_X11_12 (lk_eq hX1) rfl ?_
          refine g_iconst (pc := 33) (v := nI 0) dX11_read_33 (by decide) ?_
          refine g_put (pc := 34) [.ref (X + 2), .int (nI 0), .int (nI pl')] dX11_read_34 fk_X11_88 (lk_ne (by omega) q1) (Nat.le_of_ble_eq_true rfl) rfl rfl ?_
          obtain ⟨w2, hw2⟩ : ∃ w2 : Wd, w2 = ((w1.set X (.inr (10, [.ref (X + 1), .ref (X + 3), .ref (X + 12), .ref (X + 52), .ref (X + 112), .ref (X + 132), .ref (X + 135), .ref (X + 136), .ref (X + 137), .ref (X + 138), .ref s, .int (-1), .int st]))).set (X + 1) (.inr (8, [.ref (X + 2), .int (nI 0), .int (nI pl')]))) := ⟨_, rfl⟩
          refine GP.weq w2 hw2.symm ?_
          have hE2 : EX (fun i => i = X ∨ i = X + 1) 0 0 w1 w2 := by rw [hw2]; exact EX.of ((FR.st (c' := .inr (8, [.ref (X + 2), .int (nI 0), .int (nI pl')])) (FR.st (c' := .inr (10, [.ref (X + 1), .ref (X + 3), .ref (X + 12), .ref (X + 52), .ref (X + 112), .ref (X + 132), .ref (X + 135), .ref (X + 136), .ref (X + 137), .ref (X + 138), .ref s, .int (-1), .int st])) FR.rf hX1 rfl (by omega)) (lk_ne (by omega) q1) rfl (by omega))) (fun _ h => h)
          have hX2 : w2[X]? = some (oB X s (-1) st) := by rw [hw2]; exact (lk_ne (by omega) (lk_eq hX1))
          have t2 : w2[X + 1]? = some (oT (X + 2) 0 pl') := by rw [hw2]; exact (lk_eq (lk_ne (by omega) q1))
          have hE3 : EX (fun i => i = X ∨ i = X + 1 ∨ i = X + 136) 0 0 w w2 := (hE1.mono (fun i hi => by omega)).tr (hE2.mono (fun i hi => by omega))
          have hS : ∀ i, (i = X ∨ i = X + 1 ∨ i = X + 136) → i < X + 139 := fun i hi => by omega
          have hr2 := hE2.lk (show ¬ (X + 136 = X ∨ X + 136 = X + 1) by omega) q3
          have hB2 : bxC w2 X 0 tb (-1) st rf sh pn pk ps im := ⟨⟨s, hX2, hs0.ex hE3 hS⟩, ⟨by omega, pl', tf, t2, hE2.lk (by omega) q2, fun i hi => absurd hi (by omega)⟩, hW.with hE3 (fun i h => by omega) ⟨g', hr2⟩ ⟨spa9, hE2.lk (by omega) q7⟩, hpa.ex hE3 (fun i _ _ => by omega) hS, him.ex hE3 (by omega) hS, hrf.ex hE3 (by omega)⟩
          have hEX := hE3.mono (S' := boxS X) (fun i hi => by unfold boxS; omega)
          refine g_aload_n (pc := 37) 0 dX11_read_37 rfl rfl ?_
          refine g_get (pc := 38) dX11_read_38 fk_X11_73 hX2 rfl ?_
          refine g_iconst (pc := 41) (v := -1) dX11_read_41 (by decide) ?_
          refine g_icmp_ne (pc := 42) 54 dX11_read_42 (by decide) (fun hc => ?_) (fun hc => ?_)
          · exact absurd rfl hc
          · refine g_aload_n (pc := 45) 0 dX11_read_45 rfl rfl ?_
            refine g_iconst (pc := 46) (v := nI 0) dX11_read_46 (by decide) ?_
            refine g_iload_n (pc := 47) 1 dX11_read_47 rfl rfl ?_
            refine g_callV (pc := 48) [.int (nI 0), .int (nI i)] dX11_read_48 cv_X11_107.1 cv_X11_107.2.1 cv_X11_107.2.2.1 cv_X11_107.2.2.2 hX2 rfl rfl (Nat.le_of_ble_eq_true rfl) (by decide) (by decide) (sp_putRow _ (kd := 0) (k := i) (F := Ge) hB2 hr2 hp3 hi) ?_
            rintro _ w4 hP
            obtain ⟨x9, rfl⟩ := rokP hP
            refine g_goto (pc := 51) 60 dX11_read_51 (by decide) ?_
            exact g_iret (pc := 60) dX11_read_60 (Or.inr (Or.inr (Or.inl ⟨i, Ge, c, rfl, hi, by rw [← pAll_cg ht3]; exact hp1, hp2, (fitS_I hp3).mp hfit, hP.from hEX⟩)))
        · obtain ⟨w1, hw1⟩ : ∃ w1 : Wd, w1 = w9 := ⟨_, rfl⟩
          rw [← hw1] at e9
          refine GP.weq w1 hw1.symm ?_
          have hE1 : EX (fun i => i = X + 1 ∨ i = X + 136) 0 0 w w1 := by rw [e9]; exact EX.of (FR.tr (FR.set (c' := oT (X + 2) tl pl') ht1 rfl (Or.inl rfl)) (FR.set (c' := aL 25 g') (lk_ne (by omega) hrow9) rfl (Or.inr rfl))) (fun _ h => h)
          have q1 : w1[X + 1]? = some (oT (X + 2) tl pl') := by rw [e9]; exact lk_ne (by omega) (lk_eq ht1)
          have q2 : w1[X + 2]? = some (aI 2 400 tf) := by rw [e9]; exact lk_ne (by omega) (lk_ne (by omega) ht2)
          have q3 : w1[X + 136]? = some (aL 25 g') := by rw [e9]; exact lk_eq (lk_ne (by omega) hrow9)
          have q7 : w1[X + 137]? = some (aL 25 spa9) := hE1.lk (by omega) hspa9
          have hX1 := hE1.lk (show ¬ (X = X + 1 ∨ X = X + 136) by omega) hX
          refine g_put (pc := 26) [.ref (X + 1), .ref (X + 3), .ref (X + 12), .ref (X + 52), .ref (X + 112), .ref (X + 132), .ref (X + 135), .ref (X + 136), .ref (X + 137), .ref (X + 138), .ref s, .int (-2), .int st] dX11_read_26 fk_X11_73 hX1 (Nat.le_of_ble_eq_true rfl) rfl rfl ?_
          refine g_aload_n (pc := 29) 0 dX11_read_29 rfl rfl ?_
          refine g_get (pc := 30) dX11_read_30 fk_X11_12 (lk_eq hX1) rfl ?_
          refine g_iconst (pc := 33) (v := nI 0) dX11_read_33 (by decide) ?_
          refine g_put (pc := 34) [.ref (X + 2), .int (nI 0), .int (nI pl')] dX11_read_34 fk_X11_88 (lk_ne (by omega) q1) (Nat.le_of_ble_eq_true rfl) rfl rfl ?_
          obtain ⟨w2, hw2⟩ : ∃ w2 : Wd, w2 = ((w1.set X (.inr (10, [.ref (X + 1), .ref (X + 3), .ref (X + 12), .ref (X + 52), .ref (X + 112), .ref (X + 132), .ref (X + 135), .ref (X + 136), .ref (X + 137), .ref (X + 138), .ref s, .int (-2), .int st]))).set (X + 1) (.inr (8, [.ref (X + 2), .int (nI 0), .int (nI pl')]))) := ⟨_, rfl⟩
          refine GP.weq w2 hw2.symm ?_
          have hE2 : EX (fun i => i = X ∨ i = X + 1) 0 0 w1 w2 := by rw [hw2]; exact EX.of ((FR.st (c' := .inr (8, [.ref (X + 2), .int (nI 0), .int (nI pl')])) (FR.st (c' := .inr (10, [.ref (X + 1), .ref (X + 3), .ref (X + 12), .ref (X + 52), .ref (X + 112), .ref (X + 132), .ref (X + 135), .ref (X + 136), .ref (X + 137), .ref (X + 138), .ref s, .int (-2), .int st])) FR.rf hX1 rfl (by omega)) (lk_ne (by omega) q1) rfl (by omega))) (fun _ h => h)
          have hX2 : w2[X]? = some (oB X s (-2) st) := by rw [hw2]; exact (lk_ne (by omega) (lk_eq hX1))
          have t2 : w2[X + 1]? = some (oT (X + 2) 0 pl') := by rw [hw2]; exact (lk_eq (lk_ne (by omega) q1))
          have hE3 : EX (fun i => i = X ∨ i = X + 1 ∨ i = X + 136) 0 0 w w2 := (hE1.mono (fun i hi => by omega)).tr (hE2.mono (fun i hi => by omega))
          have hS : ∀ i, (i = X ∨ i = X + 1 ∨ i = X + 136) → i < X + 139 := fun i hi => by omega
          have hr2 := hE2.lk (show ¬ (X + 136 = X ∨ X + 136 = X + 1) by omega) q3
          have hB2 : bxC w2 X 0 tb (-2) st rf sh pn pk ps im := ⟨⟨s, hX2, hs0.ex hE3 hS⟩, ⟨by omega, pl', tf, t2, hE2.lk (by omega) q2, fun i hi => absurd hi (by omega)⟩, hW.with hE3 (fun i h => by omega) ⟨g', hr2⟩ ⟨spa9, hE2.lk (by omega) q7⟩, hpa.ex hE3 (fun i _ _ => by omega) hS, him.ex hE3 (by omega) hS, hrf.ex hE3 (by omega)⟩
          have hEX := hE3.mono (S' := boxS X) (fun i hi => by unfold boxS; omega)
          refine g_aload_n (pc := 37) 0 dX11_read_37 rfl rfl ?_
          refine g_get (pc := 38) dX11_read_38 fk_X11_73 hX2 rfl ?_
          refine g_iconst (pc := 41) (v := -1) dX11_read_41 (by decide) ?_
          refine g_icmp_ne (pc := 42) 54 dX11_read_42 (by decide) (fun hc => ?_) (fun hc => ?_)
          · refine g_aload_n (pc := 54) 0 dX11_read_54 rfl rfl ?_
            refine g_bipush (pc := 55) (v := -6) dX11_read_55 (by decide) ?_
            refine g_callV (pc := 57) [.int (-6)] dX11_read_57 cv_X11_98.1 cv_X11_98.2.1 cv_X11_98.2.2.1 cv_X11_98.2.2.2 hX2 rfl rfl (Nat.le_of_ble_eq_true rfl) (by decide) (by decide) (sp_refuse6 _ hB2) ?_
            rintro _ w6 ⟨rfl, hB6, hE6⟩
            exact g_iret (pc := 60) dX11_read_60 (Or.inr (Or.inr (Or.inr ⟨i, Ge, c, rfl, hi, by rw [← pAll_cg ht3]; exact hp1, hp2, fun h9 => hfit ((fitS_I hp3).mpr h9), rfl, hB6, (hEX.tr hE6).le (by omega) (by omega)⟩)))
          · exact absurd (Decidable.not_not.mp hc) (by decide)
    · exact absurd hzi (by decide)
  · refine GP.weq _ e9 ?_
    refine n_if_ne (pc := 4) 14 dX11_read_4 (by decide) (by omega) (fun hzi => ?_) (fun hzi => ?_)
    · exact absurd rfl hzi
    · refine g_aload_n (pc := 7) 0 dX11_read_7 rfl rfl ?_
      refine g_bipush (pc := 8) (v := -2) dX11_read_8 (by decide) ?_
      refine g_callV (pc := 10) [.int (-2)] dX11_read_10 cv_X11_98.1 cv_X11_98.2.1 cv_X11_98.2.2.1 cv_X11_98.2.2.2 hX rfl rfl (Nat.le_of_ble_eq_true rfl) (by decide) (by decide) (sp_refuse2 _ hB0) ?_
      rintro _ w5 ⟨rfl, hB5, hE5⟩
      exact g_iret (pc := 13) dX11_read_13 (Or.inl ⟨hpi, rfl, hB5, hE5.le (by omega) (by omega)⟩)
