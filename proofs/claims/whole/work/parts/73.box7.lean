/-! MahlerBox: times, plus, take, core -/
def isPl (x : Int32) : Prop := 0 ≤ x.toInt ∧ x.toInt ≤ 7
theorem isPl_n {i : Nat} (h : i < 8) : isPl (nI i) := by
  unfold isPl
  rw [nI_toInt (by omega)]
  omega
theorem wkC.with {S : Nat → Prop} {w w' : Wd} {k s X : Nat} (h : wkC w X) (hE : EX S k s w w') (hS : ∀ i, (X + 3 ≤ i ∧ i ≤ X + 131) → ¬ S i) (h6 : ∃ g, w'[X + 136]? = some (aL 25 g)) (h7 : ∃ g, w'[X + 137]? = some (aL 25 g)) : wkC w' X := by
  obtain ⟨⟨n, tp, R, h1⟩, ⟨bb, bl, h2⟩, h3, ⟨m, hh, lv, ia, lk, on, rw9, en, a1, ⟨⟨tf, b1, b2⟩, b3⟩, a3, a4, a5⟩, -, -⟩ := h
  exact ⟨⟨n, tp, R, h1.ex hE (hS _ (by omega)) (fun i _ _ => hS _ (by omega))⟩, ⟨bb, bl, h2.ex hE (fun i _ _ => hS _ (by omega))⟩, h3.ex hE (fun i _ _ => hS _ (by omega)), ⟨m, hh, lv, ia, lk, on, rw9, en, hE.lk (hS _ (by omega)) a1, ⟨⟨tf, hE.lk (hS _ (by omega)) b1, b2⟩, fun k hk => (b3 k hk).ex hE (hS _ (by omega)) (hS _ (by omega))⟩, a3.ex hE (hS _ (by omega)) (hS _ (by omega)), hE.lk (hS _ (by omega)) a4, hE.lk (hS _ (by omega)) a5⟩, h6, h7⟩
theorem bxC.row {w : Wd} {X tl : Nat} {tb : Nat → Int32} {fa st : Int32} {rf : Nat → Nat} {sh : SV} {pn : Nat} {pk : Nat → Nat} {ps : Nat → SV} {im : Nat → Option SV} {g : Nat → Int64} (g' : Nat → Int64) (h : bxC w X tl tb fa st rf sh pn pk ps im) (hr : w[X + 136]? = some (aL 25 g)) : bxC (w.set (X + 136) (aL 25 g')) X tl tb fa st rf sh pn pk ps im ∧ EX (boxS X) 0 0 w (w.set (X + 136) (aL 25 g')) := by
  have hE : EX (fun i => i = X + 136) 0 0 w (w.set (X + 136) (aL 25 g')) := EX.of (FR.set (S := fun i => i = X + 136) hr rfl rfl) (fun _ h => h)
  obtain ⟨s7, h7⟩ := h.2.2.1.2.2.2.2.2
  exact ⟨h.tools hE (fun i hi => by omega) (h.2.2.1.with hE (fun i hi => by omega) ⟨g', lk_eq hr⟩ ⟨s7, hE.lk (by omega) h7⟩), hE.mono (fun i hi => by unfold boxS; omega)⟩
theorem bxC.spare {w : Wd} {X tl : Nat} {tb : Nat → Int32} {fa st : Int32} {rf : Nat → Nat} {sh : SV} {pn : Nat} {pk : Nat → Nat} {ps : Nat → SV} {im : Nat → Option SV} {g : Nat → Int64} (g' : Nat → Int64) (h : bxC w X tl tb fa st rf sh pn pk ps im) (hr : w[X + 137]? = some (aL 25 g)) : bxC (w.set (X + 137) (aL 25 g')) X tl tb fa st rf sh pn pk ps im ∧ EX (boxS X) 0 0 w (w.set (X + 137) (aL 25 g')) := by
  have hE : EX (fun i => i = X + 137) 0 0 w (w.set (X + 137) (aL 25 g')) := EX.of (FR.set (S := fun i => i = X + 137) hr rfl rfl) (fun _ h => h)
  obtain ⟨s7, h7⟩ := h.2.2.1.2.2.2.2.1
  exact ⟨h.tools hE (fun i hi => by omega) (h.2.2.1.with hE (fun i hi => by omega) ⟨s7, hE.lk (by omega) h7⟩ ⟨g', lk_eq hr⟩), hE.mono (fun i hi => by unfold boxS; omega)⟩
theorem putP.from {F : Nat → Int} {kd k : Nat} {w w2 : Wd} {X tl : Nat} {tb : Nat → Int32} {fa : Int32} {rf : Nat → Nat} {sh : SV} {pn : Nat} {pk : Nat → Nat} {ps : Nat → SV} {im : Nat → Option SV} {r : Option Value} {w' : Wd} (hE : EX (boxS X) 0 0 w w2) (h : putP F kd k w2 X tl tb fa rf sh pn pk ps im r w') : putP F kd k w X tl tb fa rf sh pn pk ps im r w' := by
  obtain ⟨c, h1, h2⟩ := h
  refine ⟨c, h1, ?_⟩
  rcases h2 with ⟨a, b, c9, d⟩ | ⟨a, b, c9, d⟩
  · exact Or.inl ⟨a, b, c9, (hE.tr d).le (by omega) (by omega)⟩
  · exact Or.inr ⟨a, b, c9, (hE.tr d).le (by omega) (by omega)⟩
/-- refused -/
def rfP (code : Int32) (slot : Nat) (w : Wd) (X tl : Nat) (tb : Nat → Int32) (fa : Int32) (rf : Nat → Nat) (sh : SV) (pn : Nat) (pk : Nat → Nat) (ps : Nat → SV) (im : Nat → Option SV) (r : Option Value) (w' : Wd) : Prop := r = some (.int code) ∧ bxC w' X tl tb fa code (incr rf slot) sh pn pk ps im ∧ EX (boxS X) 4 25 w w'
theorem rokP {F : Nat → Int} {kd k : Nat} {w : Wd} {X tl : Nat} {tb : Nat → Int32} {fa : Int32} {rf : Nat → Nat} {sh : SV} {pn : Nat} {pk : Nat → Nat} {ps : Nat → SV} {im : Nat → Option SV} {r : Option Value} {w' : Wd} (h : putP F kd k w X tl tb fa rf sh pn pk ps im r w') : ∃ x, r = some (.int x) := by
  obtain ⟨c, -, ⟨-, e, -⟩ | ⟨-, e, -⟩⟩ := h <;> exact ⟨_, e⟩
theorem rokR {code : Int32} {slot : Nat} {w : Wd} {X tl : Nat} {tb : Nat → Int32} {fa : Int32} {rf : Nat → Nat} {sh : SV} {pn : Nat} {pk : Nat → Nat} {ps : Nat → SV} {im : Nat → Option SV} {r : Option Value} {w' : Wd} (h : rfP code slot w X tl tb fa rf sh pn pk ps im r w') : ∃ x, r = some (.int x) := ⟨_, h.1⟩
theorem okP_ext {P : PV} {c : Nat → Int32} (hc : ∀ j, j ≤ P.1 → (c j).toInt = P.2 j) (hk : okP P) (j : Nat) : (if j ≤ P.1 then (c j).toInt else 0) = P.2 j := by
  by_cases e : j ≤ P.1
  · rw [if_pos e, hc j e]
  · rw [if_neg e, hk.2.2.2 j (by omega)]
theorem mulP_cg {F F' G G' : Nat → Int} {n2 : Nat} (hG : ∀ t, t ≤ n2 → G t = G' t) : ∀ k, (∀ t, t < k → F t = F' t) → ∀ j, mulP F G n2 k j = mulP F' G' n2 k j
  | 0, _, _ => rfl
  | k + 1, hF, j => by
    have ih := mulP_cg hG k (fun t ht => hF t (by omega)) j
    unfold mulP
    rw [ih, hF k (by omega)]
    congr 1
    by_cases hc : k ≤ j ∧ j - k ≤ n2
    · rw [if_pos hc, if_pos hc, hG (j - k) (by omega)]
    · rw [if_neg hc, if_neg hc]
abbrev BX11_times (w0 : Wd) (Post : Option Value → Wd → Prop) (w : Wd) (pc : Nat) (ls : List (Nat × Value)) (st : List Value) : Prop := GP "times" RX11 cX11_times 4 (some .int) 4 156 none w0 Post w pc ls st
abbrev EX11_times (As : List Value) (w : Wd) (Post : Option Value → Wd → Prop) : Prop := EP yX11_times cX11_times 4 (some .int) 4 As w Post
theorem sp_times (w : Wd) {X tl : Nat} {tb : Nat → Int32} {fa st : Int32} {rf : Nat → Nat} {sh : SV} {pn : Nat} {pk : Nat → Nat} {ps : Nat → SV} {im : Nat → Option SV} (hB : bxC w X tl tb fa st rf sh pn pk ps im) {x y z : Int32} : EX11_times [.ref X, .int x, .int y, .int z] w (fun r w' => (¬ (isPl x ∧ isPl y ∧ isPl z) ∧ rfP (-2) 1 w X tl tb fa rf sh pn pk ps im r w') ∨ (∃ i j k, x = nI i ∧ i < 8 ∧ y = nI j ∧ j < 8 ∧ z = nI k ∧ k < 8 ∧ putP (mulP (sh.1 i).2 (sh.1 j).2 (sh.1 j).1 ((sh.1 i).1 + 1)) 1 k w X tl tb fa rf sh pn pk ps im r w')) := by
  refine EP.of (plainFor_of_name (by decide)) [(0, .ref X), (1, .int x), (2, .int y), (3, .int z)] rfl (Nat.le_of_ble_eq_true rfl) (fun r wf h => by rcases h with ⟨-, h⟩ | ⟨i, j, k, -, -, -, -, -, -, h⟩; obtain ⟨x, rfl⟩ := rokR h; trivial; obtain ⟨x, rfl⟩ := rokP h; trivial) ?_
  show BX11_times w _ w 0 [(0, .ref X), (1, .int x), (2, .int y), (3, .int z)] []
  have hB0 := id hB
  obtain ⟨⟨s, hX, hs⟩, htp, hW, hpa, him, hrf⟩ := hB
  have hs0 := id hs
  obtain ⟨sp9, sf9, sh9, hs1, hs2, hs3, hs4, hs5, hs6⟩ := hs
  obtain ⟨htl, tpl, tf, ht1, ht2, ht3⟩ := id htp
  obtain ⟨row9, hrow9⟩ := hW.2.2.2.2.1
  obtain ⟨spa9, hspa9⟩ := hW.2.2.2.2.2
  refine g_iload_n (pc := 0) 1 dX11_times_0 rfl rfl ?_
  refine g_callS (pc := 1) [.int x] dX11_times_1 cs_X11_95.1 cs_X11_95.2 rfl rfl (Nat.le_of_ble_eq_true rfl) (by decide) (by decide) (sp_isPlace _ (x := x)) ?_
  rintro _ w9 (⟨rfl, hpi, e9⟩ | ⟨rfl, hpi, e9⟩)
  · refine GP.weq _ e9 ?_
    refine n_if_eq (pc := 4) 21 dX11_times_4 (by decide) (by omega) (fun hzi => ?_) (fun hzi => ?_)
    · exact absurd hzi (by decide)
    · obtain ⟨i, hie, hi⟩ : ∃ i : Nat, x = nI i ∧ i < 8 := ⟨x.toInt.toNat, nI_toNat (by omega), by omega⟩
      subst hie
      refine g_iload_n (pc := 7) 2 dX11_times_7 rfl rfl ?_
      refine g_callS (pc := 8) [.int y] dX11_times_8 cs_X11_95.1 cs_X11_95.2 rfl rfl (Nat.le_of_ble_eq_true rfl) (by decide) (by decide) (sp_isPlace _ (x := y)) ?_
      rintro _ w9 (⟨rfl, hpj, e9⟩ | ⟨rfl, hpj, e9⟩)
      · refine GP.weq _ e9 ?_
        refine n_if_eq (pc := 11) 21 dX11_times_11 (by decide) (by omega) (fun hzj => ?_) (fun hzj => ?_)
        · exact absurd hzj (by decide)
        · obtain ⟨j, hje, hj⟩ : ∃ j : Nat, y = nI j ∧ j < 8 := ⟨y.toInt.toNat, nI_toNat (by omega), by omega⟩
          subst hje
          refine g_iload_n (pc := 14) 3 dX11_times_14 rfl rfl ?_
          refine g_callS (pc := 15) [.int z] dX11_times_15 cs_X11_95.1 cs_X11_95.2 rfl rfl (Nat.le_of_ble_eq_true rfl) (by decide) (by decide) (sp_isPlace _ (x := z)) ?_
          rintro _ w9 (⟨rfl, hpk, e9⟩ | ⟨rfl, hpk, e9⟩)
          · refine GP.weq _ e9 ?_
            refine n_if_ne (pc := 18) 28 dX11_times_18 (by decide) (by omega) (fun hzk => ?_) (fun hzk => ?_)
            · obtain ⟨k, hke, hk⟩ : ∃ k : Nat, z = nI k ∧ k < 8 := ⟨z.toInt.toNat, nI_toNat (by omega), by omega⟩
              subst hke
              obtain ⟨v1, hv1, b1, c1, ho1, hb1, hvB1, hbB1, hc1, hk1⟩ := hs5 i hi
              obtain ⟨v2, hv2, b2, c2, ho2, hb2, hvB2, hbB2, hc2, hk2⟩ := hs5 j hj
              refine g_aload_n (pc := 28) 0 dX11_times_28 rfl rfl ?_
              refine g_get (pc := 29) dX11_times_29 fk_X11_69 hX rfl ?_
              refine g_iload_n (pc := 32) 1 dX11_times_32 rfl rfl ?_
              refine g_callV (pc := 33) [.int (nI i)] dX11_times_33 cv_X11_111.1 cv_X11_111.2.1 cv_X11_111.2.2.1 cv_X11_111.2.2.2 hs1 rfl rfl (Nat.le_of_ble_eq_true rfl) (by decide) (by decide) (sp_poly _ (i := i) hs1 hs2 hi hv1) ?_
              rintro _ w9 ⟨rfl, e9⟩
              refine GP.weq _ e9 ?_
              refine g_aload_n (pc := 36) 0 dX11_times_36 rfl rfl ?_
              refine g_get (pc := 37) dX11_times_37 fk_X11_69 hX rfl ?_
              refine g_iload_n (pc := 40) 2 dX11_times_40 rfl rfl ?_
              refine g_callV (pc := 41) [.int (nI j)] dX11_times_41 cv_X11_111.1 cv_X11_111.2.1 cv_X11_111.2.2.1 cv_X11_111.2.2.2 hs1 rfl rfl (Nat.le_of_ble_eq_true rfl) (by decide) (by decide) (sp_poly _ (i := j) hs1 hs2 hj hv2) ?_
              rintro _ w9 ⟨rfl, e9⟩
              refine GP.weq _ e9 ?_
              refine g_aload_n (pc := 44) 0 dX11_times_44 rfl rfl ?_
              refine g_get (pc := 45) dX11_times_45 fk_X11_57 hX rfl ?_
              refine g_callV (pc := 48) [.ref v2, .ref (X + 136)] dX11_times_48 cv_X11_122.1 cv_X11_122.2.1 cv_X11_122.2.2.1 cv_X11_122.2.2.2 ho1 rfl rfl (Nat.le_of_ble_eq_true rfl) (by decide) (by decide) (sp_writeProduct _ ho1 hb1 ho2 hb2 hrow9 (by omega) (by omega) (by omega) (by omega) hk1.1 hk2.1 (fun t ht => by rw [hc1 t ht]; exact hk1.2.1 t ht) (fun t ht => by rw [hc2 t ht]; exact hk2.2.1 t ht)) ?_
              rintro _ w1 ⟨rfl, e', he', e9⟩
              obtain ⟨hB1, hE1⟩ := hB0.row e' hrow9
              rw [← e9] at hB1 hE1
              have hr1 : w1[X + 136]? = some (aL 25 e') := by rw [e9]; exact lk_eq hrow9
              have hX1 : w1[X]? = some (oB X s fa st) := by rw [e9]; exact lk_ne (by omega) hX
              refine g_aload_n (pc := 51) 0 dX11_times_51 rfl rfl ?_
              refine g_iconst (pc := 52) (v := nI 1) dX11_times_52 (by decide) ?_
              refine g_iload_n (pc := 53) 3 dX11_times_53 rfl rfl ?_
              refine g_callV (pc := 54) [.int (nI 1), .int (nI k)] dX11_times_54 cv_X11_107.1 cv_X11_107.2.1 cv_X11_107.2.2.1 cv_X11_107.2.2.2 hX1 rfl rfl (Nat.le_of_ble_eq_true rfl) (by decide) (by decide) (sp_putRow _ (kd := 1) (k := k) (F := mulP (sh.1 i).2 (sh.1 j).2 (sh.1 j).1 ((sh.1 i).1 + 1)) hB1 hr1 (fun t ht => by rw [he' t ht]; exact mulP_cg (fun u hu => hc2 u hu) _ (fun u hu => hc1 u (by omega)) t) hk) ?_
              rintro _ w2 hP
              obtain ⟨x9, rfl⟩ := rokP hP
              exact g_iret (pc := 57) dX11_times_57 (Or.inr ⟨i, j, k, rfl, hi, rfl, hj, rfl, hk, hP.from hE1⟩)
            · exact absurd hzk (by decide)
          · refine GP.weq _ e9 ?_
            refine n_if_ne (pc := 18) 28 dX11_times_18 (by decide) (by omega) (fun hzk => ?_) (fun hzk => ?_)
            · exact absurd rfl hzk
            · refine g_aload_n (pc := 21) 0 dX11_times_21 rfl rfl ?_
              refine g_bipush (pc := 22) (v := -2) dX11_times_22 (by decide) ?_
              refine g_callV (pc := 24) [.int (-2)] dX11_times_24 cv_X11_98.1 cv_X11_98.2.1 cv_X11_98.2.2.1 cv_X11_98.2.2.2 hX rfl rfl (Nat.le_of_ble_eq_true rfl) (by decide) (by decide) (sp_refuse2 _ hB0) ?_
              rintro _ w5 ⟨rfl, hB5, hE5⟩
              exact g_iret (pc := 27) dX11_times_27 (Or.inl ⟨fun h9 => hpk h9.2.2, rfl, hB5, hE5.le (by omega) (by omega)⟩)
      · refine GP.weq _ e9 ?_
        refine n_if_eq (pc := 11) 21 dX11_times_11 (by decide) (by omega) (fun hzj => ?_) (fun hzj => ?_)
        · refine g_aload_n (pc := 21) 0 dX11_times_21 rfl rfl ?_
          refine g_bipush (pc := 22) (v := -2) dX11_times_22 (by decide) ?_
          refine g_callV (pc := 24) [.int (-2)] dX11_times_24 cv_X11_98.1 cv_X11_98.2.1 cv_X11_98.2.2.1 cv_X11_98.2.2.2 hX rfl rfl (Nat.le_of_ble_eq_true rfl) (by decide) (by decide) (sp_refuse2 _ hB0) ?_
          rintro _ w5 ⟨rfl, hB5, hE5⟩
          exact g_iret (pc := 27) dX11_times_27 (Or.inl ⟨fun h9 => hpj h9.2.1, rfl, hB5, hE5.le (by omega) (by omega)⟩)
        · exact absurd rfl hzj
  · refine GP.weq _ e9 ?_
    refine n_if_eq (pc := 4) 21 dX11_times_4 (by decide) (by omega) (fun hzi => ?_) (fun hzi => ?_)
    · refine g_aload_n (pc := 21) 0 dX11_times_21 rfl rfl ?_
      refine g_bipush (pc := 22) (v := -2) dX11_times_22 (by decide) ?_
      refine g_callV (pc := 24) [.int (-2)] dX11_times_24 cv_X11_98.1 cv_X11_98.2.1 cv_X11_98.2.2.1 cv_X11_98.2.2.2 hX rfl rfl (Nat.le_of_ble_eq_true rfl) (by decide) (by decide) (sp_refuse2 _ hB0) ?_
      rintro _ w5 ⟨rfl, hB5, hE5⟩
      exact g_iret (pc := 27) dX11_times_27 (Or.inl ⟨fun h9 => hpi h9.1, rfl, hB5, hE5.le (by omega) (by omega)⟩)
    · exact absurd rfl hzi
abbrev BX11_take (w0 : Wd) (Post : Option Value → Wd → Prop) (w : Wd) (pc : Nat) (ls : List (Nat × Value)) (st : List Value) : Prop := GP "take" RX11 cX11_take 3 (some .int) 4 156 none w0 Post w pc ls st
abbrev EX11_take (As : List Value) (w : Wd) (Post : Option Value → Wd → Prop) : Prop := EP yX11_take cX11_take 3 (some .int) 4 As w Post
theorem sp_take (w : Wd) {X tl : Nat} {tb : Nat → Int32} {fa st : Int32} {rf : Nat → Nat} {sh : SV} {pn : Nat} {pk : Nat → Nat} {ps : Nat → SV} {im : Nat → Option SV} (hB : bxC w X tl tb fa st rf sh pn pk ps im) {x z : Int32} : EX11_take [.ref X, .int x, .int z] w (fun r w' => (¬ (0 ≤ x.toInt ∧ x.toInt < sh.2.2.2.2.2.1 ∧ isPl z) ∧ rfP (-2) 1 w X tl tb fa rf sh pn pk ps im r w') ∨ (∃ i k, x = nI i ∧ i < sh.2.2.2.2.2.1 ∧ z = nI k ∧ k < 8 ∧ putP (fun t => if t ≤ sh.2.1 then sh.2.2.2.2.2.2 (i * 16 + t) else 0) 8 k w X tl tb fa rf sh pn pk ps im r w')) := by
  refine EP.of (plainFor_of_name (by decide)) [(0, .ref X), (1, .int x), (2, .int z)] rfl (Nat.le_of_ble_eq_true rfl) (fun r wf h => by rcases h with ⟨-, h⟩ | ⟨i, k, -, -, -, -, h⟩; obtain ⟨x, rfl⟩ := rokR h; trivial; obtain ⟨x, rfl⟩ := rokP h; trivial) ?_
  show BX11_take w _ w 0 [(0, .ref X), (1, .int x), (2, .int z)] []
  have hB0 := id hB
  obtain ⟨⟨s, hX, hs⟩, htp, hW, hpa, him, hrf⟩ := hB
  have hs0 := id hs
  obtain ⟨sp9, sf9, sh9, hs1, hs2, hs3, hs4, hs5, hs6⟩ := hs
  obtain ⟨htl, tpl, tf, ht1, ht2, ht3⟩ := id htp
  obtain ⟨row9, hrow9⟩ := hW.2.2.2.2.1
  obtain ⟨spa9, hspa9⟩ := hW.2.2.2.2.2
  obtain ⟨ef, gf, hf1, hf2, hf3, hf4, hf5, hf6, hf7, -⟩ := id hs6
  refine g_aload_n (pc := 0) 0 dX11_take_0 rfl rfl ?_
  refine g_get (pc := 1) dX11_take_1 fk_X11_69 hX rfl ?_
  refine g_get (pc := 4) dX11_take_4 fk_X11_209 hs1 rfl ?_
  refine g_iload_n (pc := 7) 1 dX11_take_7 rfl rfl ?_
  by_cases hx : x < 0
  · have z0 : (0 : Int32).toInt = 0 := by decide
    have hx0 := Int32.lt_iff_toInt_lt.mp hx
    rw [z0] at hx0
    refine g_callV (pc := 8) [.int x] dX11_take_8 cv_X11_213.1 cv_X11_213.2.1 cv_X11_213.2.2.1 cv_X11_213.2.2.2 hf1 rfl rfl (Nat.le_of_ble_eq_true rfl) (by decide) (by decide) (sp_hasNeg _ hx) ?_
    rintro _ w9 ⟨rfl, e9⟩
    refine GP.weq _ e9 ?_
    refine n_if_eq (pc := 11) 21 dX11_take_11 (by decide) (by omega) (fun hz => ?_) (fun hz => ?_)
    · refine g_aload_n (pc := 21) 0 dX11_take_21 rfl rfl ?_
      refine g_bipush (pc := 22) (v := -2) dX11_take_22 (by decide) ?_
      refine g_callV (pc := 24) [.int (-2)] dX11_take_24 cv_X11_98.1 cv_X11_98.2.1 cv_X11_98.2.2.1 cv_X11_98.2.2.2 hX rfl rfl (Nat.le_of_ble_eq_true rfl) (by decide) (by decide) (sp_refuse2 _ hB0) ?_
      rintro _ w5 ⟨rfl, hB5, hE5⟩
      exact g_iret (pc := 27) dX11_take_27 (Or.inl ⟨fun h9 => by have := h9.1; omega, rfl, hB5, hE5.le (by omega) (by omega)⟩)
    · exact absurd rfl hz
  · have hx0 : 0 ≤ x.toInt := by
      rw [Int32.lt_iff_toInt_lt, show (0 : Int32).toInt = 0 by decide] at hx
      omega
    have hxh := I_hi x
    obtain ⟨i, hie, hi0⟩ : ∃ i : Nat, x = nI i ∧ i < 2147483648 := ⟨x.toInt.toNat, nI_toNat hx0, by omega⟩
    subst hie
    have hit : (nI i).toInt = i := nI_toInt hi0
    refine g_callV (pc := 8) [.int (nI i)] dX11_take_8 cv_X11_213.1 cv_X11_213.2.1 cv_X11_213.2.2.1 cv_X11_213.2.2.2 hf1 rfl rfl (Nat.le_of_ble_eq_true rfl) (by decide) (by decide) (sp_has _ (i := i) hf1 hf2 rfl hf7 hi0) ?_
    rintro _ w9 (⟨rfl, hi, e9⟩ | ⟨rfl, hi, e9⟩)
    · refine GP.weq _ e9 ?_
      refine n_if_eq (pc := 11) 21 dX11_take_11 (by decide) (by omega) (fun hz => ?_) (fun hz => ?_)
      · exact absurd hz (by decide)
      · refine g_iload_n (pc := 14) 2 dX11_take_14 rfl rfl ?_
        refine g_callS (pc := 15) [.int z] dX11_take_15 cs_X11_95.1 cs_X11_95.2 rfl rfl (Nat.le_of_ble_eq_true rfl) (by decide) (by decide) (sp_isPlace _ (x := z)) ?_
        rintro _ w9 (⟨rfl, hpk, e9⟩ | ⟨rfl, hpk, e9⟩)
        · refine GP.weq _ e9 ?_
          refine n_if_ne (pc := 18) 28 dX11_take_18 (by decide) (by omega) (fun hzk => ?_) (fun hzk => ?_)
          · obtain ⟨k, hke, hk⟩ : ∃ k : Nat, z = nI k ∧ k < 8 := ⟨z.toInt.toNat, nI_toNat (by omega), by omega⟩
            subst hke
            refine g_aload_n (pc := 28) 0 dX11_take_28 rfl rfl ?_
            refine g_get (pc := 29) dX11_take_29 fk_X11_69 hX rfl ?_
            refine g_get (pc := 32) dX11_take_32 fk_X11_209 hs1 rfl ?_
            refine g_iload_n (pc := 35) 1 dX11_take_35 rfl rfl ?_
            refine g_aload_n (pc := 36) 0 dX11_take_36 rfl rfl ?_
            refine g_get (pc := 37) dX11_take_37 fk_X11_57 hX rfl ?_
            refine g_callV (pc := 40) [.int (nI i), .ref (X + 136)] dX11_take_40 cv_X11_216.1 cv_X11_216.2.1 cv_X11_216.2.2.1 cv_X11_216.2.2.2 hf1 rfl rfl (Nat.le_of_ble_eq_true rfl) (by decide) (by decide) (sp_foundTo _ (i := i) hf1 hf2 rfl hf7 hrow9 (by omega) (by omega) hi hf6) ?_
            rintro _ w1 ⟨rfl, e', he', e9⟩
            obtain ⟨hB1, hE1⟩ := hB0.row e' hrow9
            rw [← e9] at hB1 hE1
            have hr1 : w1[X + 136]? = some (aL 25 e') := by rw [e9]; exact lk_eq hrow9
            have hX1 : w1[X]? = some (oB X s fa st) := by rw [e9]; exact lk_ne (by omega) hX
            refine g_aload_n (pc := 43) 0 dX11_take_43 rfl rfl ?_
            refine g_bipush (pc := 44) (v := nI 8) dX11_take_44 (by decide) ?_
            refine g_iload_n (pc := 46) 2 dX11_take_46 rfl rfl ?_
            refine g_callV (pc := 47) [.int (nI 8), .int (nI k)] dX11_take_47 cv_X11_107.1 cv_X11_107.2.1 cv_X11_107.2.2.1 cv_X11_107.2.2.2 hX1 rfl rfl (Nat.le_of_ble_eq_true rfl) (by decide) (by decide) (sp_putRow _ (kd := 8) (k := k) (F := fun t => if t ≤ sh.2.1 then sh.2.2.2.2.2.2 (i * 16 + t) else 0) hB1 hr1 (fun t ht => by rw [he' t ht]; by_cases e8 : t ≤ sh.2.1; · { rw [if_pos e8, if_pos e8]; exact hf5 _ (by omega) }; · { rw [if_neg e8, if_neg e8] }) hk) ?_
            rintro _ w2 hP
            obtain ⟨x9, rfl⟩ := rokP hP
            exact g_iret (pc := 50) dX11_take_50 (Or.inr ⟨i, k, rfl, hi, rfl, hk, hP.from hE1⟩)
          · exact absurd hzk (by decide)
        · refine GP.weq _ e9 ?_
          refine n_if_ne (pc := 18) 28 dX11_take_18 (by decide) (by omega) (fun hzk => ?_) (fun hzk => ?_)
          · exact absurd rfl hzk
          · refine g_aload_n (pc := 21) 0 dX11_take_21 rfl rfl ?_
            refine g_bipush (pc := 22) (v := -2) dX11_take_22 (by decide) ?_
            refine g_callV (pc := 24) [.int (-2)] dX11_take_24 cv_X11_98.1 cv_X11_98.2.1 cv_X11_98.2.2.1 cv_X11_98.2.2.2 hX rfl rfl (Nat.le_of_ble_eq_true rfl) (by decide) (by decide) (sp_refuse2 _ hB0) ?_
            rintro _ w5 ⟨rfl, hB5, hE5⟩
            exact g_iret (pc := 27) dX11_take_27 (Or.inl ⟨fun h9 => hpk h9.2.2, rfl, hB5, hE5.le (by omega) (by omega)⟩)
    · refine GP.weq _ e9 ?_
      refine n_if_eq (pc := 11) 21 dX11_take_11 (by decide) (by omega) (fun hz => ?_) (fun hz => ?_)
      · refine g_aload_n (pc := 21) 0 dX11_take_21 rfl rfl ?_
        refine g_bipush (pc := 22) (v := -2) dX11_take_22 (by decide) ?_
        refine g_callV (pc := 24) [.int (-2)] dX11_take_24 cv_X11_98.1 cv_X11_98.2.1 cv_X11_98.2.2.1 cv_X11_98.2.2.2 hX rfl rfl (Nat.le_of_ble_eq_true rfl) (by decide) (by decide) (sp_refuse2 _ hB0) ?_
        rintro _ w5 ⟨rfl, hB5, hE5⟩
        exact g_iret (pc := 27) dX11_take_27 (Or.inl ⟨fun h9 => by have := h9.2.1; omega, rfl, hB5, hE5.le (by omega) (by omega)⟩)
      · exact absurd rfl hz
