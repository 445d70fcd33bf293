/-! the reference: search -/
theorem srM_le {d h lv v : Nat} : ∀ {i ia on : Nat} {E : Nat → Int}, srM d h lv v i ia on E → ia ≤ i ∧ on ≤ i
  | 0, ia, on, E, h => ⟨by rw [h.1]; exact Nat.le_refl _, by rw [h.2]; exact Nat.le_refl _⟩
  | i + 1, ia, on, E, h => by
    obtain ⟨ia0, on0, E0, h1, h2⟩ := h
    have ih := srM_le h1
    rcases h2 with ⟨-, h3, h4, -⟩ | ⟨-, b, -, ⟨-, h3, h4, -⟩ | ⟨-, h3, h4, -⟩⟩ <;> omega
theorem row_start {g g' : Nat → Int32} {S : Nat → PV} {FV9 : FV} {d : Nat} (h : rowR g (S, FV9)) (hd : d ≤ 12) (hg : ∀ i, i < 112 → g' i = g i) (h2 : g' 112 = nI 0) (h3 : g' 113 = nI 0) (h4 : g' 114 = nI 0) (h5 : g' 115 = nI 0) : rowR g' (S, (d, 0, 0, 0, 0, fun _ => 0)) := by
  obtain ⟨r1, -, -, -⟩ := h
  refine ⟨fun i hi => ⟨(r1 i hi).1, ?_, fun p hp => ?_⟩, ⟨h2, h3, h4, h5⟩, ⟨hd, Nat.zero_le _, Nat.zero_le _, Nat.zero_le _, Nat.zero_le _⟩, fun i hi => absurd hi (Nat.not_lt_zero _)⟩
  · rw [hg _ (by omega)]; exact (r1 i hi).2.1
  · rw [hg _ (by omega)]; exact (r1 i hi).2.2 p hp
abbrev BX12_search (w0 : Wd) (Post : Option Value → Wd → Prop) (w : Wd) (pc : Nat) (ls : List (Nat × Value)) (st : List Value) : Prop := GP "search" RX12 cX12_search 7 (some .int) 6 234 none w0 Post w pc ls st
abbrev EX12_search (As : List Value) (w : Wd) (Post : Option Value → Wd → Prop) : Prop := EP yX12_search cX12_search 7 (some .int) 6 As w Post
theorem se_all {w0 w1 : Wd} {Y d h lv v : Nat} (hd : d ≤ 10) (hh : h ≤ 3) {Q : Option Value → Wd → Prop} (K : BX12_search w0 Q w1 100 [(5, .int (nI ((2 * h + 1) ^ (d / 2)))), (4, .int (nI v)), (3, .int (nI lv)), (2, .int (nI h)), (1, .int (nI d)), (0, .ref Y)] []) : ∀ (z p : Nat), d / 2 = p + z → BX12_search w0 Q w1 76 [(6, .int (nI p)), (5, .int (nI ((2 * h + 1) ^ p))), (4, .int (nI v)), (3, .int (nI lv)), (2, .int (nI h)), (1, .int (nI d)), (0, .ref Y)] [] := by
  intro z
  induction z with
  | zero =>
    intro p hz
    refine g_iload (pc := 76) 0 dX12_search_76 rfl ?_
    refine g_iload_n (pc := 78) 5 dX12_search_78 rfl rfl ?_
    refine g_iconst (pc := 79) (v := nI 2) dX12_search_79 (by decide) ?_
    refine n_idiv (pc := 80) dX12_search_80 (by omega) (by omega) (by omega) ?_
    refine n_icmp_ge (pc := 81) 100 dX12_search_81 (by decide) (by omega) (by omega) (fun hb9 => ?_) (fun hb9 => ?_)
    · have e9 : p = d / 2 := by omega
      rw [e9]
      exact GP.lsub _ (by simp) K
    · exact absurd hb9 (by omega)
  | succ z ih =>
    intro p hz
    refine g_iload (pc := 76) 0 dX12_search_76 rfl ?_
    refine g_iload_n (pc := 78) 5 dX12_search_78 rfl rfl ?_
    refine g_iconst (pc := 79) (v := nI 2) dX12_search_79 (by decide) ?_
    refine n_idiv (pc := 80) dX12_search_80 (by omega) (by omega) (by omega) ?_
    refine n_icmp_ge (pc := 81) 100 dX12_search_81 (by decide) (by omega) (by omega) (fun hb9 => ?_) (fun hb9 => ?_)
    · exact absurd hb9 (by omega)
    · refine g_iload (pc := 84) 1 dX12_search_84 rfl ?_
      refine g_iconst (pc := 86) (v := nI 2) dX12_search_86 (by decide) ?_
      refine g_iload_n (pc := 87) 4 dX12_search_87 rfl rfl ?_
      refine n_imul (pc := 88) dX12_search_88 ?_
      refine g_iconst (pc := 89) (v := nI 1) dX12_search_89 (by decide) ?_
      refine n_iadd (pc := 90) dX12_search_90 ?_
      refine n_imul (pc := 91) dX12_search_91 ?_
      refine g_istore (pc := 92) [(5, .int (nI (((2 * h + 1) ^ p) * ((2 * h) + 1)))), (6, .int (nI p)), (4, .int (nI v)), (3, .int (nI lv)), (2, .int (nI h)), (1, .int (nI d)), (0, .ref Y)] dX12_search_92 (by decide) rfl ?_
      refine n_iinc (pc := 94) (c := 1) [(6, .int (nI (p + 1))), (5, .int (nI (((2 * h + 1) ^ p) * ((2 * h) + 1)))), (4, .int (nI v)), (3, .int (nI lv)), (2, .int (nI h)), (1, .int (nI d)), (0, .ref Y)] 1 dX12_search_94 rfl (by decide) (by decide) rfl ?_
      refine g_goto (pc := 97) 76 dX12_search_97 (by decide) ?_
      exact GP.lsub _ (by simp [Nat.pow_succ]) (ih (p + 1) (by omega))
theorem mse_loop {w0 w : Wd} {Y tl : Nat} {tb : Nat → Int32} {fa st : Int32} {rf : Nat → Nat} {S : Nat → PV} {pn : Nat} {pk : Nat → Nat} {ps : Nat → SV} {im : Nat → Option SV} {d h lv v sz : Nat} (hd : d ≤ 10) (hde : d % 2 = 0) (hh : h ≤ 3) (hlv : lv ≤ 6) (hv : v ≤ 9999) (hsz : sz ≤ 3125) : ∀ (z n ia on : Nat) (E : Nat → Int) (w1 : Wd), sz = n + z → srM d h lv v n ia on E → mdC w1 Y tl tb fa st rf (S, (d, ia, n, on, min ia 30, E)) pn pk ps im → FR (modS Y) w w1 → BX12_search w0 (fun r w' => ∃ ia on E, r = some (.int (nI ia)) ∧ srM d h lv v sz ia on E ∧ mdC w' Y tl tb fa (nI 0) rf (S, (d, ia, sz, on, min ia 30, E)) pn pk ps im ∧ FR (modS Y) w w') w1 156 [(6, .int (nI n)), (5, .int (nI sz)), (4, .int (nI v)), (3, .int (nI lv)), (2, .int (nI h)), (1, .int (nI d)), (0, .ref Y)] [] := by
  intro z
  induction z with
  | zero =>
    intro n ia on E w1 hz hS hM1 hF1
    have hle := srM_le hS
    obtain ⟨th0, dg0, dd0, ld0, be0, ib0, re0, ig0, cY0⟩ := id hM1.1
    refine g_iload (pc := 156) 0 dX12_search_156 rfl ?_
    refine g_iload (pc := 158) 1 dX12_search_158 rfl ?_
    refine n_icmp_ge (pc := 160) 185 dX12_search_160 (by decide) (by omega) (by omega) (fun hb9 => ?_) (fun hb9 => ?_)
    · have e9 : n = sz := by omega
      rw [e9] at hS hM1
      obtain ⟨g2, a2, b2⟩ := hM1.2.1.2.1
      refine g_aload_n (pc := 185) 6 dX12_search_185 rfl rfl ?_
      refine g_aload_n (pc := 186) 6 dX12_search_186 rfl rfl ?_
      refine g_get (pc := 187) dX12_search_187 fk_X12_13 cY0 rfl ?_
      refine g_bipush (pc := 190) (v := nI 113) dX12_search_190 (by decide) ?_
      refine g_iald (pc := 192) 113 dX12_search_192 a2 (IXn (by omega) (by omega)) ?_
      refine GP.ti (nI ia) b2.2.1.2.1 ?_
      refine g_callV (pc := 193) [.int (nI ia)] dX12_search_193 cv_X12_100.1 cv_X12_100.2.1 cv_X12_100.2.2.1 cv_X12_100.2.2.2 cY0 rfl rfl (Nat.le_of_ble_eq_true rfl) (by decide) (by decide) (mq_tell _ hM1) ?_
      rintro _ w2 ⟨rfl, hM2, hF2⟩
      exact g_iret (pc := 196) dX12_search_196 ⟨ia, on, E, rfl, hS, hM2, hF1.tr hF2⟩
    · exact absurd hb9 (by omega)
  | succ z ih =>
    intro n ia on E w1 hz hS hM1 hF1
    have hle := srM_le hS
    obtain ⟨b, c18⟩ := md_18 hM1
    obtain ⟨th0, dg0, dd0, ld0, be0, ib0, re0, ig0, cY0⟩ := id hM1.1
    refine g_iload (pc := 156) 0 dX12_search_156 rfl ?_
    refine g_iload (pc := 158) 1 dX12_search_158 rfl ?_
    refine n_icmp_ge (pc := 160) 185 dX12_search_160 (by decide) (by omega) (by omega) (fun hb9 => ?_) (fun hb9 => ?_)
    · exact absurd hb9 (by omega)
    · refine g_aload_n (pc := 163) 6 dX12_search_163 rfl rfl ?_
      refine g_iload (pc := 164) 0 dX12_search_164 rfl ?_
      refine g_iload_n (pc := 166) 5 dX12_search_166 rfl rfl ?_
      refine g_iload_n (pc := 167) 4 dX12_search_167 rfl rfl ?_
      refine g_callV (pc := 168) [.int (nI n), .int (nI d), .int (nI h)] dX12_search_168 cv_X12_326.1 cv_X12_326.2.1 cv_X12_326.2.2.1 cv_X12_326.2.2.2 cY0 rfl rfl (Nat.le_of_ble_eq_true rfl) (by decide) (by decide) (mp_layBox _ (d := d) (h := h) (n := n) cY0 c18 (by omega) hde hh (by omega)) ?_
      rintro _ w2 ⟨rfl, b', hbb, rfl⟩
      obtain ⟨hM2, hF2⟩ := hM1.bx (b' := b') c18
      have c182 : (w1.set (Y + 18) (aI 0 13 b'))[Y + 18]? = some (aI 0 13 b') := lk_eq c18
      refine g_aload_n (pc := 171) 6 dX12_search_171 rfl rfl ?_
      refine g_iload_n (pc := 172) 5 dX12_search_172 rfl rfl ?_
      refine g_iload_n (pc := 173) 3 dX12_search_173 rfl rfl ?_
      refine g_iload (pc := 174) 2 dX12_search_174 rfl ?_
      refine g_callV (pc := 176) [.int (nI d), .int (nI lv), .int (nI v)] dX12_search_176 cv_X12_329.1 cv_X12_329.2.1 cv_X12_329.2.2.1 cv_X12_329.2.2.2 (lk_ne (show (Y + 18) ≠ Y by omega) cY0) rfl rfl (Nat.le_of_ble_eq_true rfl) (by decide) (by decide) (mq_looks _ (h := h) (i := n) hM2 c182 hbb (by omega) hh hlv hv hle.1 hle.2 (by omega)) ?_
      rintro _ w3 ⟨rfl, ia', on', E', hst, h1, h2, hM3, hF3⟩
      refine n_iinc (pc := 179) (c := 1) [(6, .int (nI (n + 1))), (5, .int (nI sz)), (4, .int (nI v)), (3, .int (nI lv)), (2, .int (nI h)), (1, .int (nI d)), (0, .ref Y)] 0 dX12_search_179 rfl (by decide) (by decide) rfl ?_
      refine g_goto (pc := 182) 156 dX12_search_182 (by decide) ?_
      exact GP.lsub _ (by simp) (ih (n + 1) ia' on' E' w3 (by omega) ⟨ia, on, E, hS, hst⟩ hM3 (hF1.tr (hF2.tr hF3)))
theorem L10 : (10 : Int64).toInt = 10 := by decide
theorem L1k : (1000 : Int64).toInt = 1000 := by decide
theorem mq_search (w : Wd) {Y tl : Nat} {tb : Nat → Int32} {fa st : Int32} {rf : Nat → Nat} {sh : SV} {pn : Nat} {pk : Nat → Nat} {ps : Nat → SV} {im : Nat → Option SV} (hM : mdC w Y tl tb fa st rf sh pn pk ps im) {x y z u : Int32} : EX12_search [.ref Y, .int x, .int y, .int z, .int u] w (fun r w' => (¬ okSe x y z u ∧ rfM (-1) 0 w Y tl tb fa rf sh pn pk ps im r w') ∨ (∃ d h lv v, x = nI d ∧ y = nI h ∧ z = nI lv ∧ u = nI v ∧ okSe x y z u ∧ 3125 < (2 * h + 1) ^ (d / 2) ∧ rfM (-4) 2 w Y tl tb fa rf sh pn pk ps im r w') ∨ (∃ d h lv v sz ia on E, x = nI d ∧ y = nI h ∧ z = nI lv ∧ u = nI v ∧ okSe x y z u ∧ (2 * h + 1) ^ (d / 2) = sz ∧ sz ≤ 3125 ∧ srM d h lv v sz ia on E ∧ r = some (.int (nI ia)) ∧ mdC w' Y tl tb fa (nI 0) rf (sh.1, (d, ia, sz, on, min ia 30, E)) (min (pn + 1) 8) (psh pn pk 7) (psh pn ps sh) im ∧ FR (modS Y) w w')) := by
  refine EP.of (plainFor_of_name (by decide)) [(0, .ref Y), (1, .int x), (2, .int y), (3, .int z), (4, .int u)] rfl (Nat.le_of_ble_eq_true rfl) (fun r wf h => by rcases h with ⟨-, rfl, -⟩ | ⟨d, h, lv, v, -, -, -, -, -, -, rfl, -⟩ | ⟨d, h, lv, v, sz, ia, on, E, -, -, -, -, -, -, -, -, rfl, -⟩ <;> trivial) ?_
  show BX12_search w _ w 0 [(0, .ref Y), (1, .int x), (2, .int y), (3, .int z), (4, .int u)] []
  obtain ⟨⟨th, dg, dd, ld, be, ib, re, ig, hY⟩, ⟨⟨g1, a1, b1⟩, ⟨g2, a2, b2⟩, ⟨g3, g4, a3, a4, b3, b4⟩, ⟨g5, g6, a5, a6, b5⟩, ⟨g11, a11, b11⟩, ⟨g17, a17, b17⟩⟩, ⟨g7, g8, g9, g10, g12, g13, g14, g18, g19, g20, g21, a7, a8, a9, a10, a12, a13, a14, a18, a19, a20, a21⟩, ⟨g15, g16, a15, a16, b15⟩⟩ := id hM
  refine g_aload_n (pc := 0) 0 dX12_search_0 rfl rfl ?_
  refine g_iconst (pc := 1) (v := nI 0) dX12_search_1 (by decide) ?_
  refine g_put (pc := 2) (.int (nI 0) :: .int st :: .ref (Y + 1) :: .ref (Y + 2) :: .ref (Y + 3) :: .ref (Y + 4) :: .int (nI pn) :: .ref (Y + 5) :: .ref (Y + 6) :: .ref (Y + 7) :: .int dg :: .ref (Y + 8) :: .int dd :: .ref (Y + 9) :: .ref (Y + 10) :: .ref (Y + 11) :: .ref (Y + 12) :: .int ld :: .int be :: .int ib :: .ref (Y + 13) :: .ref (Y + 14) :: .ref (Y + 15) :: .ref (Y + 16) :: .ref (Y + 17) :: .int (nI tl) :: .int fa :: .int re :: .int ig :: .ref (Y + 18) :: .ref (Y + 19) :: .ref (Y + 20) :: .ref (Y + 21) :: []) dX12_search_2 fk_X12_83 hY (Nat.le_of_ble_eq_true rfl) rfl rfl ?_
  refine g_iload_n (pc := 5) 1 dX12_search_5 rfl rfl ?_
  refine g_i2l (pc := 6) dX12_search_6 ?_
  refine g_ldc2 (pc := 7) kc_X12_318 dX12_search_7 ?_
  refine g_ldc2 (pc := 10) kc_X12_320 dX12_search_10 ?_
  refine g_callS (pc := 13) [.long x.toInt64, .long (2), .long (10)] dX12_search_13 cs_X12_103.1 cs_X12_103.2 rfl rfl (Nat.le_of_ble_eq_true rfl) (by decide) (by decide) (mp_in _) ?_
  rintro _ w9 (⟨rfl, h1, e9⟩ | ⟨rfl, h1, e9⟩)
  · refine GP.weq _ e9 ?_
    rw [IL, L10, L2n] at h1
    obtain ⟨d, rfl, lo9d, up9d⟩ : ∃ k : Nat, x = nI k ∧ 2 ≤ k ∧ k ≤ 10 := ⟨x.toInt.toNat, nI_toNat (by omega), by omega, by omega⟩
    have ed : (nI d).toInt = (d : Int) := nI_toInt (by omega)
    refine n_if_eq (pc := 16) 64 dX12_search_16 (by decide) (by omega) (fun hd9 => ?_) (fun hd9 => ?_)
    · exact absurd hd9 (by decide)
    · refine g_iload_n (pc := 19) 1 dX12_search_19 rfl rfl ?_
      refine g_iconst (pc := 20) (v := nI 2) dX12_search_20 (by decide) ?_
      refine n_irem (pc := 21) dX12_search_21 (by omega) (by omega) (by omega) ?_
      refine n_if_ne (pc := 22) 64 dX12_search_22 (by decide) (by omega) (fun hev => ?_) (fun hev => ?_)
      · refine g_aload_n (pc := 64) 0 dX12_search_64 rfl rfl ?_
        refine g_iconst (pc := 65) (v := -1) dX12_search_65 (by decide) ?_
        obtain ⟨wr, ewr⟩ : ∃ wy : Wd, wy = (w.set Y (.inr (11, .int (nI 0) :: .int st :: .ref (Y + 1) :: .ref (Y + 2) :: .ref (Y + 3) :: .ref (Y + 4) :: .int (nI pn) :: .ref (Y + 5) :: .ref (Y + 6) :: .ref (Y + 7) :: .int dg :: .ref (Y + 8) :: .int dd :: .ref (Y + 9) :: .ref (Y + 10) :: .ref (Y + 11) :: .ref (Y + 12) :: .int ld :: .int be :: .int ib :: .ref (Y + 13) :: .ref (Y + 14) :: .ref (Y + 15) :: .ref (Y + 16) :: .ref (Y + 17) :: .int (nI tl) :: .int fa :: .int re :: .int ig :: .ref (Y + 18) :: .ref (Y + 19) :: .ref (Y + 20) :: .ref (Y + 21) :: []))) := ⟨_, rfl⟩
        refine GP.weq wr ewr.symm ?_
        have hMr : mdC wr Y tl tb fa st rf sh pn pk ps im := by rw [ewr]; exact ⟨⟨_, _, _, _, _, _, _, _, (lk_eq hY)⟩, ⟨⟨_, (lk_ne (show Y ≠ (Y + 1) by omega) a1), b1⟩, ⟨_, (lk_ne (show Y ≠ (Y + 2) by omega) a2), b2⟩, ⟨_, _, (lk_ne (show Y ≠ (Y + 3) by omega) a3), (lk_ne (show Y ≠ (Y + 4) by omega) a4), b3, b4⟩, ⟨_, _, (lk_ne (show Y ≠ (Y + 5) by omega) a5), (lk_ne (show Y ≠ (Y + 6) by omega) a6), b5⟩, ⟨_, (lk_ne (show Y ≠ (Y + 11) by omega) a11), b11⟩, ⟨_, (lk_ne (show Y ≠ (Y + 17) by omega) a17), b17⟩⟩, ⟨_, _, _, _, _, _, _, _, _, _, _, (lk_ne (show Y ≠ (Y + 7) by omega) a7), (lk_ne (show Y ≠ (Y + 8) by omega) a8), (lk_ne (show Y ≠ (Y + 9) by omega) a9), (lk_ne (show Y ≠ (Y + 10) by omega) a10), (lk_ne (show Y ≠ (Y + 12) by omega) a12), (lk_ne (show Y ≠ (Y + 13) by omega) a13), (lk_ne (show Y ≠ (Y + 14) by omega) a14), (lk_ne (show Y ≠ (Y + 18) by omega) a18), (lk_ne (show Y ≠ (Y + 19) by omega) a19), (lk_ne (show Y ≠ (Y + 20) by omega) a20), (lk_ne (show Y ≠ (Y + 21) by omega) a21)⟩, ⟨_, _, (lk_ne (show Y ≠ (Y + 15) by omega) a15), (lk_ne (show Y ≠ (Y + 16) by omega) a16), b15⟩⟩
        have hFr : FR (modS Y) w wr := by rw [ewr]; exact (FR.st (c' := .inr (11, .int (nI 0) :: .int st :: .ref (Y + 1) :: .ref (Y + 2) :: .ref (Y + 3) :: .ref (Y + 4) :: .int (nI pn) :: .ref (Y + 5) :: .ref (Y + 6) :: .ref (Y + 7) :: .int dg :: .ref (Y + 8) :: .int dd :: .ref (Y + 9) :: .ref (Y + 10) :: .ref (Y + 11) :: .ref (Y + 12) :: .int ld :: .int be :: .int ib :: .ref (Y + 13) :: .ref (Y + 14) :: .ref (Y + 15) :: .ref (Y + 16) :: .ref (Y + 17) :: .int (nI tl) :: .int fa :: .int re :: .int ig :: .ref (Y + 18) :: .ref (Y + 19) :: .ref (Y + 20) :: .ref (Y + 21) :: [])) FR.rf hY rfl (by unfold modS; omega))
        refine g_callV (pc := 66) [.int (-1)] dX12_search_66 cv_X12_96.1 cv_X12_96.2.1 cv_X12_96.2.2.1 cv_X12_96.2.2.2 (by rw [ewr]; exact (lk_eq hY)) rfl rfl (Nat.le_of_ble_eq_true rfl) (by decide) (by decide) (mq_refuse1 _ hMr) ?_
        rintro _ wq ⟨rfl, hR⟩
        exact g_iret (pc := 69) dX12_search_69 (Or.inl ⟨fun g => by have h9 := g.1.2.2; rw [ed] at h9; omega, ⟨rfl, hR.1, hFr.tr hR.2⟩⟩)
      · refine g_iload_n (pc := 25) 2 dX12_search_25 rfl rfl ?_
        refine g_i2l (pc := 26) dX12_search_26 ?_
        refine g_lconst (pc := 27) (v := 1) dX12_search_27 (by decide) ?_
        refine g_ldc2 (pc := 28) kc_X12_322 dX12_search_28 ?_
        refine g_callS (pc := 31) [.long y.toInt64, .long 1, .long (3)] dX12_search_31 cs_X12_103.1 cs_X12_103.2 rfl rfl (Nat.le_of_ble_eq_true rfl) (by decide) (by decide) (mp_in _) ?_
        rintro _ w9 (⟨rfl, h2, e9⟩ | ⟨rfl, h2, e9⟩)
        · refine GP.weq _ e9 ?_
          rw [IL, L3n, L1] at h2
          obtain ⟨h, rfl, lo9h, up9h⟩ : ∃ k : Nat, y = nI k ∧ 1 ≤ k ∧ k ≤ 3 := ⟨y.toInt.toNat, nI_toNat (by omega), by omega, by omega⟩
          have eh : (nI h).toInt = (h : Int) := nI_toInt (by omega)
          refine n_if_eq (pc := 34) 64 dX12_search_34 (by decide) (by omega) (fun hd9 => ?_) (fun hd9 => ?_)
          · exact absurd hd9 (by decide)
          · refine g_iload_n (pc := 37) 3 dX12_search_37 rfl rfl ?_
            refine g_i2l (pc := 38) dX12_search_38 ?_
            refine g_lconst (pc := 39) (v := 0) dX12_search_39 (by decide) ?_
            refine g_ldc2 (pc := 40) kc_X12_324 dX12_search_40 ?_
            refine g_callS (pc := 43) [.long z.toInt64, .long 0, .long (6)] dX12_search_43 cs_X12_103.1 cs_X12_103.2 rfl rfl (Nat.le_of_ble_eq_true rfl) (by decide) (by decide) (mp_in _) ?_
            rintro _ w9 (⟨rfl, h3, e9⟩ | ⟨rfl, h3, e9⟩)
            · refine GP.weq _ e9 ?_
              rw [IL, L6, L00] at h3
              obtain ⟨lv, rfl, lo9lv, up9lv⟩ : ∃ k : Nat, z = nI k ∧ 0 ≤ k ∧ k ≤ 6 := ⟨z.toInt.toNat, nI_toNat (by omega), by omega, by omega⟩
              have elv : (nI lv).toInt = (lv : Int) := nI_toInt (by omega)
              refine n_if_eq (pc := 46) 64 dX12_search_46 (by decide) (by omega) (fun hd9 => ?_) (fun hd9 => ?_)
              · exact absurd hd9 (by decide)
              · refine g_iload (pc := 49) 4 dX12_search_49 rfl ?_
                refine g_i2l (pc := 51) dX12_search_51 ?_
                refine g_ldc2 (pc := 52) kc_X12_212 dX12_search_52 ?_
                refine g_ldc2 (pc := 55) kc_X12_130 dX12_search_55 ?_
                refine g_callS (pc := 58) [.long u.toInt64, .long (1000), .long (9999)] dX12_search_58 cs_X12_103.1 cs_X12_103.2 rfl rfl (Nat.le_of_ble_eq_true rfl) (by decide) (by decide) (mp_in _) ?_
                rintro _ w9 (⟨rfl, h4, e9⟩ | ⟨rfl, h4, e9⟩)
                · refine GP.weq _ e9 ?_
                  rw [IL, L9p, L1k] at h4
                  obtain ⟨v, rfl, lo9v, up9v⟩ : ∃ k : Nat, u = nI k ∧ 1000 ≤ k ∧ k ≤ 9999 := ⟨u.toInt.toNat, nI_toNat (by omega), by omega, by omega⟩
                  have ev : (nI v).toInt = (v : Int) := nI_toInt (by omega)
                  refine n_if_ne (pc := 61) 70 dX12_search_61 (by decide) (by omega) (fun hd9 => ?_) (fun hd9 => ?_)
                  · have hok : okSe (nI d) (nI h) (nI lv) (nI v) := ⟨⟨by omega, by omega, by omega⟩, ⟨by omega, by omega⟩, ⟨by omega, by omega⟩, by omega, by omega⟩
                    have hd10 : d ≤ 10 := by omega
                    have hh3 : h ≤ 3 := by omega
                    refine g_iconst (pc := 70) (v := nI 1) dX12_search_70 (by decide) ?_
                    refine g_istore (pc := 71) [(5, .int (nI 1)), (0, .ref Y), (1, .int (nI d)), (2, .int (nI h)), (3, .int (nI lv)), (4, .int (nI v))] dX12_search_71 (by decide) rfl ?_
                    refine g_iconst (pc := 73) (v := nI 0) dX12_search_73 (by decide) ?_
                    refine g_istore (pc := 74) [(6, .int (nI 0)), (5, .int (nI 1)), (0, .ref Y), (1, .int (nI d)), (2, .int (nI h)), (3, .int (nI lv)), (4, .int (nI v))] dX12_search_74 (by decide) rfl ?_
                    obtain ⟨w1, ew1⟩ : ∃ wy : Wd, wy = (w.set Y (.inr (11, .int (nI 0) :: .int st :: .ref (Y + 1) :: .ref (Y + 2) :: .ref (Y + 3) :: .ref (Y + 4) :: .int (nI pn) :: .ref (Y + 5) :: .ref (Y + 6) :: .ref (Y + 7) :: .int dg :: .ref (Y + 8) :: .int dd :: .ref (Y + 9) :: .ref (Y + 10) :: .ref (Y + 11) :: .ref (Y + 12) :: .int ld :: .int be :: .int ib :: .ref (Y + 13) :: .ref (Y + 14) :: .ref (Y + 15) :: .ref (Y + 16) :: .ref (Y + 17) :: .int (nI tl) :: .int fa :: .int re :: .int ig :: .ref (Y + 18) :: .ref (Y + 19) :: .ref (Y + 20) :: .ref (Y + 21) :: []))) := ⟨_, rfl⟩
                    refine GP.weq w1 ew1.symm ?_
                    have hMb : mdC w1 Y tl tb fa st rf sh pn pk ps im := by rw [ew1]; exact ⟨⟨_, _, _, _, _, _, _, _, (lk_eq hY)⟩, ⟨⟨_, (lk_ne (show Y ≠ (Y + 1) by omega) a1), b1⟩, ⟨_, (lk_ne (show Y ≠ (Y + 2) by omega) a2), b2⟩, ⟨_, _, (lk_ne (show Y ≠ (Y + 3) by omega) a3), (lk_ne (show Y ≠ (Y + 4) by omega) a4), b3, b4⟩, ⟨_, _, (lk_ne (show Y ≠ (Y + 5) by omega) a5), (lk_ne (show Y ≠ (Y + 6) by omega) a6), b5⟩, ⟨_, (lk_ne (show Y ≠ (Y + 11) by omega) a11), b11⟩, ⟨_, (lk_ne (show Y ≠ (Y + 17) by omega) a17), b17⟩⟩, ⟨_, _, _, _, _, _, _, _, _, _, _, (lk_ne (show Y ≠ (Y + 7) by omega) a7), (lk_ne (show Y ≠ (Y + 8) by omega) a8), (lk_ne (show Y ≠ (Y + 9) by omega) a9), (lk_ne (show Y ≠ (Y + 10) by omega) a10), (lk_ne (show Y ≠ (Y + 12) by omega) a12), (lk_ne (show Y ≠ (Y + 13) by omega) a13), (lk_ne (show Y ≠ (Y + 14) by omega) a14), (lk_ne (show Y ≠ (Y + 18) by omega) a18), (lk_ne (show Y ≠ (Y + 19) by omega) a19), (lk_ne (show Y ≠ (Y + 20) by omega) a20), (lk_ne (show Y ≠ (Y + 21) by omega) a21)⟩, ⟨_, _, (lk_ne (show Y ≠ (Y + 15) by omega) a15), (lk_ne (show Y ≠ (Y + 16) by omega) a16), b15⟩⟩
                    have hFb : FR (modS Y) w w1 := by rw [ew1]; exact (FR.st (c' := .inr (11, .int (nI 0) :: .int st :: .ref (Y + 1) :: .ref (Y + 2) :: .ref (Y + 3) :: .ref (Y + 4) :: .int (nI pn) :: .ref (Y + 5) :: .ref (Y + 6) :: .ref (Y + 7) :: .int dg :: .ref (Y + 8) :: .int dd :: .ref (Y + 9) :: .ref (Y + 10) :: .ref (Y + 11) :: .ref (Y + 12) :: .int ld :: .int be :: .int ib :: .ref (Y + 13) :: .ref (Y + 14) :: .ref (Y + 15) :: .ref (Y + 16) :: .ref (Y + 17) :: .int (nI tl) :: .int fa :: .int re :: .int ig :: .ref (Y + 18) :: .ref (Y + 19) :: .ref (Y + 20) :: .ref (Y + 21) :: [])) FR.rf hY rfl (by unfold modS; omega))
                    have c2b : w1[Y + 2]? = some (aI 0 626 g2) := by rw [ew1]; exact (lk_ne (show Y ≠ (Y + 2) by omega) a2)
                    have c3b : w1[Y + 3]? = some (aI 0 5008 g3) := by rw [ew1]; exact (lk_ne (show Y ≠ (Y + 3) by omega) a3)
                    have c4b : w1[Y + 4]? = some (aI 0 8 g4) := by rw [ew1]; exact (lk_ne (show Y ≠ (Y + 4) by omega) a4)
                    have cYb : w1[Y]? = some (.inr (11, .int (nI 0) :: .int st :: .ref (Y + 1) :: .ref (Y + 2) :: .ref (Y + 3) :: .ref (Y + 4) :: .int (nI pn) :: .ref (Y + 5) :: .ref (Y + 6) :: .ref (Y + 7) :: .int dg :: .ref (Y + 8) :: .int dd :: .ref (Y + 9) :: .ref (Y + 10) :: .ref (Y + 11) :: .ref (Y + 12) :: .int ld :: .int be :: .int ib :: .ref (Y + 13) :: .ref (Y + 14) :: .ref (Y + 15) :: .ref (Y + 16) :: .ref (Y + 17) :: .int (nI tl) :: .int fa :: .int re :: .int ig :: .ref (Y + 18) :: .ref (Y + 19) :: .ref (Y + 20) :: .ref (Y + 21) :: [])) := by rw [ew1]; exact (lk_eq hY)
                    obtain ⟨⟨thb, dgb, ddb, ldb, beb, ibb, reb, igb, hYb⟩, ⟨⟨g1b, a1b, b1b⟩, ⟨g2b, a2b, b2b⟩, ⟨g3b, g4b, a3b, a4b, b3b, b4b⟩, ⟨g5b, g6b, a5b, a6b, b5b⟩, ⟨g11b, a11b, b11b⟩, ⟨g17b, a17b, b17b⟩⟩, ⟨g7b, g8b, g9b, g10b, g12b, g13b, g14b, g18b, g19b, g20b, g21b, a7b, a8b, a9b, a10b, a12b, a13b, a14b, a18b, a19b, a20b, a21b⟩, ⟨g15b, g16b, a15b, a16b, b15b⟩⟩ := id hMb
                    refine GP.lsub _ (by simp) (se_all (Y := Y) (d := d) (h := h) (lv := lv) (v := v) hd10 hh3 ?_ (d / 2) 0 (by omega))
                    obtain ⟨sz, hsz⟩ : ∃ sz, (2 * h + 1) ^ (d / 2) = sz := ⟨_, rfl⟩
                    rw [hsz]
                    have hszb : sz ≤ 20000 := by rw [← hsz]; exact Nat.le_trans (Nat.pow_le_pow_left (show 2 * h + 1 ≤ 7 by omega) _) (Nat.le_trans (Nat.pow_le_pow_right (by decide) (show d / 2 ≤ 5 by omega)) (by decide))
                    refine g_iload (pc := 100) 0 dX12_search_100 rfl ?_
                    refine g_sipush (pc := 102) (v := nI 3125) dX12_search_102 (by decide) ?_
                    refine n_icmp_le (pc := 105) 115 dX12_search_105 (by decide) (by omega) (by omega) (fun hbig => ?_) (fun hbig => ?_)
                    · refine g_aload_n (pc := 115) 5 dX12_search_115 rfl rfl ?_
                      refine g_bipush (pc := 116) (v := nI 7) dX12_search_116 (by decide) ?_
                      refine g_callV (pc := 118) [.int (nI 7)] dX12_search_118 cv_X12_139.1 cv_X12_139.2.1 cv_X12_139.2.2.1 cv_X12_139.2.2.2 cYb rfl rfl (Nat.le_of_ble_eq_true rfl) (by decide) (by decide) (mp_remember _ (kd := 7) cYb c2b c3b c4b b3) ?_
                      rintro _ w9 ⟨rfl, e9⟩
                      refine GP.weq _ e9 ?_
                      refine g_aload_n (pc := 121) 5 dX12_search_121 rfl rfl ?_
                      refine g_get (pc := 122) dX12_search_122 fk_X12_13 (lk_eq (lk_ne (show (Y + 4) ≠ Y by omega) (lk_ne (show (Y + 3) ≠ Y by omega) cYb))) rfl ?_
                      refine g_bipush (pc := 125) (v := nI 112) dX12_search_125 (by decide) ?_
                      refine g_iconst (pc := 127) (v := nI 0) dX12_search_127 (by decide) ?_
                      refine g_iast (pc := 128) 112 dX12_search_128 (lk_ne (show Y ≠ (Y + 2) by omega) (lk_ne (show (Y + 4) ≠ (Y + 2) by omega) (lk_ne (show (Y + 3) ≠ (Y + 2) by omega) c2b))) (IXn (by omega) (by omega)) ?_
                      refine g_aload_n (pc := 129) 5 dX12_search_129 rfl rfl ?_
                      refine g_get (pc := 130) dX12_search_130 fk_X12_13 (lk_ne (show (Y + 2) ≠ Y by omega) (lk_eq (lk_ne (show (Y + 4) ≠ Y by omega) (lk_ne (show (Y + 3) ≠ Y by omega) cYb)))) rfl ?_
                      refine g_bipush (pc := 133) (v := nI 113) dX12_search_133 (by decide) ?_
                      refine g_iconst (pc := 135) (v := nI 0) dX12_search_135 (by decide) ?_
                      refine g_iast (pc := 136) 113 dX12_search_136 (lk_eq (lk_ne (show Y ≠ (Y + 2) by omega) (lk_ne (show (Y + 4) ≠ (Y + 2) by omega) (lk_ne (show (Y + 3) ≠ (Y + 2) by omega) c2b)))) (IXn (by omega) (by omega)) ?_
                      refine GP.weq ((((w1.set (Y + 3) (aI 0 5008 (rmU g2 g3 pn))).set (Y + 4) (aI 0 8 (rmS g4 pn 7))).set Y (.inr (11, .int (nI 0) :: .int st :: .ref (Y + 1) :: .ref (Y + 2) :: .ref (Y + 3) :: .ref (Y + 4) :: .int (nI (min (pn + 1) 8)) :: .ref (Y + 5) :: .ref (Y + 6) :: .ref (Y + 7) :: .int dg :: .ref (Y + 8) :: .int dd :: .ref (Y + 9) :: .ref (Y + 10) :: .ref (Y + 11) :: .ref (Y + 12) :: .int ld :: .int be :: .int ib :: .ref (Y + 13) :: .ref (Y + 14) :: .ref (Y + 15) :: .ref (Y + 16) :: .ref (Y + 17) :: .int (nI tl) :: .int fa :: .int re :: .int ig :: .ref (Y + 18) :: .ref (Y + 19) :: .ref (Y + 20) :: .ref (Y + 21) :: []))).set (Y + 2) (aI 0 626 (upd (upd g2 112 (nI 0)) 113 (nI 0)))) (by rw [List.set_set]) ?_
                      refine g_aload_n (pc := 137) 5 dX12_search_137 rfl rfl ?_
                      refine g_get (pc := 138) dX12_search_138 fk_X12_13 (lk_ne (show (Y + 2) ≠ Y by omega) (lk_eq (lk_ne (show (Y + 4) ≠ Y by omega) (lk_ne (show (Y + 3) ≠ Y by omega) cYb)))) rfl ?_
                      refine g_bipush (pc := 141) (v := nI 114) dX12_search_141 (by decide) ?_
                      refine g_iconst (pc := 143) (v := nI 0) dX12_search_143 (by decide) ?_
                      refine g_iast (pc := 144) 114 dX12_search_144 (lk_eq (lk_ne (show Y ≠ (Y + 2) by omega) (lk_ne (show (Y + 4) ≠ (Y + 2) by omega) (lk_ne (show (Y + 3) ≠ (Y + 2) by omega) c2b)))) (IXn (by omega) (by omega)) ?_
                      refine GP.weq ((((w1.set (Y + 3) (aI 0 5008 (rmU g2 g3 pn))).set (Y + 4) (aI 0 8 (rmS g4 pn 7))).set Y (.inr (11, .int (nI 0) :: .int st :: .ref (Y + 1) :: .ref (Y + 2) :: .ref (Y + 3) :: .ref (Y + 4) :: .int (nI (min (pn + 1) 8)) :: .ref (Y + 5) :: .ref (Y + 6) :: .ref (Y + 7) :: .int dg :: .ref (Y + 8) :: .int dd :: .ref (Y + 9) :: .ref (Y + 10) :: .ref (Y + 11) :: .ref (Y + 12) :: .int ld :: .int be :: .int ib :: .ref (Y + 13) :: .ref (Y + 14) :: .ref (Y + 15) :: .ref (Y + 16) :: .ref (Y + 17) :: .int (nI tl) :: .int fa :: .int re :: .int ig :: .ref (Y + 18) :: .ref (Y + 19) :: .ref (Y + 20) :: .ref (Y + 21) :: []))).set (Y + 2) (aI 0 626 (upd (upd (upd g2 112 (nI 0)) 113 (nI 0)) 114 (nI 0)))) (by rw [List.set_set]) ?_
                      refine g_aload_n (pc := 145) 5 dX12_search_145 rfl rfl ?_
                      refine g_get (pc := 146) dX12_search_146 fk_X12_13 (lk_ne (show (Y + 2) ≠ Y by omega) (lk_eq (lk_ne (show (Y + 4) ≠ Y by omega) (lk_ne (show (Y + 3) ≠ Y by omega) cYb)))) rfl ?_
                      refine g_bipush (pc := 149) (v := nI 115) dX12_search_149 (by decide) ?_
                      refine g_iconst (pc := 151) (v := nI 0) dX12_search_151 (by decide) ?_
                      refine g_iast (pc := 152) 115 dX12_search_152 (lk_eq (lk_ne (show Y ≠ (Y + 2) by omega) (lk_ne (show (Y + 4) ≠ (Y + 2) by omega) (lk_ne (show (Y + 3) ≠ (Y + 2) by omega) c2b)))) (IXn (by omega) (by omega)) ?_
                      refine GP.weq ((((w1.set (Y + 3) (aI 0 5008 (rmU g2 g3 pn))).set (Y + 4) (aI 0 8 (rmS g4 pn 7))).set Y (.inr (11, .int (nI 0) :: .int st :: .ref (Y + 1) :: .ref (Y + 2) :: .ref (Y + 3) :: .ref (Y + 4) :: .int (nI (min (pn + 1) 8)) :: .ref (Y + 5) :: .ref (Y + 6) :: .ref (Y + 7) :: .int dg :: .ref (Y + 8) :: .int dd :: .ref (Y + 9) :: .ref (Y + 10) :: .ref (Y + 11) :: .ref (Y + 12) :: .int ld :: .int be :: .int ib :: .ref (Y + 13) :: .ref (Y + 14) :: .ref (Y + 15) :: .ref (Y + 16) :: .ref (Y + 17) :: .int (nI tl) :: .int fa :: .int re :: .int ig :: .ref (Y + 18) :: .ref (Y + 19) :: .ref (Y + 20) :: .ref (Y + 21) :: []))).set (Y + 2) (aI 0 626 (upd (upd (upd (upd g2 112 (nI 0)) 113 (nI 0)) 114 (nI 0)) 115 (nI 0)))) (by rw [List.set_set]) ?_
                      refine g_iconst (pc := 153) (v := nI 0) dX12_search_153 (by decide) ?_
                      refine g_istore (pc := 154) [(6, .int (nI 0)), (5, .int (nI sz)), (4, .int (nI v)), (3, .int (nI lv)), (2, .int (nI h)), (1, .int (nI d)), (0, .ref Y)] dX12_search_154 (by decide) rfl ?_
                      have hrz : rowR (upd (upd (upd (upd g2 112 (nI 0)) 113 (nI 0)) 114 (nI 0)) 115 (nI 0)) (sh.1, (d, 0, 0, 0, 0, fun _ => 0)) := row_start (g := g2) (FV9 := sh.2) b2 (by omega) (fun i hi => by rw [upd_n (by omega), upd_n (by omega), upd_n (by omega), upd_n (by omega)]) (by rw [upd_n (by decide), upd_n (by decide), upd_n (by decide), upd_s]) (by rw [upd_n (by decide), upd_n (by decide), upd_s]) (by rw [upd_n (by decide), upd_s]) upd_s
                      obtain ⟨w3, ew3⟩ : ∃ wy : Wd, wy = ((((w1.set (Y + 3) (aI 0 5008 (rmU g2 g3 pn))).set (Y + 4) (aI 0 8 (rmS g4 pn 7))).set Y (.inr (11, .int (nI 0) :: .int st :: .ref (Y + 1) :: .ref (Y + 2) :: .ref (Y + 3) :: .ref (Y + 4) :: .int (nI (min (pn + 1) 8)) :: .ref (Y + 5) :: .ref (Y + 6) :: .ref (Y + 7) :: .int dg :: .ref (Y + 8) :: .int dd :: .ref (Y + 9) :: .ref (Y + 10) :: .ref (Y + 11) :: .ref (Y + 12) :: .int ld :: .int be :: .int ib :: .ref (Y + 13) :: .ref (Y + 14) :: .ref (Y + 15) :: .ref (Y + 16) :: .ref (Y + 17) :: .int (nI tl) :: .int fa :: .int re :: .int ig :: .ref (Y + 18) :: .ref (Y + 19) :: .ref (Y + 20) :: .ref (Y + 21) :: []))).set (Y + 2) (aI 0 626 (upd (upd (upd (upd g2 112 (nI 0)) 113 (nI 0)) 114 (nI 0)) 115 (nI 0)))) := ⟨_, rfl⟩
                      refine GP.weq w3 ew3.symm ?_
                      have hM3 : mdC w3 Y tl tb fa st rf (sh.1, (d, 0, 0, 0, 0, fun _ => 0)) (min (pn + 1) 8) (psh pn pk 7) (psh pn ps sh) im := by rw [ew3]; exact ⟨⟨_, _, _, _, _, _, _, _, (lk_ne (show (Y + 2) ≠ Y by omega) (lk_eq (lk_ne (show (Y + 4) ≠ Y by omega) (lk_ne (show (Y + 3) ≠ Y by omega) cYb))))⟩, ⟨⟨_, (lk_ne (show (Y + 2) ≠ (Y + 1) by omega) (lk_ne (show Y ≠ (Y + 1) by omega) (lk_ne (show (Y + 4) ≠ (Y + 1) by omega) (lk_ne (show (Y + 3) ≠ (Y + 1) by omega) a1b)))), b1b⟩, ⟨_, (lk_eq (lk_ne (show Y ≠ (Y + 2) by omega) (lk_ne (show (Y + 4) ≠ (Y + 2) by omega) (lk_ne (show (Y + 3) ≠ (Y + 2) by omega) c2b)))), hrz⟩, ⟨_, _, (lk_ne (show (Y + 2) ≠ (Y + 3) by omega) (lk_ne (show Y ≠ (Y + 3) by omega) (lk_ne (show (Y + 4) ≠ (Y + 3) by omega) (lk_eq c3b)))), (lk_ne (show (Y + 2) ≠ (Y + 4) by omega) (lk_ne (show Y ≠ (Y + 4) by omega) (lk_eq (lk_ne (show (Y + 3) ≠ (Y + 4) by omega) c4b)))), (by omega), (rm_und b3 b4 b2)⟩, ⟨_, _, (lk_ne (show (Y + 2) ≠ (Y + 5) by omega) (lk_ne (show Y ≠ (Y + 5) by omega) (lk_ne (show (Y + 4) ≠ (Y + 5) by omega) (lk_ne (show (Y + 3) ≠ (Y + 5) by omega) a5b)))), (lk_ne (show (Y + 2) ≠ (Y + 6) by omega) (lk_ne (show Y ≠ (Y + 6) by omega) (lk_ne (show (Y + 4) ≠ (Y + 6) by omega) (lk_ne (show (Y + 3) ≠ (Y + 6) by omega) a6b)))), b5b⟩, ⟨_, (lk_ne (show (Y + 2) ≠ (Y + 11) by omega) (lk_ne (show Y ≠ (Y + 11) by omega) (lk_ne (show (Y + 4) ≠ (Y + 11) by omega) (lk_ne (show (Y + 3) ≠ (Y + 11) by omega) a11b)))), b11b⟩, ⟨_, (lk_ne (show (Y + 2) ≠ (Y + 17) by omega) (lk_ne (show Y ≠ (Y + 17) by omega) (lk_ne (show (Y + 4) ≠ (Y + 17) by omega) (lk_ne (show (Y + 3) ≠ (Y + 17) by omega) a17b)))), b17b⟩⟩, ⟨_, _, _, _, _, _, _, _, _, _, _, (lk_ne (show (Y + 2) ≠ (Y + 7) by omega) (lk_ne (show Y ≠ (Y + 7) by omega) (lk_ne (show (Y + 4) ≠ (Y + 7) by omega) (lk_ne (show (Y + 3) ≠ (Y + 7) by omega) a7b)))), (lk_ne (show (Y + 2) ≠ (Y + 8) by omega) (lk_ne (show Y ≠ (Y + 8) by omega) (lk_ne (show (Y + 4) ≠ (Y + 8) by omega) (lk_ne (show (Y + 3) ≠ (Y + 8) by omega) a8b)))), (lk_ne (show (Y + 2) ≠ (Y + 9) by omega) (lk_ne (show Y ≠ (Y + 9) by omega) (lk_ne (show (Y + 4) ≠ (Y + 9) by omega) (lk_ne (show (Y + 3) ≠ (Y + 9) by omega) a9b)))), (lk_ne (show (Y + 2) ≠ (Y + 10) by omega) (lk_ne (show Y ≠ (Y + 10) by omega) (lk_ne (show (Y + 4) ≠ (Y + 10) by omega) (lk_ne (show (Y + 3) ≠ (Y + 10) by omega) a10b)))), (lk_ne (show (Y + 2) ≠ (Y + 12) by omega) (lk_ne (show Y ≠ (Y + 12) by omega) (lk_ne (show (Y + 4) ≠ (Y + 12) by omega) (lk_ne (show (Y + 3) ≠ (Y + 12) by omega) a12b)))), (lk_ne (show (Y + 2) ≠ (Y + 13) by omega) (lk_ne (show Y ≠ (Y + 13) by omega) (lk_ne (show (Y + 4) ≠ (Y + 13) by omega) (lk_ne (show (Y + 3) ≠ (Y + 13) by omega) a13b)))), (lk_ne (show (Y + 2) ≠ (Y + 14) by omega) (lk_ne (show Y ≠ (Y + 14) by omega) (lk_ne (show (Y + 4) ≠ (Y + 14) by omega) (lk_ne (show (Y + 3) ≠ (Y + 14) by omega) a14b)))), (lk_ne (show (Y + 2) ≠ (Y + 18) by omega) (lk_ne (show Y ≠ (Y + 18) by omega) (lk_ne (show (Y + 4) ≠ (Y + 18) by omega) (lk_ne (show (Y + 3) ≠ (Y + 18) by omega) a18b)))), (lk_ne (show (Y + 2) ≠ (Y + 19) by omega) (lk_ne (show Y ≠ (Y + 19) by omega) (lk_ne (show (Y + 4) ≠ (Y + 19) by omega) (lk_ne (show (Y + 3) ≠ (Y + 19) by omega) a19b)))), (lk_ne (show (Y + 2) ≠ (Y + 20) by omega) (lk_ne (show Y ≠ (Y + 20) by omega) (lk_ne (show (Y + 4) ≠ (Y + 20) by omega) (lk_ne (show (Y + 3) ≠ (Y + 20) by omega) a20b)))), (lk_ne (show (Y + 2) ≠ (Y + 21) by omega) (lk_ne (show Y ≠ (Y + 21) by omega) (lk_ne (show (Y + 4) ≠ (Y + 21) by omega) (lk_ne (show (Y + 3) ≠ (Y + 21) by omega) a21b))))⟩, ⟨_, _, (lk_ne (show (Y + 2) ≠ (Y + 15) by omega) (lk_ne (show Y ≠ (Y + 15) by omega) (lk_ne (show (Y + 4) ≠ (Y + 15) by omega) (lk_ne (show (Y + 3) ≠ (Y + 15) by omega) a15b)))), (lk_ne (show (Y + 2) ≠ (Y + 16) by omega) (lk_ne (show Y ≠ (Y + 16) by omega) (lk_ne (show (Y + 4) ≠ (Y + 16) by omega) (lk_ne (show (Y + 3) ≠ (Y + 16) by omega) a16b)))), b15b⟩⟩
                      have hF3 : FR (modS Y) w1 w3 := by rw [ew3]; exact (FR.st (c' := aI 0 626 (upd (upd (upd (upd g2 112 (nI 0)) 113 (nI 0)) 114 (nI 0)) 115 (nI 0))) (FR.st (c' := .inr (11, .int (nI 0) :: .int st :: .ref (Y + 1) :: .ref (Y + 2) :: .ref (Y + 3) :: .ref (Y + 4) :: .int (nI (min (pn + 1) 8)) :: .ref (Y + 5) :: .ref (Y + 6) :: .ref (Y + 7) :: .int dg :: .ref (Y + 8) :: .int dd :: .ref (Y + 9) :: .ref (Y + 10) :: .ref (Y + 11) :: .ref (Y + 12) :: .int ld :: .int be :: .int ib :: .ref (Y + 13) :: .ref (Y + 14) :: .ref (Y + 15) :: .ref (Y + 16) :: .ref (Y + 17) :: .int (nI tl) :: .int fa :: .int re :: .int ig :: .ref (Y + 18) :: .ref (Y + 19) :: .ref (Y + 20) :: .ref (Y + 21) :: [])) (FR.st (c' := aI 0 8 (rmS g4 pn 7)) (FR.st (c' := aI 0 5008 (rmU g2 g3 pn)) FR.rf c3b rfl (by unfold modS; omega)) (lk_ne (show (Y + 3) ≠ (Y + 4) by omega) c4b) rfl (by unfold modS; omega)) (lk_ne (show (Y + 4) ≠ Y by omega) (lk_ne (show (Y + 3) ≠ Y by omega) cYb)) rfl (by unfold modS; omega)) (lk_ne (show Y ≠ (Y + 2) by omega) (lk_ne (show (Y + 4) ≠ (Y + 2) by omega) (lk_ne (show (Y + 3) ≠ (Y + 2) by omega) c2b))) rfl (by unfold modS; omega))
                      refine GP.post ?_ (GP.lsub _ (by simp) (mse_loop (S := sh.1) (d := d) (h := h) (lv := lv) (v := v) (sz := sz) hd10 (by omega) hh3 (by omega) (by omega) (by omega) sz 0 0 0 (fun _ => 0) w3 (by omega) ⟨rfl, rfl⟩ hM3 (hFb.tr hF3)))
                      rintro r wf ⟨ia, on, E, h1, h2, h3, h4⟩
                      exact Or.inr (Or.inr ⟨d, h, lv, v, sz, ia, on, E, rfl, rfl, rfl, rfl, hok, hsz, by omega, h2, h1, h3, h4⟩)
                    · refine g_aload_n (pc := 108) 5 dX12_search_108 rfl rfl ?_
                      refine g_bipush (pc := 109) (v := -4) dX12_search_109 (by decide) ?_
                      obtain ⟨wr, ewr⟩ : ∃ wy : Wd, wy = w1 := ⟨_, rfl⟩
                      refine GP.weq wr ewr.symm ?_
                      have hMr : mdC wr Y tl tb fa st rf sh pn pk ps im := by rw [ewr]; exact ⟨⟨_, _, _, _, _, _, _, _, cYb⟩, ⟨⟨_, a1b, b1b⟩, ⟨_, c2b, b2⟩, ⟨_, _, c3b, c4b, b3, b4⟩, ⟨_, _, a5b, a6b, b5b⟩, ⟨_, a11b, b11b⟩, ⟨_, a17b, b17b⟩⟩, ⟨_, _, _, _, _, _, _, _, _, _, _, a7b, a8b, a9b, a10b, a12b, a13b, a14b, a18b, a19b, a20b, a21b⟩, ⟨_, _, a15b, a16b, b15b⟩⟩
                      have hFr : FR (modS Y) w1 wr := by rw [ewr]; exact FR.rf
                      refine g_callV (pc := 111) [.int (-4)] dX12_search_111 cv_X12_96.1 cv_X12_96.2.1 cv_X12_96.2.2.1 cv_X12_96.2.2.2 (by rw [ewr]; exact cYb) rfl rfl (Nat.le_of_ble_eq_true rfl) (by decide) (by decide) (mq_refuse4 _ hMr) ?_
                      rintro _ wq ⟨rfl, hR⟩
                      exact g_iret (pc := 114) dX12_search_114 (Or.inr (Or.inl ⟨d, h, lv, v, rfl, rfl, rfl, rfl, hok, by omega, ⟨rfl, hR.1, (hFb).tr (hFr.tr hR.2)⟩⟩))
                  · exact absurd hd9 (by decide)
                · refine GP.weq _ e9 ?_
                  rw [IL, L9p, L1k] at h4
                  refine n_if_ne (pc := 61) 70 dX12_search_61 (by decide) (by omega) (fun hd9 => ?_) (fun hd9 => ?_)
                  · exact absurd rfl hd9
                  · refine g_aload_n (pc := 64) 0 dX12_search_64 rfl rfl ?_
                    refine g_iconst (pc := 65) (v := -1) dX12_search_65 (by decide) ?_
                    obtain ⟨wr, ewr⟩ : ∃ wy : Wd, wy = (w.set Y (.inr (11, .int (nI 0) :: .int st :: .ref (Y + 1) :: .ref (Y + 2) :: .ref (Y + 3) :: .ref (Y + 4) :: .int (nI pn) :: .ref (Y + 5) :: .ref (Y + 6) :: .ref (Y + 7) :: .int dg :: .ref (Y + 8) :: .int dd :: .ref (Y + 9) :: .ref (Y + 10) :: .ref (Y + 11) :: .ref (Y + 12) :: .int ld :: .int be :: .int ib :: .ref (Y + 13) :: .ref (Y + 14) :: .ref (Y + 15) :: .ref (Y + 16) :: .ref (Y + 17) :: .int (nI tl) :: .int fa :: .int re :: .int ig :: .ref (Y + 18) :: .ref (Y + 19) :: .ref (Y + 20) :: .ref (Y + 21) :: []))) := ⟨_, rfl⟩
                    refine GP.weq wr ewr.symm ?_
                    have hMr : mdC wr Y tl tb fa st rf sh pn pk ps im := by rw [ewr]; exact ⟨⟨_, _, _, _, _, _, _, _, (lk_eq hY)⟩, ⟨⟨_, (lk_ne (show Y ≠ (Y + 1) by omega) a1), b1⟩, ⟨_, (lk_ne (show Y ≠ (Y + 2) by omega) a2), b2⟩, ⟨_, _, (lk_ne (show Y ≠ (Y + 3) by omega) a3), (lk_ne (show Y ≠ (Y + 4) by omega) a4), b3, b4⟩, ⟨_, _, (lk_ne (show Y ≠ (Y + 5) by omega) a5), (lk_ne (show Y ≠ (Y + 6) by omega) a6), b5⟩, ⟨_, (lk_ne (show Y ≠ (Y + 11) by omega) a11), b11⟩, ⟨_, (lk_ne (show Y ≠ (Y + 17) by omega) a17), b17⟩⟩, ⟨_, _, _, _, _, _, _, _, _, _, _, (lk_ne (show Y ≠ (Y + 7) by omega) a7), (lk_ne (show Y ≠ (Y + 8) by omega) a8), (lk_ne (show Y ≠ (Y + 9) by omega) a9), (lk_ne (show Y ≠ (Y + 10) by omega) a10), (lk_ne (show Y ≠ (Y + 12) by omega) a12), (lk_ne (show Y ≠ (Y + 13) by omega) a13), (lk_ne (show Y ≠ (Y + 14) by omega) a14), (lk_ne (show Y ≠ (Y + 18) by omega) a18), (lk_ne (show Y ≠ (Y + 19) by omega) a19), (lk_ne (show Y ≠ (Y + 20) by omega) a20), (lk_ne (show Y ≠ (Y + 21) by omega) a21)⟩, ⟨_, _, (lk_ne (show Y ≠ (Y + 15) by omega) a15), (lk_ne (show Y ≠ (Y + 16) by omega) a16), b15⟩⟩
                    have hFr : FR (modS Y) w wr := by rw [ewr]; exact (FR.st (c' := .inr (11, .int (nI 0) :: .int st :: .ref (Y + 1) :: .ref (Y + 2) :: .ref (Y + 3) :: .ref (Y + 4) :: .int (nI pn) :: .ref (Y + 5) :: .ref (Y + 6) :: .ref (Y + 7) :: .int dg :: .ref (Y + 8) :: .int dd :: .ref (Y + 9) :: .ref (Y + 10) :: .ref (Y + 11) :: .ref (Y + 12) :: .int ld :: .int be :: .int ib :: .ref (Y + 13) :: .ref (Y + 14) :: .ref (Y + 15) :: .ref (Y + 16) :: .ref (Y + 17) :: .int (nI tl) :: .int fa :: .int re :: .int ig :: .ref (Y + 18) :: .ref (Y + 19) :: .ref (Y + 20) :: .ref (Y + 21) :: [])) FR.rf hY rfl (by unfold modS; omega))
                    refine g_callV (pc := 66) [.int (-1)] dX12_search_66 cv_X12_96.1 cv_X12_96.2.1 cv_X12_96.2.2.1 cv_X12_96.2.2.2 (by rw [ewr]; exact (lk_eq hY)) rfl rfl (Nat.le_of_ble_eq_true rfl) (by decide) (by decide) (mq_refuse1 _ hMr) ?_
                    rintro _ wq ⟨rfl, hR⟩
                    exact g_iret (pc := 69) dX12_search_69 (Or.inl ⟨fun g => h4 ⟨g.2.2.2.1, g.2.2.2.2⟩, ⟨rfl, hR.1, hFr.tr hR.2⟩⟩)
            · refine GP.weq _ e9 ?_
              rw [IL, L6, L00] at h3
              refine n_if_eq (pc := 46) 64 dX12_search_46 (by decide) (by omega) (fun hd9 => ?_) (fun hd9 => ?_)
              · refine g_aload_n (pc := 64) 0 dX12_search_64 rfl rfl ?_
                refine g_iconst (pc := 65) (v := -1) dX12_search_65 (by decide) ?_
                obtain ⟨wr, ewr⟩ : ∃ wy : Wd, wy = (w.set Y (.inr (11, .int (nI 0) :: .int st :: .ref (Y + 1) :: .ref (Y + 2) :: .ref (Y + 3) :: .ref (Y + 4) :: .int (nI pn) :: .ref (Y + 5) :: .ref (Y + 6) :: .ref (Y + 7) :: .int dg :: .ref (Y + 8) :: .int dd :: .ref (Y + 9) :: .ref (Y + 10) :: .ref (Y + 11) :: .ref (Y + 12) :: .int ld :: .int be :: .int ib :: .ref (Y + 13) :: .ref (Y + 14) :: .ref (Y + 15) :: .ref (Y + 16) :: .ref (Y + 17) :: .int (nI tl) :: .int fa :: .int re :: .int ig :: .ref (Y + 18) :: .ref (Y + 19) :: .ref (Y + 20) :: .ref (Y + 21) :: []))) := ⟨_, rfl⟩
                refine GP.weq wr ewr.symm ?_
                have hMr : mdC wr Y tl tb fa st rf sh pn pk ps im := by rw [ewr]; exact ⟨⟨_, _, _, _, _, _, _, _, (lk_eq hY)⟩, ⟨⟨_, (lk_ne (show Y ≠ (Y + 1) by omega) a1), b1⟩, ⟨_, (lk_ne (show Y ≠ (Y + 2) by omega) a2), b2⟩, ⟨_, _, (lk_ne (show Y ≠ (Y + 3) by omega) a3), (lk_ne (show Y ≠ (Y + 4) by omega) a4), b3, b4⟩, ⟨_, _, (lk_ne (show Y ≠ (Y + 5) by omega) a5), (lk_ne (show Y ≠ (Y + 6) by omega) a6), b5⟩, ⟨_, (lk_ne (show Y ≠ (Y + 11) by omega) a11), b11⟩, ⟨_, (lk_ne (show Y ≠ (Y + 17) by omega) a17), b17⟩⟩, ⟨_, _, _, _, _, _, _, _, _, _, _, (lk_ne (show Y ≠ (Y + 7) by omega) a7), (lk_ne (show Y ≠ (Y + 8) by omega) a8), (lk_ne (show Y ≠ (Y + 9) by omega) a9), (lk_ne (show Y ≠ (Y + 10) by omega) a10), (lk_ne (show Y ≠ (Y + 12) by omega) a12), (lk_ne (show Y ≠ (Y + 13) by omega) a13), (lk_ne (show Y ≠ (Y + 14) by omega) a14), (lk_ne (show Y ≠ (Y + 18) by omega) a18), (lk_ne (show Y ≠ (Y + 19) by omega) a19), (lk_ne (show Y ≠ (Y + 20) by omega) a20), (lk_ne (show Y ≠ (Y + 21) by omega) a21)⟩, ⟨_, _, (lk_ne (show Y ≠ (Y + 15) by omega) a15), (lk_ne (show Y ≠ (Y + 16) by omega) a16), b15⟩⟩
                have hFr : FR (modS Y) w wr := by rw [ewr]; exact (FR.st (c' := .inr (11, .int (nI 0) :: .int st :: .ref (Y + 1) :: .ref (Y + 2) :: .ref (Y + 3) :: .ref (Y + 4) :: .int (nI pn) :: .ref (Y + 5) :: .ref (Y + 6) :: .ref (Y + 7) :: .int dg :: .ref (Y + 8) :: .int dd :: .ref (Y + 9) :: .ref (Y + 10) :: .ref (Y + 11) :: .ref (Y + 12) :: .int ld :: .int be :: .int ib :: .ref (Y + 13) :: .ref (Y + 14) :: .ref (Y + 15) :: .ref (Y + 16) :: .ref (Y + 17) :: .int (nI tl) :: .int fa :: .int re :: .int ig :: .ref (Y + 18) :: .ref (Y + 19) :: .ref (Y + 20) :: .ref (Y + 21) :: [])) FR.rf hY rfl (by unfold modS; omega))
                refine g_callV (pc := 66) [.int (-1)] dX12_search_66 cv_X12_96.1 cv_X12_96.2.1 cv_X12_96.2.2.1 cv_X12_96.2.2.2 (by rw [ewr]; exact (lk_eq hY)) rfl rfl (Nat.le_of_ble_eq_true rfl) (by decide) (by decide) (mq_refuse1 _ hMr) ?_
                rintro _ wq ⟨rfl, hR⟩
                exact g_iret (pc := 69) dX12_search_69 (Or.inl ⟨fun g => h3 g.2.2.1, ⟨rfl, hR.1, hFr.tr hR.2⟩⟩)
              · exact absurd rfl hd9
        · refine GP.weq _ e9 ?_
          rw [IL, L3n, L1] at h2
          refine n_if_eq (pc := 34) 64 dX12_search_34 (by decide) (by omega) (fun hd9 => ?_) (fun hd9 => ?_)
          · refine g_aload_n (pc := 64) 0 dX12_search_64 rfl rfl ?_
            refine g_iconst (pc := 65) (v := -1) dX12_search_65 (by decide) ?_
            obtain ⟨wr, ewr⟩ : ∃ wy : Wd, wy = (w.set Y (.inr (11, .int (nI 0) :: .int st :: .ref (Y + 1) :: .ref (Y + 2) :: .ref (Y + 3) :: .ref (Y + 4) :: .int (nI pn) :: .ref (Y + 5) :: .ref (Y + 6) :: .ref (Y + 7) :: .int dg :: .ref (Y + 8) :: .int dd :: .ref (Y + 9) :: .ref (Y + 10) :: .ref (Y + 11) :: .ref (Y + 12) :: .int ld :: .int be :: .int ib :: .ref (Y + 13) :: .ref (Y + 14) :: .ref (Y + 15) :: .ref (Y + 16) :: .ref (Y + 17) :: .int (nI tl) :: .int fa :: .int re :: .int ig :: .ref (Y + 18) :: .ref (Y + 19) :: .ref (Y + 20) :: .ref (Y + 21) :: []))) := ⟨_, rfl⟩
            refine GP.weq wr ewr.symm ?_
            have hMr : mdC wr Y tl tb fa st rf sh pn pk ps im := by rw [ewr]; exact ⟨⟨_, _, _, _, _, _, _, _, (lk_eq hY)⟩, ⟨⟨_, (lk_ne (show Y ≠ (Y + 1) by omega) a1), b1⟩, ⟨_, (lk_ne (show Y ≠ (Y + 2) by omega) a2), b2⟩, ⟨_, _, (lk_ne (show Y ≠ (Y + 3) by omega) a3), (lk_ne (show Y ≠ (Y + 4) by omega) a4), b3, b4⟩, ⟨_, _, (lk_ne (show Y ≠ (Y + 5) by omega) a5), (lk_ne (show Y ≠ (Y + 6) by omega) a6), b5⟩, ⟨_, (lk_ne (show Y ≠ (Y + 11) by omega) a11), b11⟩, ⟨_, (lk_ne (show Y ≠ (Y + 17) by omega) a17), b17⟩⟩, ⟨_, _, _, _, _, _, _, _, _, _, _, (lk_ne (show Y ≠ (Y + 7) by omega) a7), (lk_ne (show Y ≠ (Y + 8) by omega) a8), (lk_ne (show Y ≠ (Y + 9) by omega) a9), (lk_ne (show Y ≠ (Y + 10) by omega) a10), (lk_ne (show Y ≠ (Y + 12) by omega) a12), (lk_ne (show Y ≠ (Y + 13) by omega) a13), (lk_ne (show Y ≠ (Y + 14) by omega) a14), (lk_ne (show Y ≠ (Y + 18) by omega) a18), (lk_ne (show Y ≠ (Y + 19) by omega) a19), (lk_ne (show Y ≠ (Y + 20) by omega) a20), (lk_ne (show Y ≠ (Y + 21) by omega) a21)⟩, ⟨_, _, (lk_ne (show Y ≠ (Y + 15) by omega) a15), (lk_ne (show Y ≠ (Y + 16) by omega) a16), b15⟩⟩
            have hFr : FR (modS Y) w wr := by rw [ewr]; exact (FR.st (c' := .inr (11, .int (nI 0) :: .int st :: .ref (Y + 1) :: .ref (Y + 2) :: .ref (Y + 3) :: .ref (Y + 4) :: .int (nI pn) :: .ref (Y + 5) :: .ref (Y + 6) :: .ref (Y + 7) :: .int dg :: .ref (Y + 8) :: .int dd :: .ref (Y + 9) :: .ref (Y + 10) :: .ref (Y + 11) :: .ref (Y + 12) :: .int ld :: .int be :: .int ib :: .ref (Y + 13) :: .ref (Y + 14) :: .ref (Y + 15) :: .ref (Y + 16) :: .ref (Y + 17) :: .int (nI tl) :: .int fa :: .int re :: .int ig :: .ref (Y + 18) :: .ref (Y + 19) :: .ref (Y + 20) :: .ref (Y + 21) :: [])) FR.rf hY rfl (by unfold modS; omega))
            refine g_callV (pc := 66) [.int (-1)] dX12_search_66 cv_X12_96.1 cv_X12_96.2.1 cv_X12_96.2.2.1 cv_X12_96.2.2.2 (by rw [ewr]; exact (lk_eq hY)) rfl rfl (Nat.le_of_ble_eq_true rfl) (by decide) (by decide) (mq_refuse1 _ hMr) ?_
            rintro _ wq ⟨rfl, hR⟩
            exact g_iret (pc := 69) dX12_search_69 (Or.inl ⟨fun g => h2 g.2.1, ⟨rfl, hR.1, hFr.tr hR.2⟩⟩)
          · exact absurd rfl hd9
  · refine GP.weq _ e9 ?_
    rw [IL, L10, L2n] at h1
    refine n_if_eq (pc := 16) 64 dX12_search_16 (by decide) (by omega) (fun hd9 => ?_) (fun hd9 => ?_)
    · refine g_aload_n (pc := 64) 0 dX12_search_64 rfl rfl ?_
      refine g_iconst (pc := 65) (v := -1) dX12_search_65 (by decide) ?_
      obtain ⟨wr, ewr⟩ : ∃ wy : Wd, wy = (w.set Y (.inr (11, .int (nI 0) :: .int st :: .ref (Y + 1) :: .ref (Y + 2) :: .ref (Y + 3) :: .ref (Y + 4) :: .int (nI pn) :: .ref (Y + 5) :: .ref (Y + 6) :: .ref (Y + 7) :: .int dg :: .ref (Y + 8) :: .int dd :: .ref (Y + 9) :: .ref (Y + 10) :: .ref (Y + 11) :: .ref (Y + 12) :: .int ld :: .int be :: .int ib :: .ref (Y + 13) :: .ref (Y + 14) :: .ref (Y + 15) :: .ref (Y + 16) :: .ref (Y + 17) :: .int (nI tl) :: .int fa :: .int re :: .int ig :: .ref (Y + 18) :: .ref (Y + 19) :: .ref (Y + 20) :: .ref (Y + 21) :: []))) := ⟨_, rfl⟩
      refine GP.weq wr ewr.symm ?_
      have hMr : mdC wr Y tl tb fa st rf sh pn pk ps im := by rw [ewr]; exact ⟨⟨_, _, _, _, _, _, _, _, (lk_eq hY)⟩, ⟨⟨_, (lk_ne (show Y ≠ (Y + 1) by omega) a1), b1⟩, ⟨_, (lk_ne (show Y ≠ (Y + 2) by omega) a2), b2⟩, ⟨_, _, (lk_ne (show Y ≠ (Y + 3) by omega) a3), (lk_ne (show Y ≠ (Y + 4) by omega) a4), b3, b4⟩, ⟨_, _, (lk_ne (show Y ≠ (Y + 5) by omega) a5), (lk_ne (show Y ≠ (Y + 6) by omega) a6), b5⟩, ⟨_, (lk_ne (show Y ≠ (Y + 11) by omega) a11), b11⟩, ⟨_, (lk_ne (show Y ≠ (Y + 17) by omega) a17), b17⟩⟩, ⟨_, _, _, _, _, _, _, _, _, _, _, (lk_ne (show Y ≠ (Y + 7) by omega) a7), (lk_ne (show Y ≠ (Y + 8) by omega) a8), (lk_ne (show Y ≠ (Y + 9) by omega) a9), (lk_ne (show Y ≠ (Y + 10) by omega) a10), (lk_ne (show Y ≠ (Y + 12) by omega) a12), (lk_ne (show Y ≠ (Y + 13) by omega) a13), (lk_ne (show Y ≠ (Y + 14) by omega) a14), (lk_ne (show Y ≠ (Y + 18) by omega) a18), (lk_ne (show Y ≠ (Y + 19) by omega) a19), (lk_ne (show Y ≠ (Y + 20) by omega) a20), (lk_ne (show Y ≠ (Y + 21) by omega) a21)⟩, ⟨_, _, (lk_ne (show Y ≠ (Y + 15) by omega) a15), (lk_ne (show Y ≠ (Y + 16) by omega) a16), b15⟩⟩
      have hFr : FR (modS Y) w wr := by rw [ewr]; exact (FR.st (c' := .inr (11, .int (nI 0) :: .int st :: .ref (Y + 1) :: .ref (Y + 2) :: .ref (Y + 3) :: .ref (Y + 4) :: .int (nI pn) :: .ref (Y + 5) :: .ref (Y + 6) :: .ref (Y + 7) :: .int dg :: .ref (Y + 8) :: .int dd :: .ref (Y + 9) :: .ref (Y + 10) :: .ref (Y + 11) :: .ref (Y + 12) :: .int ld :: .int be :: .int ib :: .ref (Y + 13) :: .ref (Y + 14) :: .ref (Y + 15) :: .ref (Y + 16) :: .ref (Y + 17) :: .int (nI tl) :: .int fa :: .int re :: .int ig :: .ref (Y + 18) :: .ref (Y + 19) :: .ref (Y + 20) :: .ref (Y + 21) :: [])) FR.rf hY rfl (by unfold modS; omega))
      refine g_callV (pc := 66) [.int (-1)] dX12_search_66 cv_X12_96.1 cv_X12_96.2.1 cv_X12_96.2.2.1 cv_X12_96.2.2.2 (by rw [ewr]; exact (lk_eq hY)) rfl rfl (Nat.le_of_ble_eq_true rfl) (by decide) (by decide) (mq_refuse1 _ hMr) ?_
      rintro _ wq ⟨rfl, hR⟩
      exact g_iret (pc := 69) dX12_search_69 (Or.inl ⟨fun g => h1 ⟨g.1.1, g.1.2.1⟩, ⟨rfl, hR.1, hFr.tr hR.2⟩⟩)
    · exact absurd rfl hd9
