/-! MahlerBox: count, roots -/
abbrev hz0 (F : Nat → Int) (n c : Nat) : Prop := hev F ((c : Int) - 50) n (n + 1) = 0
def rtN (F : Nat → Int) (n : Nat) : Nat → Nat
  | 0 => 0
  | c + 1 => rtN F n c + if hz0 F n c then 1 else 0
def rtL (F : Nat → Int) (n : Nat) : Nat → Int
  | 0 => -2147483648
  | c + 1 => if hz0 F n c ∧ rtN F n c = 0 then (c : Int) - 50 else rtL F n c
def rtG (F : Nat → Int) (n : Nat) : Nat → Int
  | 0 => -2147483648
  | c + 1 => if hz0 F n c then (c : Int) - 50 else rtG F n c
theorem rtN_le (F : Nat → Int) (n : Nat) : ∀ c, rtN F n c ≤ c
  | 0 => Nat.le_refl 0
  | c + 1 => by
    have := rtN_le F n c
    unfold rtN
    split <;> omega
/-- what count() tells beside places -/
def cnP (sh : SV) (pn tl : Nat) (rf : Nat → Nat) (h v : Nat) : Prop := (h = 8 ∧ v = sh.2.2.2.2.2.1) ∨ (h = 9 ∧ v = sh.2.2.1) ∨ (h = 10 ∧ v = sh.2.2.2.1) ∨ (h = 11 ∧ v = sh.2.2.2.2.1) ∨ (h = 12 ∧ v = pn) ∨ (h = 13 ∧ v = tl) ∨ (14 ≤ h ∧ v = rf (h - 14))
abbrev BX11_count (w0 : Wd) (Post : Option Value → Wd → Prop) (w : Wd) (pc : Nat) (ls : List (Nat × Value)) (st : List Value) : Prop := GP "count" RX11 cX11_count 2 (some .int) 1 39 none w0 Post w pc ls st
abbrev EX11_count (As : List Value) (w : Wd) (Post : Option Value → Wd → Prop) : Prop := EP yX11_count cX11_count 2 (some .int) 1 As w Post
theorem sp_count (w : Wd) {X tl : Nat} {tb : Nat → Int32} {fa st : Int32} {rf : Nat → Nat} {sh : SV} {pn : Nat} {pk : Nat → Nat} {ps : Nat → SV} {im : Nat → Option SV} (hB : bxC w X tl tb fa st rf sh pn pk ps im) {x : Int32} : EX11_count [.ref X, .int x] w (fun r w' => (∃ i, x = nI i ∧ i < 8 ∧ r = some (.int (nI (sh.1 i).1)) ∧ bxC w' X tl tb fa st rf sh pn pk ps im ∧ EX (boxS X) 0 0 w w') ∨ (∃ h v, x = nI h ∧ (8 ≤ h ∧ h < 19) ∧ cnP sh pn tl rf h v ∧ r = some (.int (nI v)) ∧ bxC w' X tl tb fa st rf sh pn pk ps im ∧ EX (boxS X) 0 0 w w') ∨ (¬ (0 ≤ x.toInt ∧ x.toInt ≤ 18) ∧ r = some (.int (-1)) ∧ bxC w' X tl tb fa st rf sh pn pk ps im ∧ EX (boxS X) 0 0 w w')) := by
  refine EP.of (plainFor_of_name (by decide)) [(0, .ref X), (1, .int x)] rfl (Nat.le_of_ble_eq_true rfl) (fun r wf h => by rcases h with ⟨i, -, -, rfl, -⟩ | ⟨h, v, -, -, -, rfl, -⟩ | ⟨-, rfl, -⟩ <;> trivial) ?_
  show BX11_count w _ w 0 [(0, .ref X), (1, .int x)] []
  have hB0 := id hB
  obtain ⟨⟨s, hX, hs⟩, htp, hW, hpa, him, hrf⟩ := hB
  have hs0 := id hs
  obtain ⟨sp9, sf9, sh9, hs1, hs2, hs3, hs4, hs5, hs6⟩ := hs
  obtain ⟨htl, tpl, tf, ht1, ht2, ht3⟩ := id htp
  obtain ⟨row9, hrow9⟩ := hW.2.2.2.2.1
  obtain ⟨spa9, hspa9⟩ := hW.2.2.2.2.2
  obtain ⟨ef, gf, hf1, hf2, hf3, hf4, hf5, hf6, hf7, hf8, hf9, hf10⟩ := id hs6
  have z8 : (nI 8).toInt = 8 := by decide
  have z14 : (nI 14).toInt = 14 := by decide
  have z18 : (nI 18).toInt = 18 := by decide
  obtain ⟨hp8, ph, pg, hp1, hp2, hp3, hpi0⟩ := id hpa
  obtain ⟨rg, hrg1, hrg2⟩ := id hrf
  refine g_iload_n (pc := 0) 1 dX11_count_0 rfl rfl ?_
  refine g_callS (pc := 1) [.int x] dX11_count_1 cs_X11_95.1 cs_X11_95.2 rfl rfl (Nat.le_of_ble_eq_true rfl) (by decide) (by decide) (sp_isPlace _ (x := x)) ?_
  rintro _ w9 (⟨rfl, hpi, e9⟩ | ⟨rfl, hpi, e9⟩)
  · refine GP.weq _ e9 ?_
    refine n_if_eq (pc := 4) 19 dX11_count_4 (by decide) (by omega) (fun hzi => ?_) (fun hzi => ?_)
    · exact absurd hzi (by decide)
    · obtain ⟨i, hie, hi⟩ : ∃ i : Nat, x = nI i ∧ i < 8 := ⟨x.toInt.toNat, nI_toNat (by omega), by omega⟩
      subst hie
      obtain ⟨v1, hv1, b1, c1, ho1, hb1, hvB1, hbB1, hc1, hk1⟩ := hs5 i hi
      refine g_aload_n (pc := 7) 0 dX11_count_7 rfl rfl ?_
      refine g_get (pc := 8) dX11_count_8 fk_X11_69 hX rfl ?_
      refine g_iload_n (pc := 11) 1 dX11_count_11 rfl rfl ?_
      refine g_callV (pc := 12) [.int (nI i)] dX11_count_12 cv_X11_111.1 cv_X11_111.2.1 cv_X11_111.2.2.1 cv_X11_111.2.2.2 hs1 rfl rfl (Nat.le_of_ble_eq_true rfl) (by decide) (by decide) (sp_poly _ (i := i) hs1 hs2 hi hv1) ?_
      rintro _ w9 ⟨rfl, e9⟩
      refine GP.weq _ e9 ?_
      refine g_get (pc := 15) dX11_count_15 fk_X11_132 ho1 rfl ?_
      exact g_iret (pc := 18) dX11_count_18 (Or.inl ⟨i, rfl, hi, rfl, hB0, EX.rf⟩)
  · refine GP.weq _ e9 ?_
    refine n_if_eq (pc := 4) 19 dX11_count_4 (by decide) (by omega) (fun hzi => ?_) (fun hzi => ?_)
    · refine g_iload_n (pc := 19) 1 dX11_count_19 rfl rfl ?_
      refine g_bipush (pc := 20) (v := nI 14) dX11_count_20 (by decide) ?_
      refine g_icmp_lt (pc := 22) 41 dX11_count_22 (by decide) (fun h1 => ?_) (fun h1 => ?_)
      · rw [Int32.lt_iff_toInt_lt, z14] at h1
        refine g_iload_n (pc := 41) 1 dX11_count_41 rfl rfl ?_
        by_cases h813 : 8 ≤ x.toInt ∧ x.toInt ≤ 13
        · obtain ⟨h, hhe, hh⟩ : ∃ h : Nat, x = nI h ∧ 8 ≤ h ∧ h < 14 := ⟨x.toInt.toNat, nI_toNat (by omega), by omega, by omega⟩
          subst hhe
          clear h813 hpi h1
          rcases (show h = 8 ∨ h = 9 ∨ h = 10 ∨ h = 11 ∨ h = 12 ∨ h = 13 by omega) with e5 | e5 | e5 | e5 | e5 | e5
          · subst e5
            refine g_tabIn (pc := 42) (off := 38) 80 dX11_count_42 (by decide) (by decide) (by decide) (by decide) ?_
            refine g_aload_n (pc := 80) 0 dX11_count_80 rfl rfl ?_
            refine g_get (pc := 81) dX11_count_81 fk_X11_69 hX rfl ?_
            refine g_get (pc := 84) dX11_count_84 fk_X11_209 hs1 rfl ?_
            refine g_get (pc := 87) dX11_count_87 fk_X11_328 hf1 rfl ?_
            exact g_iret (pc := 90) dX11_count_90 (Or.inr (Or.inl ⟨8, sh.2.2.2.2.2.1, rfl, by omega, by unfold cnP; omega, rfl, hB0, EX.rf⟩))
          · subst e5
            refine g_tabIn (pc := 42) (off := 49) 91 dX11_count_42 (by decide) (by decide) (by decide) (by decide) ?_
            refine g_aload_n (pc := 91) 0 dX11_count_91 rfl rfl ?_
            refine g_get (pc := 92) dX11_count_92 fk_X11_69 hX rfl ?_
            refine g_get (pc := 95) dX11_count_95 fk_X11_209 hs1 rfl ?_
            refine g_get (pc := 98) dX11_count_98 fk_X11_204 hf1 rfl ?_
            exact g_iret (pc := 101) dX11_count_101 (Or.inr (Or.inl ⟨9, sh.2.2.1, rfl, by omega, by unfold cnP; omega, rfl, hB0, EX.rf⟩))
          · subst e5
            refine g_tabIn (pc := 42) (off := 60) 102 dX11_count_42 (by decide) (by decide) (by decide) (by decide) ?_
            refine g_aload_n (pc := 102) 0 dX11_count_102 rfl rfl ?_
            refine g_get (pc := 103) dX11_count_103 fk_X11_69 hX rfl ?_
            refine g_get (pc := 106) dX11_count_106 fk_X11_209 hs1 rfl ?_
            refine g_get (pc := 109) dX11_count_109 fk_X11_337 hf1 rfl ?_
            exact g_iret (pc := 112) dX11_count_112 (Or.inr (Or.inl ⟨10, sh.2.2.2.1, rfl, by omega, by unfold cnP; omega, rfl, hB0, EX.rf⟩))
          · subst e5
            refine g_tabIn (pc := 42) (off := 71) 113 dX11_count_42 (by decide) (by decide) (by decide) (by decide) ?_
            refine g_aload_n (pc := 113) 0 dX11_count_113 rfl rfl ?_
            refine g_get (pc := 114) dX11_count_114 fk_X11_69 hX rfl ?_
            refine g_get (pc := 117) dX11_count_117 fk_X11_209 hs1 rfl ?_
            refine g_get (pc := 120) dX11_count_120 fk_X11_340 hf1 rfl ?_
            exact g_iret (pc := 123) dX11_count_123 (Or.inr (Or.inl ⟨11, sh.2.2.2.2.1, rfl, by omega, by unfold cnP; omega, rfl, hB0, EX.rf⟩))
          · subst e5
            refine g_tabIn (pc := 42) (off := 82) 124 dX11_count_42 (by decide) (by decide) (by decide) (by decide) ?_
            refine g_aload_n (pc := 124) 0 dX11_count_124 rfl rfl ?_
            refine g_get (pc := 125) dX11_count_125 fk_X11_47 hX rfl ?_
            refine g_get (pc := 128) dX11_count_128 fk_X11_218 hp1 rfl ?_
            exact g_iret (pc := 131) dX11_count_131 (Or.inr (Or.inl ⟨12, pn, rfl, by omega, by unfold cnP; omega, rfl, hB0, EX.rf⟩))
          · subst e5
            refine g_tabIn (pc := 42) (off := 90) 132 dX11_count_42 (by decide) (by decide) (by decide) (by decide) ?_
            refine g_aload_n (pc := 132) 0 dX11_count_132 rfl rfl ?_
            refine g_get (pc := 133) dX11_count_133 fk_X11_12 hX rfl ?_
            refine g_get (pc := 136) dX11_count_136 fk_X11_88 ht1 rfl ?_
            exact g_iret (pc := 139) dX11_count_139 (Or.inr (Or.inl ⟨13, tl, rfl, by omega, by unfold cnP; omega, rfl, hB0, EX.rf⟩))
        · refine g_tabOut (pc := 42) 140 dX11_count_42 (by omega) (by decide) ?_
          refine g_iconst (pc := 140) (v := -1) dX11_count_140 (by decide) ?_
          exact g_iret (pc := 141) dX11_count_141 (Or.inr (Or.inr ⟨fun h9 => by omega, rfl, hB0, EX.rf⟩))
      · rw [Int32.lt_iff_toInt_lt, z14] at h1
        refine g_iload_n (pc := 25) 1 dX11_count_25 rfl rfl ?_
        refine g_bipush (pc := 26) (v := nI 18) dX11_count_26 (by decide) ?_
        refine g_icmp_gt (pc := 28) 41 dX11_count_28 (by decide) (fun h2 => ?_) (fun h2 => ?_)
        · rw [Int32.lt_iff_toInt_lt, z18] at h2
          refine g_iload_n (pc := 41) 1 dX11_count_41 rfl rfl ?_
          by_cases h813 : 8 ≤ x.toInt ∧ x.toInt ≤ 13
          · obtain ⟨h, hhe, hh⟩ : ∃ h : Nat, x = nI h ∧ 8 ≤ h ∧ h < 14 := ⟨x.toInt.toNat, nI_toNat (by omega), by omega, by omega⟩
            subst hhe
            clear h813 hpi h1 h2
            rcases (show h = 8 ∨ h = 9 ∨ h = 10 ∨ h = 11 ∨ h = 12 ∨ h = 13 by omega) with e5 | e5 | e5 | e5 | e5 | e5
            · subst e5
              refine g_tabIn (pc := 42) (off := 38) 80 dX11_count_42 (by decide) (by decide) (by decide) (by decide) ?_
              refine g_aload_n (pc := 80) 0 dX11_count_80 rfl rfl ?_
              refine g_get (pc := 81) dX11_count_81 fk_X11_69 hX rfl ?_
              refine g_get (pc := 84) dX11_count_84 fk_X11_209 hs1 rfl ?_
              refine g_get (pc := 87) dX11_count_87 fk_X11_328 hf1 rfl ?_
              exact g_iret (pc := 90) dX11_count_90 (Or.inr (Or.inl ⟨8, sh.2.2.2.2.2.1, rfl, by omega, by unfold cnP; omega, rfl, hB0, EX.rf⟩))
            · subst e5
              refine g_tabIn (pc := 42) (off := 49) 91 dX11_count_42 (by decide) (by decide) (by decide) (by decide) ?_
              refine g_aload_n (pc := 91) 0 dX11_count_91 rfl rfl ?_
              refine g_get (pc := 92) dX11_count_92 fk_X11_69 hX rfl ?_
              refine g_get (pc := 95) dX11_count_95 fk_X11_209 hs1 rfl ?_
              refine g_get (pc := 98) dX11_count_98 fk_X11_204 hf1 rfl ?_
              exact g_iret (pc := 101) dX11_count_101 (Or.inr (Or.inl ⟨9, sh.2.2.1, rfl, by omega, by unfold cnP; omega, rfl, hB0, EX.rf⟩))
            · subst e5
              refine g_tabIn (pc := 42) (off := 60) 102 dX11_count_42 (by decide) (by decide) (by decide) (by decide) ?_
              refine g_aload_n (pc := 102) 0 dX11_count_102 rfl rfl ?_
              refine g_get (pc := 103) dX11_count_103 fk_X11_69 hX rfl ?_
              refine g_get (pc := 106) dX11_count_106 fk_X11_209 hs1 rfl ?_
              refine g_get (pc := 109) dX11_count_109 fk_X11_337 hf1 rfl ?_
              exact g_iret (pc := 112) dX11_count_112 (Or.inr (Or.inl ⟨10, sh.2.2.2.1, rfl, by omega, by unfold cnP; omega, rfl, hB0, EX.rf⟩))
            · subst e5
              refine g_tabIn (pc := 42) (off := 71) 113 dX11_count_42 (by decide) (by decide) (by decide) (by decide) ?_
              refine g_aload_n (pc := 113) 0 dX11_count_113 rfl rfl ?_
              refine g_get (pc := 114) dX11_count_114 fk_X11_69 hX rfl ?_
              refine g_get (pc := 117) dX11_count_117 fk_X11_209 hs1 rfl ?_
              refine g_get (pc := 120) dX11_count_120 fk_X11_340 hf1 rfl ?_
              exact g_iret (pc := 123) dX11_count_123 (Or.inr (Or.inl ⟨11, sh.2.2.2.2.1, rfl, by omega, by unfold cnP; omega, rfl, hB0, EX.rf⟩))
            · subst e5
              refine g_tabIn (pc := 42) (off := 82) 124 dX11_count_42 (by decide) (by decide) (by decide) (by decide) ?_
              refine g_aload_n (pc := 124) 0 dX11_count_124 rfl rfl ?_
              refine g_get (pc := 125) dX11_count_125 fk_X11_47 hX rfl ?_
              refine g_get (pc := 128) dX11_count_128 fk_X11_218 hp1 rfl ?_
              exact g_iret (pc := 131) dX11_count_131 (Or.inr (Or.inl ⟨12, pn, rfl, by omega, by unfold cnP; omega, rfl, hB0, EX.rf⟩))
            · subst e5
              refine g_tabIn (pc := 42) (off := 90) 132 dX11_count_42 (by decide) (by decide) (by decide) (by decide) ?_
              refine g_aload_n (pc := 132) 0 dX11_count_132 rfl rfl ?_
              refine g_get (pc := 133) dX11_count_133 fk_X11_12 hX rfl ?_
              refine g_get (pc := 136) dX11_count_136 fk_X11_88 ht1 rfl ?_
              exact g_iret (pc := 139) dX11_count_139 (Or.inr (Or.inl ⟨13, tl, rfl, by omega, by unfold cnP; omega, rfl, hB0, EX.rf⟩))
          · refine g_tabOut (pc := 42) 140 dX11_count_42 (by omega) (by decide) ?_
            refine g_iconst (pc := 140) (v := -1) dX11_count_140 (by decide) ?_
            exact g_iret (pc := 141) dX11_count_141 (Or.inr (Or.inr ⟨fun h9 => by omega, rfl, hB0, EX.rf⟩))
        · rw [Int32.lt_iff_toInt_lt, z18] at h2
          obtain ⟨h, hhe, hh1, hh2⟩ : ∃ h : Nat, x = nI h ∧ 14 ≤ h ∧ h < 19 := ⟨x.toInt.toNat, nI_toNat (by omega), by omega, by omega⟩
          subst hhe
          clear h1 h2 hpi
          refine g_aload_n (pc := 31) 0 dX11_count_31 rfl rfl ?_
          refine g_get (pc := 32) dX11_count_32 fk_X11_64 hX rfl ?_
          refine g_iload_n (pc := 35) 1 dX11_count_35 rfl rfl ?_
          refine g_bipush (pc := 36) (v := nI 14) dX11_count_36 (by decide) ?_
          refine n_isub (pc := 38) dX11_count_38 (by omega) ?_
          refine g_iald (pc := 39) (h - 14) dX11_count_39 hrg1 (IXn (by omega) (by omega)) ?_
          refine GP.ti (nI (rf (h - 14))) (hrg2 _ (by omega)) ?_
          exact g_iret (pc := 40) dX11_count_40 (Or.inr (Or.inl ⟨h, rf (h - 14), rfl, by omega, by unfold cnP; omega, rfl, hB0, EX.rf⟩))
    · exact absurd rfl hzi
abbrev BX11_roots (w0 : Wd) (Post : Option Value → Wd → Prop) (w : Wd) (pc : Nat) (ls : List (Nat × Value)) (st : List Value) : Prop := GP "roots" RX11 cX11_roots 8 (some .int) 1 39 none w0 Post w pc ls st
abbrev EX11_roots (As : List Value) (w : Wd) (Post : Option Value → Wd → Prop) : Prop := EP yX11_roots cX11_roots 8 (some .int) 1 As w Post
theorem ro_loop {w0 w : Wd} {Post : Option Value → Wd → Prop} {X vv b : Nat} {ho9 : Int32} {c : Nat → Int32} {P : PV} (hv : w[vv]? = some (oP P.1 b)) (hb : w[b]? = some (aI 0 (P.1 + 1) c)) (hc : ∀ j, j ≤ P.1 → (c j).toInt = P.2 j) (hk : okP P) (hx : ∀ gr lw : Int32, gr.toInt = rtG P.2 P.1 101 → lw.toInt = rtL P.2 P.1 101 → BX11_roots w0 Post w 86 [(6, .int gr), (5, .int lw), (4, .int (nI (rtN P.2 P.1 101))), (0, .ref X), (2, .int ho9)] []) : ∀ (z q : Nat) (xi gr lw : Int32), 101 = q + z → xi.toInt = (q : Int) - 50 → gr.toInt = rtG P.2 P.1 q → lw.toInt = rtL P.2 P.1 q → BX11_roots w0 Post w 43 [(7, .int xi), (6, .int gr), (5, .int lw), (4, .int (nI (rtN P.2 P.1 q))), (3, .ref vv), (0, .ref X), (2, .int ho9)] [] := by
  intro z
  induction z with
  | zero =>
    intro q xi gr lw hz hxi hgr hlw
    have z50 : (nI 50).toInt = 50 := by decide
    refine g_iload (pc := 43) 0 dX11_roots_43 rfl ?_
    refine g_bipush (pc := 45) (v := nI 50) dX11_roots_45 (by decide) ?_
    refine g_icmp_gt (pc := 47) 86 dX11_roots_47 (by decide) (fun hb9 => ?_) (fun hb9 => ?_)
    · have eq : q = 101 := by omega
      subst eq
      exact GP.lsub _ (by simp) (hx gr lw hgr hlw)
    · rw [Int32.lt_iff_toInt_lt, z50, hxi] at hb9
      exact absurd hb9 (by omega)
  | succ z ih =>
    intro q xi gr lw hz hxi hgr hlw
    have z50 : (nI 50).toInt = 50 := by decide
    have hrl := rtN_le P.2 P.1 q
    obtain ⟨xj, hxj⟩ : ∃ xj : Int32, xi + Int32.ofInt 1 = xj := ⟨_, rfl⟩
    have hxj2 : xj.toInt = ((q + 1 : Nat) : Int) - 50 := by
      have z1 : (Int32.ofInt 1).toInt = 1 := by decide
      rw [← hxj, I_add (by rw [hxi, z1]; omega) (by rw [hxi, z1]; omega), hxi, z1]
      omega
    have hcz : hev (toJ c) xi.toInt P.1 (P.1 + 1) = 0 ↔ hz0 P.2 P.1 q := by
      unfold hz0
      rw [hxi, hev_congr (F := toJ c) (G := P.2) (fun j hj => hc j hj)]
    refine g_iload (pc := 43) 0 dX11_roots_43 rfl ?_
    refine g_bipush (pc := 45) (v := nI 50) dX11_roots_45 (by decide) ?_
    refine g_icmp_gt (pc := 47) 86 dX11_roots_47 (by decide) (fun hb9 => ?_) (fun hb9 => ?_)
    · rw [Int32.lt_iff_toInt_lt, z50, hxi] at hb9
      exact absurd hb9 (by omega)
    · refine g_aload_n (pc := 50) 4 dX11_roots_50 rfl rfl ?_
      refine g_iload (pc := 51) 0 dX11_roots_51 rfl ?_
      refine g_callV (pc := 53) [.int xi] dX11_roots_53 cv_X11_314.1 cv_X11_314.2.1 cv_X11_314.2.2.1 cv_X11_314.2.2.2 hv rfl rfl (Nat.le_of_ble_eq_true rfl) (by decide) (by decide) (sp_isZeroAt _ (x := xi) hv hb hk.1 (fun t ht => by rw [hc t ht]; exact hk.2.1 t ht) ⟨by omega, by omega⟩) ?_
      rintro _ w9 (⟨rfl, h0, e9⟩ | ⟨rfl, h0, e9⟩)
      · refine GP.weq _ e9 ?_
        refine n_if_eq (pc := 56) 80 dX11_roots_56 (by decide) (by omega) (fun hz1 => ?_) (fun hz1 => ?_)
        · exact absurd hz1 (by decide)
        · refine g_iload (pc := 59) 3 dX11_roots_59 rfl ?_
          refine n_if_ne (pc := 61) 69 dX11_roots_61 (by decide) (by omega) (fun hz2 => ?_) (fun hz2 => ?_)
          · refine g_iload (pc := 69) 2 dX11_roots_69 rfl ?_
            refine g_istore (pc := 71) [(5, .int lw), (7, .int xi), (6, .int gr), (4, .int (nI (rtN P.2 P.1 q))), (3, .ref vv), (0, .ref X), (2, .int ho9)] dX11_roots_71 (by decide) rfl ?_
            refine g_iload (pc := 73) 1 dX11_roots_73 rfl ?_
            refine g_istore (pc := 75) [(6, .int xi), (5, .int lw), (7, .int xi), (4, .int (nI (rtN P.2 P.1 q))), (3, .ref vv), (0, .ref X), (2, .int ho9)] dX11_roots_75 (by decide) rfl ?_
            refine n_iinc (pc := 77) (c := 1) [(4, .int (nI ((rtN P.2 P.1 q) + 1))), (6, .int xi), (5, .int lw), (7, .int xi), (3, .ref vv), (0, .ref X), (2, .int ho9)] 3 dX11_roots_77 rfl (by decide) (by decide) rfl ?_
            refine g_iinc (pc := 80) [(7, .int xj), (4, .int (nI ((rtN P.2 P.1 q) + 1))), (6, .int xi), (5, .int lw), (3, .ref vv), (0, .ref X), (2, .int ho9)] 3 dX11_roots_80 rfl hxj (by decide) rfl ?_
            refine g_goto (pc := 83) 43 dX11_roots_83 (by decide) ?_
            have hN : rtN P.2 P.1 (q + 1) = rtN P.2 P.1 q + 1 := by show rtN P.2 P.1 q + _ = _; rw [if_pos (hcz.mp h0)]
            have h9 := ih (q + 1) xj xi lw (by omega) hxj2 (by show _ = if hz0 P.2 P.1 q then _ else _; rw [if_pos (hcz.mp h0)]; exact hxi) (by show _ = if hz0 P.2 P.1 q ∧ rtN P.2 P.1 q = 0 then _ else _; rw [if_neg (fun h9 => hz2 h9.2)]; exact hlw)
            rw [hN] at h9
            exact GP.lsub _ (by simp) h9
          · refine g_iload (pc := 64) 0 dX11_roots_64 rfl ?_
            refine g_goto (pc := 66) 71 dX11_roots_66 (by decide) ?_
            refine g_istore (pc := 71) [(5, .int xi), (7, .int xi), (6, .int gr), (4, .int (nI (rtN P.2 P.1 q))), (3, .ref vv), (0, .ref X), (2, .int ho9)] dX11_roots_71 (by decide) rfl ?_
            refine g_iload (pc := 73) 1 dX11_roots_73 rfl ?_
            refine g_istore (pc := 75) [(6, .int xi), (5, .int xi), (7, .int xi), (4, .int (nI (rtN P.2 P.1 q))), (3, .ref vv), (0, .ref X), (2, .int ho9)] dX11_roots_75 (by decide) rfl ?_
            refine n_iinc (pc := 77) (c := 1) [(4, .int (nI ((rtN P.2 P.1 q) + 1))), (6, .int xi), (5, .int xi), (7, .int xi), (3, .ref vv), (0, .ref X), (2, .int ho9)] 3 dX11_roots_77 rfl (by decide) (by decide) rfl ?_
            refine g_iinc (pc := 80) [(7, .int xj), (4, .int (nI ((rtN P.2 P.1 q) + 1))), (6, .int xi), (5, .int xi), (3, .ref vv), (0, .ref X), (2, .int ho9)] 3 dX11_roots_80 rfl hxj (by decide) rfl ?_
            refine g_goto (pc := 83) 43 dX11_roots_83 (by decide) ?_
            have hN : rtN P.2 P.1 (q + 1) = rtN P.2 P.1 q + 1 := by show rtN P.2 P.1 q + _ = _; rw [if_pos (hcz.mp h0)]
            have h9 := ih (q + 1) xj xi xi (by omega) hxj2 (by show _ = if hz0 P.2 P.1 q then _ else _; rw [if_pos (hcz.mp h0)]; exact hxi) (by show _ = if hz0 P.2 P.1 q ∧ rtN P.2 P.1 q = 0 then _ else _; rw [if_pos ⟨hcz.mp h0, by omega⟩]; exact hxi)
            rw [hN] at h9
            exact GP.lsub _ (by simp) h9
      · refine GP.weq _ e9 ?_
        refine n_if_eq (pc := 56) 80 dX11_roots_56 (by decide) (by omega) (fun hz1 => ?_) (fun hz1 => ?_)
        · refine g_iinc (pc := 80) [(7, .int xj), (6, .int gr), (5, .int lw), (4, .int (nI (rtN P.2 P.1 q))), (3, .ref vv), (0, .ref X), (2, .int ho9)] 0 dX11_roots_80 rfl hxj (by decide) rfl ?_
          refine g_goto (pc := 83) 43 dX11_roots_83 (by decide) ?_
          have hN : rtN P.2 P.1 (q + 1) = rtN P.2 P.1 q := by show rtN P.2 P.1 q + _ = _; rw [if_neg (fun h9 => h0 (hcz.mpr h9))]; rfl
          have h9 := ih (q + 1) xj gr lw (by omega) hxj2 (by show _ = if hz0 P.2 P.1 q then _ else _; rw [if_neg (fun h9 => h0 (hcz.mpr h9))]; exact hgr) (by show _ = if hz0 P.2 P.1 q ∧ rtN P.2 P.1 q = 0 then _ else _; rw [if_neg (fun h9 => h0 (hcz.mpr h9.1))]; exact hlw)
          rw [hN] at h9
          exact GP.lsub _ (by simp) h9
        · exact absurd rfl hz1
theorem sp_roots (w : Wd) {X tl : Nat} {tb : Nat → Int32} {fa st : Int32} {rf : Nat → Nat} {sh : SV} {pn : Nat} {pk : Nat → Nat} {ps : Nat → SV} {im : Nat → Option SV} (hB : bxC w X tl tb fa st rf sh pn pk ps im) {x y : Int32} : EX11_roots [.ref X, .int x, .int y] w (fun r w' => (¬ (isPl x ∧ 0 ≤ y.toInt ∧ y.toInt ≤ 2) ∧ r = some (.int (-2147483648)) ∧ bxC w' X tl tb fa st rf sh pn pk ps im ∧ EX (boxS X) 0 0 w w') ∨ (∃ i h v, x = nI i ∧ i < 8 ∧ y = nI h ∧ h < 3 ∧ r = some (.int v) ∧ ((h = 0 ∧ v = nI (rtN (sh.1 i).2 (sh.1 i).1 101)) ∨ (h = 1 ∧ v.toInt = rtL (sh.1 i).2 (sh.1 i).1 101) ∨ (h = 2 ∧ v.toInt = rtG (sh.1 i).2 (sh.1 i).1 101)) ∧ bxC w' X tl tb fa st rf sh pn pk ps im ∧ EX (boxS X) 0 0 w w')) := by
  refine EP.of (plainFor_of_name (by decide)) [(0, .ref X), (1, .int x), (2, .int y)] rfl (Nat.le_of_ble_eq_true rfl) (fun r wf h => by rcases h with ⟨-, rfl, -⟩ | ⟨i, h, v, -, -, -, -, rfl, -⟩ <;> trivial) ?_
  show BX11_roots w _ w 0 [(0, .ref X), (1, .int x), (2, .int y)] []
  have hB0 := id hB
  obtain ⟨⟨s, hX, hs⟩, htp, hW, hpa, him, hrf⟩ := hB
  have hs0 := id hs
  obtain ⟨sp9, sf9, sh9, hs1, hs2, hs3, hs4, hs5, hs6⟩ := hs
  obtain ⟨htl, tpl, tf, ht1, ht2, ht3⟩ := id htp
  obtain ⟨row9, hrow9⟩ := hW.2.2.2.2.1
  obtain ⟨spa9, hspa9⟩ := hW.2.2.2.2.2
  have z0 : (0 : Int32).toInt = 0 := by decide
  have z2 : (nI 2).toInt = 2 := by decide
  refine g_iload_n (pc := 0) 1 dX11_roots_0 rfl rfl ?_
  refine g_callS (pc := 1) [.int x] dX11_roots_1 cs_X11_95.1 cs_X11_95.2 rfl rfl (Nat.le_of_ble_eq_true rfl) (by decide) (by decide) (sp_isPlace _ (x := x)) ?_
  rintro _ w9 (⟨rfl, hpi, e9⟩ | ⟨rfl, hpi, e9⟩)
  · refine GP.weq _ e9 ?_
    refine n_if_eq (pc := 4) 16 dX11_roots_4 (by decide) (by omega) (fun hzi => ?_) (fun hzi => ?_)
    · exact absurd hzi (by decide)
    · obtain ⟨i, hie, hi⟩ : ∃ i : Nat, x = nI i ∧ i < 8 := ⟨x.toInt.toNat, nI_toNat (by omega), by omega⟩
      subst hie
      refine g_iload_n (pc := 7) 2 dX11_roots_7 rfl rfl ?_
      refine g_if_lt (pc := 8) 16 dX11_roots_8 (by decide) (fun h1 => ?_) (fun h1 => ?_)
      · rw [Int32.lt_iff_toInt_lt, z0] at h1
        refine g_ldc (pc := 16) kc_X11_240 dX11_roots_16 ?_
        exact g_iret (pc := 18) dX11_roots_18 (Or.inl ⟨fun h9 => by have := h9.2; omega, rfl, hB0, EX.rf⟩)
      · rw [Int32.lt_iff_toInt_lt, z0] at h1
        refine g_iload_n (pc := 11) 2 dX11_roots_11 rfl rfl ?_
        refine g_iconst (pc := 12) (v := nI 2) dX11_roots_12 (by decide) ?_
        refine g_icmp_le (pc := 13) 19 dX11_roots_13 (by decide) (fun h2 => ?_) (fun h2 => ?_)
        · rw [Int32.le_iff_toInt_le, z2] at h2
          obtain ⟨h, hhe, hh⟩ : ∃ h : Nat, y = nI h ∧ h < 3 := ⟨y.toInt.toNat, nI_toNat (by omega), by omega⟩
          subst hhe
          obtain ⟨v1, hv1, b1, c1, ho1, hb1, hvB1, hbB1, hc1, hk1⟩ := hs5 i hi
          refine g_aload_n (pc := 19) 0 dX11_roots_19 rfl rfl ?_
          refine g_get (pc := 20) dX11_roots_20 fk_X11_69 hX rfl ?_
          refine g_iload_n (pc := 23) 1 dX11_roots_23 rfl rfl ?_
          refine g_callV (pc := 24) [.int (nI i)] dX11_roots_24 cv_X11_111.1 cv_X11_111.2.1 cv_X11_111.2.2.1 cv_X11_111.2.2.2 hs1 rfl rfl (Nat.le_of_ble_eq_true rfl) (by decide) (by decide) (sp_poly _ (i := i) hs1 hs2 hi hv1) ?_
          rintro _ w9 ⟨rfl, e9⟩
          refine GP.weq _ e9 ?_
          refine g_astore_n (pc := 27) [(3, .ref v1), (0, .ref X), (1, .int (nI i)), (2, .int (nI h))] dX11_roots_27 rfl (by decide) rfl ?_
          refine g_iconst (pc := 28) (v := nI 0) dX11_roots_28 (by decide) ?_
          refine g_istore (pc := 29) [(4, .int (nI 0)), (3, .ref v1), (0, .ref X), (1, .int (nI i)), (2, .int (nI h))] dX11_roots_29 (by decide) rfl ?_
          refine g_ldc (pc := 31) kc_X11_240 dX11_roots_31 ?_
          refine g_istore (pc := 33) [(5, .int (-2147483648)), (4, .int (nI 0)), (3, .ref v1), (0, .ref X), (1, .int (nI i)), (2, .int (nI h))] dX11_roots_33 (by decide) rfl ?_
          refine g_ldc (pc := 35) kc_X11_240 dX11_roots_35 ?_
          refine g_istore (pc := 37) [(6, .int (-2147483648)), (5, .int (-2147483648)), (4, .int (nI 0)), (3, .ref v1), (0, .ref X), (1, .int (nI i)), (2, .int (nI h))] dX11_roots_37 (by decide) rfl ?_
          refine g_bipush (pc := 39) (v := -50) dX11_roots_39 (by decide) ?_
          refine g_istore (pc := 41) [(7, .int (-50)), (6, .int (-2147483648)), (5, .int (-2147483648)), (4, .int (nI 0)), (3, .ref v1), (0, .ref X), (1, .int (nI i)), (2, .int (nI h))] dX11_roots_41 (by decide) rfl ?_
          refine GP.lsub [(7, .int (-50)), (6, .int (-2147483648)), (5, .int (-2147483648)), (4, .int (nI (rtN (sh.1 i).2 (sh.1 i).1 0))), (3, .ref v1), (0, .ref X), (2, .int (nI h))] (by simp [rtN]) ?_
          refine ro_loop (X := X) (ho9 := nI h) (P := sh.1 i) ho1 hb1 hc1 hk1 (fun gr lw hgr hlw => ?_) 101 0 (-50) (-2147483648) (-2147483648) (by omega) (by decide) (by show (-2147483648 : Int32).toInt = -2147483648; decide) (by show (-2147483648 : Int32).toInt = -2147483648; decide)
          refine g_iload_n (pc := 86) 4 dX11_roots_86 rfl rfl ?_
          refine n_if_ne (pc := 87) 93 dX11_roots_87 (by decide) (by omega) (fun h3 => ?_) (fun h3 => ?_)
          · refine g_iload_n (pc := 93) 4 dX11_roots_93 rfl rfl ?_
            refine g_iconst (pc := 94) (v := nI 1) dX11_roots_94 (by decide) ?_
            refine n_icmp_ne (pc := 95) 103 dX11_roots_95 (by decide) (by omega) (by omega) (fun h4 => ?_) (fun h4 => ?_)
            · refine g_iload (pc := 103) 0 dX11_roots_103 rfl ?_
              exact g_iret (pc := 105) dX11_roots_105 (Or.inr ⟨i, h, gr, rfl, hi, rfl, hh, rfl, Or.inr (Or.inr ⟨by omega, hgr⟩), hB0, EX.rf⟩)
            · refine g_iload (pc := 98) 1 dX11_roots_98 rfl ?_
              refine g_goto (pc := 100) 105 dX11_roots_100 (by decide) ?_
              exact g_iret (pc := 105) dX11_roots_105 (Or.inr ⟨i, h, lw, rfl, hi, rfl, hh, rfl, Or.inr (Or.inl ⟨by omega, hlw⟩), hB0, EX.rf⟩)
          · refine g_iload (pc := 90) 2 dX11_roots_90 rfl ?_
            exact g_iret (pc := 92) dX11_roots_92 (Or.inr ⟨i, h, nI (rtN (sh.1 i).2 (sh.1 i).1 101), rfl, hi, rfl, hh, rfl, Or.inl ⟨by omega, rfl⟩, hB0, EX.rf⟩)
        · rw [Int32.le_iff_toInt_le, z2] at h2
          refine g_ldc (pc := 16) kc_X11_240 dX11_roots_16 ?_
          exact g_iret (pc := 18) dX11_roots_18 (Or.inl ⟨fun h9 => by have := h9.2; omega, rfl, hB0, EX.rf⟩)
  · refine GP.weq _ e9 ?_
    refine n_if_eq (pc := 4) 16 dX11_roots_4 (by decide) (by omega) (fun hzi => ?_) (fun hzi => ?_)
    · refine g_ldc (pc := 16) kc_X11_240 dX11_roots_16 ?_
      exact g_iret (pc := 18) dX11_roots_18 (Or.inl ⟨fun h9 => hpi h9.1, rfl, hB0, EX.rf⟩)
    · exact absurd rfl hzi
