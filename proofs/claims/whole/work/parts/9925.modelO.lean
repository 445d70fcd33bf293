/-! the reference: roots, smallest, count -/
theorem isPl_n9 {i : Nat} (h : i < 8) : isPl (nI i) := by
  have e : (nI i).toInt = i := nI_toInt (by omega)
  unfold isPl
  omega
theorem mq_valueI (w : Wd) {Y tl : Nat} {tb : Nat → Int32} {fa st : Int32} {rf : Nat → Nat} {sh : SV} {pn : Nat} {pk : Nat → Nat} {ps : Nat → SV} {im : Nat → Option SV} (hM : mdC w Y tl tb fa st rf sh pn pk ps im) {i : Nat} {y : Int32} (hi : i < 8) (h1 : -50 ≤ y.toInt) (h2 : y.toInt ≤ 50) : EX12_value [.ref Y, .int (nI i), .int y] w (fun r w' => ∃ v : Int64, r = some (.long v) ∧ (v = 0 ↔ hev (sh.1 i).2 y.toInt (sh.1 i).1 ((sh.1 i).1 + 1) = 0) ∧ mdC w' Y tl tb fa st rf sh pn pk ps im ∧ FR (modS Y) w w') := by
  obtain ⟨g2, a2, b2⟩ := hM.2.1.2.1
  have hok := row_ok b2 hi
  refine EP.mono (mq_value w hM) ?_
  rintro r wf (⟨h, -⟩ | ⟨j, v, e, hj, -, -, e2, h3, h4⟩)
  · exact absurd ⟨isPl_n9 hi, h1, h2⟩ h
  · have e3 : j = i := ((nI_inj (by omega) (by omega)).mp e).symm
    subst e3
    refine ⟨v, e2, ?_, h4⟩
    rw [← L0]
    rcases h3 with ⟨g1, g2⟩ | ⟨g1, g2⟩
    · rw [g2]
    · rw [g2]
      exact ⟨fun g => absurd g (by decide), fun g => absurd (hev_fit hok.1 (ok_b hok) h1 h2 g) g1⟩
abbrev BX12_roots (w0 : Wd) (Post : Option Value → Wd → Prop) (w : Wd) (pc : Nat) (ls : List (Nat × Value)) (st : List Value) : Prop := GP "roots" RX12 cX12_roots 7 (some .int) 3 117 none w0 Post w pc ls st
abbrev EX12_roots (As : List Value) (w : Wd) (Post : Option Value → Wd → Prop) : Prop := EP yX12_roots cX12_roots 7 (some .int) 3 As w Post
theorem mro_loop {w0 w : Wd} {Y tl : Nat} {tb : Nat → Int32} {fa st : Int32} {rf : Nat → Nat} {sh : SV} {pn : Nat} {pk : Nat → Nat} {ps : Nat → SV} {im : Nat → Option SV} {i h : Nat} (hi : i < 8) (hh : h < 3) : ∀ (z q : Nat) (w1 : Wd) (xi gr lw : Int32), 101 = q + z → xi.toInt = (q : Int) - 50 → gr.toInt = rtG (sh.1 i).2 (sh.1 i).1 q → lw.toInt = rtL (sh.1 i).2 (sh.1 i).1 q → mdC w1 Y tl tb fa st rf sh pn pk ps im → FR (modS Y) w w1 → BX12_roots w0 (fun r w' => ∃ v, r = some (.int v) ∧ ((h = 0 ∧ v = nI (rtN (sh.1 i).2 (sh.1 i).1 101)) ∨ (h = 1 ∧ v.toInt = rtL (sh.1 i).2 (sh.1 i).1 101) ∨ (h = 2 ∧ v.toInt = rtG (sh.1 i).2 (sh.1 i).1 101)) ∧ mdC w' Y tl tb fa st rf sh pn pk ps im ∧ FR (modS Y) w w') w1 44 [(6, .int xi), (5, .int gr), (4, .int lw), (3, .int (nI (rtN (sh.1 i).2 (sh.1 i).1 q))), (2, .int (nI h)), (1, .int (nI i)), (0, .ref Y)] [] := by
  intro z
  induction z with
  | zero =>
    intro q w1 xi gr lw hz hxi hgr hlw hM1 hF1
    have z50 : (nI 50).toInt = 50 := by decide
    refine g_iload (pc := 44) 0 dX12_roots_44 rfl ?_
    refine g_bipush (pc := 46) (v := nI 50) dX12_roots_46 (by decide) ?_
    refine g_icmp_gt (pc := 48) 89 dX12_roots_48 (by decide) (fun hb9 => ?_) (fun hb9 => ?_)
    · have eq : q = 101 := by omega
      subst eq
      have h012 : h = 0 ∨ h = 1 ∨ h = 2 := by omega
      rcases h012 with rfl | rfl | rfl
      · ·
          refine g_iload_n (pc := 89) 4 dX12_roots_89 rfl rfl ?_
          refine n_if_ne (pc := 90) 97 dX12_roots_90 (by decide) (by omega) (fun h1 => ?_) (fun h1 => ?_)
          · exact absurd rfl h1
          · refine g_iload_n (pc := 93) 3 dX12_roots_93 rfl rfl ?_
            refine g_goto (pc := 94) 109 dX12_roots_94 (by decide) ?_
            exact g_iret (pc := 109) dX12_roots_109 ⟨_, rfl, Or.inl ⟨rfl, rfl⟩, hM1, hF1⟩
      · ·
          refine g_iload_n (pc := 89) 4 dX12_roots_89 rfl rfl ?_
          refine n_if_ne (pc := 90) 97 dX12_roots_90 (by decide) (by omega) (fun h1 => ?_) (fun h1 => ?_)
          · refine g_iload_n (pc := 97) 4 dX12_roots_97 rfl rfl ?_
            refine g_iconst (pc := 98) (v := nI 1) dX12_roots_98 (by decide) ?_
            refine n_icmp_ne (pc := 99) 107 dX12_roots_99 (by decide) (by omega) (by omega) (fun h2 => ?_) (fun h2 => ?_)
            · exact absurd rfl h2
            · refine g_iload (pc := 102) 2 dX12_roots_102 rfl ?_
              refine g_goto (pc := 104) 109 dX12_roots_104 (by decide) ?_
              exact g_iret (pc := 109) dX12_roots_109 ⟨_, rfl, Or.inr (Or.inl ⟨rfl, hlw⟩), hM1, hF1⟩
          · exact absurd h1 (by decide)
      · ·
          refine g_iload_n (pc := 89) 4 dX12_roots_89 rfl rfl ?_
          refine n_if_ne (pc := 90) 97 dX12_roots_90 (by decide) (by omega) (fun h1 => ?_) (fun h1 => ?_)
          · refine g_iload_n (pc := 97) 4 dX12_roots_97 rfl rfl ?_
            refine g_iconst (pc := 98) (v := nI 1) dX12_roots_98 (by decide) ?_
            refine n_icmp_ne (pc := 99) 107 dX12_roots_99 (by decide) (by omega) (by omega) (fun h2 => ?_) (fun h2 => ?_)
            · refine g_iload (pc := 107) 1 dX12_roots_107 rfl ?_
              exact g_iret (pc := 109) dX12_roots_109 ⟨_, rfl, Or.inr (Or.inr ⟨rfl, hgr⟩), hM1, hF1⟩
            · exact absurd h2 (by decide)
          · exact absurd h1 (by decide)
    · rw [Int32.lt_iff_toInt_lt, z50, hxi] at hb9
      exact absurd hb9 (by omega)
  | succ z ih =>
    intro q w1 xi gr lw hz hxi hgr hlw hM1 hF1
    have z50 : (nI 50).toInt = 50 := by decide
    have hrl := rtN_le (sh.1 i).2 (sh.1 i).1 q
    obtain ⟨xj, hxj⟩ : ∃ xj : Int32, xi + Int32.ofInt 1 = xj := ⟨_, rfl⟩
    have hxj2 : xj.toInt = ((q + 1 : Nat) : Int) - 50 := by
      have z1 : (Int32.ofInt 1).toInt = 1 := by decide
      rw [← hxj, I_add (by rw [hxi, z1]; omega) (by rw [hxi, z1]; omega), hxi, z1]
      omega
    obtain ⟨th9, dg9, dd9, ld9, be9, ib9, re9, ig9, cY⟩ := id hM1.1
    refine g_iload (pc := 44) 0 dX12_roots_44 rfl ?_
    refine g_bipush (pc := 46) (v := nI 50) dX12_roots_46 (by decide) ?_
    refine g_icmp_gt (pc := 48) 89 dX12_roots_48 (by decide) (fun hb9 => ?_) (fun hb9 => ?_)
    · rw [Int32.lt_iff_toInt_lt, z50, hxi] at hb9
      exact absurd hb9 (by omega)
    · refine g_aload_n (pc := 51) 6 dX12_roots_51 rfl rfl ?_
      refine g_iload_n (pc := 52) 5 dX12_roots_52 rfl rfl ?_
      refine g_iload (pc := 53) 0 dX12_roots_53 rfl ?_
      refine g_callV (pc := 55) [.int (nI i), .int xi] dX12_roots_55 cv_X12_356.1 cv_X12_356.2.1 cv_X12_356.2.2.1 cv_X12_356.2.2.2 cY rfl rfl (Nat.le_of_ble_eq_true rfl) (by decide) (by decide) (mq_valueI _ hM1 (y := xi) hi (by omega) (by omega)) ?_
      rintro _ w2 ⟨v, rfl, hv0, hM2, hF2⟩
      have hcz : v = 0 ↔ hz0 (sh.1 i).2 (sh.1 i).1 q := by unfold hz0; rw [hv0, hxi]
      refine g_lconst (pc := 58) (v := 0) dX12_roots_58 (by decide) ?_
      refine g_lcmp_ne (pc := 59) 83 dX12_roots_59 dX12_roots_60 (by decide) (fun h0 => ?_) (fun h0 => ?_)
      · refine g_iinc (pc := 83) [(6, .int xj), (5, .int gr), (4, .int lw), (3, .int (nI (rtN (sh.1 i).2 (sh.1 i).1 q))), (2, .int (nI h)), (1, .int (nI i)), (0, .ref Y)] 0 dX12_roots_83 rfl hxj (by decide) rfl ?_
        refine g_goto (pc := 86) 44 dX12_roots_86 (by decide) ?_
        have hN : rtN (sh.1 i).2 (sh.1 i).1 (q + 1) = rtN (sh.1 i).2 (sh.1 i).1 q := by show rtN (sh.1 i).2 (sh.1 i).1 q + _ = _; rw [if_neg (fun h9 => h0 (hcz.mpr h9))]; rfl
        have h9 := ih (q + 1) w2 xj gr lw (by omega) hxj2 (by show _ = if hz0 (sh.1 i).2 (sh.1 i).1 q then _ else _; rw [if_neg (fun h9 => h0 (hcz.mpr h9))]; exact hgr) (by show _ = if hz0 (sh.1 i).2 (sh.1 i).1 q ∧ rtN (sh.1 i).2 (sh.1 i).1 q = 0 then _ else _; rw [if_neg (fun h9 => h0 (hcz.mpr h9.1))]; exact hlw) hM2 (hF1.tr hF2)
        rw [hN] at h9
        exact GP.lsub _ (by simp) h9
      · rw [Classical.not_not] at h0
        refine g_iload_n (pc := 63) 3 dX12_roots_63 rfl rfl ?_
        refine n_if_ne (pc := 64) 72 dX12_roots_64 (by decide) (by omega) (fun hz2 => ?_) (fun hz2 => ?_)
        · refine g_iload (pc := 72) 2 dX12_roots_72 rfl ?_
          refine g_istore (pc := 74) [(4, .int lw), (6, .int xi), (5, .int gr), (3, .int (nI (rtN (sh.1 i).2 (sh.1 i).1 q))), (2, .int (nI h)), (1, .int (nI i)), (0, .ref Y)] dX12_roots_74 (by decide) rfl ?_
          refine g_iload (pc := 76) 1 dX12_roots_76 rfl ?_
          refine g_istore (pc := 78) [(5, .int xi), (4, .int lw), (6, .int xi), (3, .int (nI (rtN (sh.1 i).2 (sh.1 i).1 q))), (2, .int (nI h)), (1, .int (nI i)), (0, .ref Y)] dX12_roots_78 (by decide) rfl ?_
          refine n_iinc (pc := 80) (c := 1) [(3, .int (nI ((rtN (sh.1 i).2 (sh.1 i).1 q) + 1))), (5, .int xi), (4, .int lw), (6, .int xi), (2, .int (nI h)), (1, .int (nI i)), (0, .ref Y)] 3 dX12_roots_80 rfl (by decide) (by decide) rfl ?_
          refine g_iinc (pc := 83) [(6, .int xj), (3, .int (nI ((rtN (sh.1 i).2 (sh.1 i).1 q) + 1))), (5, .int xi), (4, .int lw), (2, .int (nI h)), (1, .int (nI i)), (0, .ref Y)] 3 dX12_roots_83 rfl hxj (by decide) rfl ?_
          refine g_goto (pc := 86) 44 dX12_roots_86 (by decide) ?_
          have hN : rtN (sh.1 i).2 (sh.1 i).1 (q + 1) = rtN (sh.1 i).2 (sh.1 i).1 q + 1 := by show rtN (sh.1 i).2 (sh.1 i).1 q + _ = _; rw [if_pos (hcz.mp h0)]
          have h9 := ih (q + 1) w2 xj xi lw (by omega) hxj2 (by show _ = if hz0 (sh.1 i).2 (sh.1 i).1 q then _ else _; rw [if_pos (hcz.mp h0)]; exact hxi) (by show _ = if hz0 (sh.1 i).2 (sh.1 i).1 q ∧ rtN (sh.1 i).2 (sh.1 i).1 q = 0 then _ else _; rw [if_neg (fun h9 => hz2 h9.2)]; exact hlw) hM2 (hF1.tr hF2)
          rw [hN] at h9
          exact GP.lsub _ (by simp) h9
        · refine g_iload (pc := 67) 0 dX12_roots_67 rfl ?_
          refine g_goto (pc := 69) 74 dX12_roots_69 (by decide) ?_
          refine g_istore (pc := 74) [(4, .int xi), (6, .int xi), (5, .int gr), (3, .int (nI (rtN (sh.1 i).2 (sh.1 i).1 q))), (2, .int (nI h)), (1, .int (nI i)), (0, .ref Y)] dX12_roots_74 (by decide) rfl ?_
          refine g_iload (pc := 76) 1 dX12_roots_76 rfl ?_
          refine g_istore (pc := 78) [(5, .int xi), (4, .int xi), (6, .int xi), (3, .int (nI (rtN (sh.1 i).2 (sh.1 i).1 q))), (2, .int (nI h)), (1, .int (nI i)), (0, .ref Y)] dX12_roots_78 (by decide) rfl ?_
          refine n_iinc (pc := 80) (c := 1) [(3, .int (nI ((rtN (sh.1 i).2 (sh.1 i).1 q) + 1))), (5, .int xi), (4, .int xi), (6, .int xi), (2, .int (nI h)), (1, .int (nI i)), (0, .ref Y)] 3 dX12_roots_80 rfl (by decide) (by decide) rfl ?_
          refine g_iinc (pc := 83) [(6, .int xj), (3, .int (nI ((rtN (sh.1 i).2 (sh.1 i).1 q) + 1))), (5, .int xi), (4, .int xi), (2, .int (nI h)), (1, .int (nI i)), (0, .ref Y)] 3 dX12_roots_83 rfl hxj (by decide) rfl ?_
          refine g_goto (pc := 86) 44 dX12_roots_86 (by decide) ?_
          have hN : rtN (sh.1 i).2 (sh.1 i).1 (q + 1) = rtN (sh.1 i).2 (sh.1 i).1 q + 1 := by show rtN (sh.1 i).2 (sh.1 i).1 q + _ = _; rw [if_pos (hcz.mp h0)]
          have h9 := ih (q + 1) w2 xj xi xi (by omega) hxj2 (by show _ = if hz0 (sh.1 i).2 (sh.1 i).1 q then _ else _; rw [if_pos (hcz.mp h0)]; exact hxi) (by show _ = if hz0 (sh.1 i).2 (sh.1 i).1 q ∧ rtN (sh.1 i).2 (sh.1 i).1 q = 0 then _ else _; rw [if_pos ⟨hcz.mp h0, by omega⟩]; exact hxi) hM2 (hF1.tr hF2)
          rw [hN] at h9
          exact GP.lsub _ (by simp) h9
theorem L2n : (2 : Int64).toInt = 2 := by decide
theorem w2_of {x : Int32} (h : 0 ≤ x.toInt ∧ x.toInt ≤ 2) : ∃ v, x = nI v ∧ v < 3 := ⟨x.toInt.toNat, nI_toNat h.1, by omega⟩
theorem mq_roots (w : Wd) {Y tl : Nat} {tb : Nat → Int32} {fa st : Int32} {rf : Nat → Nat} {sh : SV} {pn : Nat} {pk : Nat → Nat} {ps : Nat → SV} {im : Nat → Option SV} (hM : mdC w Y tl tb fa st rf sh pn pk ps im) {x y : Int32} : EX12_roots [.ref Y, .int x, .int y] w (fun r w' => (¬ (isPl x ∧ 0 ≤ y.toInt ∧ y.toInt ≤ 2) ∧ r = some (.int (-2147483648)) ∧ mdC w' Y tl tb fa st rf sh pn pk ps im ∧ FR (modS Y) w w') ∨ (∃ i h v, x = nI i ∧ i < 8 ∧ y = nI h ∧ h < 3 ∧ r = some (.int v) ∧ ((h = 0 ∧ v = nI (rtN (sh.1 i).2 (sh.1 i).1 101)) ∨ (h = 1 ∧ v.toInt = rtL (sh.1 i).2 (sh.1 i).1 101) ∨ (h = 2 ∧ v.toInt = rtG (sh.1 i).2 (sh.1 i).1 101)) ∧ mdC w' Y tl tb fa st rf sh pn pk ps im ∧ FR (modS Y) w w')) := by
  refine EP.of (plainFor_of_name (by decide)) [(0, .ref Y), (1, .int x), (2, .int y)] rfl (Nat.le_of_ble_eq_true rfl) (fun r wf h => by rcases h with ⟨-, rfl, -⟩ | ⟨i, h, v, -, -, -, -, rfl, -⟩ <;> trivial) ?_
  show BX12_roots w _ w 0 [(0, .ref Y), (1, .int x), (2, .int y)] []
  obtain ⟨⟨th, dg, dd, ld, be, ib, re, ig, hY⟩, ⟨⟨g1, a1, b1⟩, ⟨g2, a2, b2⟩, ⟨g3, g4, a3, a4, b3, b4⟩, ⟨g5, g6, a5, a6, b5⟩, ⟨g11, a11, b11⟩, ⟨g17, a17, b17⟩⟩, ⟨g7, g8, g9, g10, g12, g13, g14, g18, g19, g20, g21, a7, a8, a9, a10, a12, a13, a14, a18, a19, a20, a21⟩, ⟨g15, g16, a15, a16, b15⟩⟩ := id hM
  refine g_aload_n (pc := 0) 0 dX12_roots_0 rfl rfl ?_
  refine g_iconst (pc := 1) (v := nI 0) dX12_roots_1 (by decide) ?_
  refine g_put (pc := 2) (.int (nI 0) :: .int st :: .ref (Y + 1) :: .ref (Y + 2) :: .ref (Y + 3) :: .ref (Y + 4) :: .int (nI pn) :: .ref (Y + 5) :: .ref (Y + 6) :: .ref (Y + 7) :: .int dg :: .ref (Y + 8) :: .int dd :: .ref (Y + 9) :: .ref (Y + 10) :: .ref (Y + 11) :: .ref (Y + 12) :: .int ld :: .int be :: .int ib :: .ref (Y + 13) :: .ref (Y + 14) :: .ref (Y + 15) :: .ref (Y + 16) :: .ref (Y + 17) :: .int (nI tl) :: .int fa :: .int re :: .int ig :: .ref (Y + 18) :: .ref (Y + 19) :: .ref (Y + 20) :: .ref (Y + 21) :: []) dX12_roots_2 fk_X12_83 hY (Nat.le_of_ble_eq_true rfl) rfl rfl ?_
  refine g_iload_n (pc := 5) 1 dX12_roots_5 rfl rfl ?_
  refine g_callS (pc := 6) [.int x] dX12_roots_6 cs_X12_277.1 cs_X12_277.2 rfl rfl (Nat.le_of_ble_eq_true rfl) (by decide) (by decide) (mp_isStore _) ?_
  rintro _ w9 (⟨rfl, hpi, e9⟩ | ⟨rfl, hpi, e9⟩)
  · refine GP.weq _ e9 ?_
    obtain ⟨i, rfl, hi⟩ := pl_of hpi
    refine n_if_eq (pc := 9) 24 dX12_roots_9 (by decide) (by omega) (fun hd9 => ?_) (fun hd9 => ?_)
    · exact absurd hd9 (by decide)
    · refine g_iload_n (pc := 12) 2 dX12_roots_12 rfl rfl ?_
      refine g_i2l (pc := 13) dX12_roots_13 ?_
      refine g_lconst (pc := 14) (v := 0) dX12_roots_14 (by decide) ?_
      refine g_ldc2 (pc := 15) kc_X12_318 dX12_roots_15 ?_
      refine g_callS (pc := 18) [.long y.toInt64, .long 0, .long (2)] dX12_roots_18 cs_X12_103.1 cs_X12_103.2 rfl rfl (Nat.le_of_ble_eq_true rfl) (by decide) (by decide) (mp_in _) ?_
      rintro _ w9 (⟨rfl, hz, e9⟩ | ⟨rfl, hz, e9⟩)
      · refine GP.weq _ e9 ?_
        rw [IL, L2n, L00] at hz
        obtain ⟨h, rfl, hh⟩ := w2_of hz
        refine n_if_ne (pc := 21) 28 dX12_roots_21 (by decide) (by omega) (fun hd9 => ?_) (fun hd9 => ?_)
        · refine g_iconst (pc := 28) (v := nI 0) dX12_roots_28 (by decide) ?_
          refine g_istore_n (pc := 29) [(3, .int (nI 0)), (0, .ref Y), (1, .int (nI i)), (2, .int (nI h))] dX12_roots_29 rfl (by decide) rfl ?_
          refine g_ldcw (pc := 30) kc_X12_337 dX12_roots_30 ?_
          refine g_istore (pc := 33) [(4, .int (-2147483648)), (3, .int (nI 0)), (0, .ref Y), (1, .int (nI i)), (2, .int (nI h))] dX12_roots_33 (by decide) rfl ?_
          refine g_ldcw (pc := 35) kc_X12_337 dX12_roots_35 ?_
          refine g_istore (pc := 38) [(5, .int (-2147483648)), (4, .int (-2147483648)), (3, .int (nI 0)), (0, .ref Y), (1, .int (nI i)), (2, .int (nI h))] dX12_roots_38 (by decide) rfl ?_
          refine g_bipush (pc := 40) (v := -50) dX12_roots_40 (by decide) ?_
          refine g_istore (pc := 42) [(6, .int (-50)), (5, .int (-2147483648)), (4, .int (-2147483648)), (3, .int (nI 0)), (0, .ref Y), (1, .int (nI i)), (2, .int (nI h))] dX12_roots_42 (by decide) rfl ?_
          obtain ⟨w1, ew1⟩ : ∃ wy : Wd, wy = (w.set Y (.inr (11, .int (nI 0) :: .int st :: .ref (Y + 1) :: .ref (Y + 2) :: .ref (Y + 3) :: .ref (Y + 4) :: .int (nI pn) :: .ref (Y + 5) :: .ref (Y + 6) :: .ref (Y + 7) :: .int dg :: .ref (Y + 8) :: .int dd :: .ref (Y + 9) :: .ref (Y + 10) :: .ref (Y + 11) :: .ref (Y + 12) :: .int ld :: .int be :: .int ib :: .ref (Y + 13) :: .ref (Y + 14) :: .ref (Y + 15) :: .ref (Y + 16) :: .ref (Y + 17) :: .int (nI tl) :: .int fa :: .int re :: .int ig :: .ref (Y + 18) :: .ref (Y + 19) :: .ref (Y + 20) :: .ref (Y + 21) :: []))) := ⟨_, rfl⟩
          refine GP.weq w1 ew1.symm ?_
          have hMb : mdC w1 Y tl tb fa st rf sh pn pk ps im := by rw [ew1]; exact ⟨⟨_, _, _, _, _, _, _, _, (lk_eq hY)⟩, ⟨⟨_, (lk_ne (show Y ≠ (Y + 1) by omega) a1), b1⟩, ⟨_, (lk_ne (show Y ≠ (Y + 2) by omega) a2), b2⟩, ⟨_, _, (lk_ne (show Y ≠ (Y + 3) by omega) a3), (lk_ne (show Y ≠ (Y + 4) by omega) a4), b3, b4⟩, ⟨_, _, (lk_ne (show Y ≠ (Y + 5) by omega) a5), (lk_ne (show Y ≠ (Y + 6) by omega) a6), b5⟩, ⟨_, (lk_ne (show Y ≠ (Y + 11) by omega) a11), b11⟩, ⟨_, (lk_ne (show Y ≠ (Y + 17) by omega) a17), b17⟩⟩, ⟨_, _, _, _, _, _, _, _, _, _, _, (lk_ne (show Y ≠ (Y + 7) by omega) a7), (lk_ne (show Y ≠ (Y + 8) by omega) a8), (lk_ne (show Y ≠ (Y + 9) by omega) a9), (lk_ne (show Y ≠ (Y + 10) by omega) a10), (lk_ne (show Y ≠ (Y + 12) by omega) a12), (lk_ne (show Y ≠ (Y + 13) by omega) a13), (lk_ne (show Y ≠ (Y + 14) by omega) a14), (lk_ne (show Y ≠ (Y + 18) by omega) a18), (lk_ne (show Y ≠ (Y + 19) by omega) a19), (lk_ne (show Y ≠ (Y + 20) by omega) a20), (lk_ne (show Y ≠ (Y + 21) by omega) a21)⟩, ⟨_, _, (lk_ne (show Y ≠ (Y + 15) by omega) a15), (lk_ne (show Y ≠ (Y + 16) by omega) a16), b15⟩⟩
          have hFb : FR (modS Y) w w1 := by rw [ew1]; exact (FR.st (c' := .inr (11, .int (nI 0) :: .int st :: .ref (Y + 1) :: .ref (Y + 2) :: .ref (Y + 3) :: .ref (Y + 4) :: .int (nI pn) :: .ref (Y + 5) :: .ref (Y + 6) :: .ref (Y + 7) :: .int dg :: .ref (Y + 8) :: .int dd :: .ref (Y + 9) :: .ref (Y + 10) :: .ref (Y + 11) :: .ref (Y + 12) :: .int ld :: .int be :: .int ib :: .ref (Y + 13) :: .ref (Y + 14) :: .ref (Y + 15) :: .ref (Y + 16) :: .ref (Y + 17) :: .int (nI tl) :: .int fa :: .int re :: .int ig :: .ref (Y + 18) :: .ref (Y + 19) :: .ref (Y + 20) :: .ref (Y + 21) :: [])) FR.rf hY rfl (by unfold modS; omega))
          have cYb : w1[Y]? = some (.inr (11, .int (nI 0) :: .int st :: .ref (Y + 1) :: .ref (Y + 2) :: .ref (Y + 3) :: .ref (Y + 4) :: .int (nI pn) :: .ref (Y + 5) :: .ref (Y + 6) :: .ref (Y + 7) :: .int dg :: .ref (Y + 8) :: .int dd :: .ref (Y + 9) :: .ref (Y + 10) :: .ref (Y + 11) :: .ref (Y + 12) :: .int ld :: .int be :: .int ib :: .ref (Y + 13) :: .ref (Y + 14) :: .ref (Y + 15) :: .ref (Y + 16) :: .ref (Y + 17) :: .int (nI tl) :: .int fa :: .int re :: .int ig :: .ref (Y + 18) :: .ref (Y + 19) :: .ref (Y + 20) :: .ref (Y + 21) :: [])) := by rw [ew1]; exact (lk_eq hY)
          obtain ⟨⟨thb, dgb, ddb, ldb, beb, ibb, reb, igb, hYb⟩, ⟨⟨g1b, a1b, b1b⟩, ⟨g2b, a2b, b2b⟩, ⟨g3b, g4b, a3b, a4b, b3b, b4b⟩, ⟨g5b, g6b, a5b, a6b, b5b⟩, ⟨g11b, a11b, b11b⟩, ⟨g17b, a17b, b17b⟩⟩, ⟨g7b, g8b, g9b, g10b, g12b, g13b, g14b, g18b, g19b, g20b, g21b, a7b, a8b, a9b, a10b, a12b, a13b, a14b, a18b, a19b, a20b, a21b⟩, ⟨g15b, g16b, a15b, a16b, b15b⟩⟩ := id hMb
          refine GP.post ?_ (GP.lsub _ (by simp; rfl) (mro_loop hi hh 101 0 w1 (-50) (-2147483648) (-2147483648) (by omega) (by decide) rfl rfl hMb hFb))
          rintro r wf ⟨v, h1, h2, h3⟩
          exact Or.inr ⟨i, h, v, rfl, hi, rfl, hh, h1, h2, h3⟩
        · exact absurd hd9 (by decide)
      · refine GP.weq _ e9 ?_
        rw [IL, L2n, L00] at hz
        refine n_if_ne (pc := 21) 28 dX12_roots_21 (by decide) (by omega) (fun hd9 => ?_) (fun hd9 => ?_)
        · exact absurd rfl hd9
        · refine g_ldcw (pc := 24) kc_X12_337 dX12_roots_24 ?_
          exact g_iret (pc := 27) dX12_roots_27 (Or.inl ⟨fun g => hz g.2, rfl, ⟨⟨_, _, _, _, _, _, _, _, (lk_eq hY)⟩, ⟨⟨_, (lk_ne (show Y ≠ (Y + 1) by omega) a1), b1⟩, ⟨_, (lk_ne (show Y ≠ (Y + 2) by omega) a2), b2⟩, ⟨_, _, (lk_ne (show Y ≠ (Y + 3) by omega) a3), (lk_ne (show Y ≠ (Y + 4) by omega) a4), b3, b4⟩, ⟨_, _, (lk_ne (show Y ≠ (Y + 5) by omega) a5), (lk_ne (show Y ≠ (Y + 6) by omega) a6), b5⟩, ⟨_, (lk_ne (show Y ≠ (Y + 11) by omega) a11), b11⟩, ⟨_, (lk_ne (show Y ≠ (Y + 17) by omega) a17), b17⟩⟩, ⟨_, _, _, _, _, _, _, _, _, _, _, (lk_ne (show Y ≠ (Y + 7) by omega) a7), (lk_ne (show Y ≠ (Y + 8) by omega) a8), (lk_ne (show Y ≠ (Y + 9) by omega) a9), (lk_ne (show Y ≠ (Y + 10) by omega) a10), (lk_ne (show Y ≠ (Y + 12) by omega) a12), (lk_ne (show Y ≠ (Y + 13) by omega) a13), (lk_ne (show Y ≠ (Y + 14) by omega) a14), (lk_ne (show Y ≠ (Y + 18) by omega) a18), (lk_ne (show Y ≠ (Y + 19) by omega) a19), (lk_ne (show Y ≠ (Y + 20) by omega) a20), (lk_ne (show Y ≠ (Y + 21) by omega) a21)⟩, ⟨_, _, (lk_ne (show Y ≠ (Y + 15) by omega) a15), (lk_ne (show Y ≠ (Y + 16) by omega) a16), b15⟩⟩, (FR.st (c' := .inr (11, .int (nI 0) :: .int st :: .ref (Y + 1) :: .ref (Y + 2) :: .ref (Y + 3) :: .ref (Y + 4) :: .int (nI pn) :: .ref (Y + 5) :: .ref (Y + 6) :: .ref (Y + 7) :: .int dg :: .ref (Y + 8) :: .int dd :: .ref (Y + 9) :: .ref (Y + 10) :: .ref (Y + 11) :: .ref (Y + 12) :: .int ld :: .int be :: .int ib :: .ref (Y + 13) :: .ref (Y + 14) :: .ref (Y + 15) :: .ref (Y + 16) :: .ref (Y + 17) :: .int (nI tl) :: .int fa :: .int re :: .int ig :: .ref (Y + 18) :: .ref (Y + 19) :: .ref (Y + 20) :: .ref (Y + 21) :: [])) FR.rf hY rfl (by unfold modS; omega))⟩)
  · refine GP.weq _ e9 ?_
    refine n_if_eq (pc := 9) 24 dX12_roots_9 (by decide) (by omega) (fun hd9 => ?_) (fun hd9 => ?_)
    · refine g_ldcw (pc := 24) kc_X12_337 dX12_roots_24 ?_
      exact g_iret (pc := 27) dX12_roots_27 (Or.inl ⟨fun g => hpi g.1, rfl, ⟨⟨_, _, _, _, _, _, _, _, (lk_eq hY)⟩, ⟨⟨_, (lk_ne (show Y ≠ (Y + 1) by omega) a1), b1⟩, ⟨_, (lk_ne (show Y ≠ (Y + 2) by omega) a2), b2⟩, ⟨_, _, (lk_ne (show Y ≠ (Y + 3) by omega) a3), (lk_ne (show Y ≠ (Y + 4) by omega) a4), b3, b4⟩, ⟨_, _, (lk_ne (show Y ≠ (Y + 5) by omega) a5), (lk_ne (show Y ≠ (Y + 6) by omega) a6), b5⟩, ⟨_, (lk_ne (show Y ≠ (Y + 11) by omega) a11), b11⟩, ⟨_, (lk_ne (show Y ≠ (Y + 17) by omega) a17), b17⟩⟩, ⟨_, _, _, _, _, _, _, _, _, _, _, (lk_ne (show Y ≠ (Y + 7) by omega) a7), (lk_ne (show Y ≠ (Y + 8) by omega) a8), (lk_ne (show Y ≠ (Y + 9) by omega) a9), (lk_ne (show Y ≠ (Y + 10) by omega) a10), (lk_ne (show Y ≠ (Y + 12) by omega) a12), (lk_ne (show Y ≠ (Y + 13) by omega) a13), (lk_ne (show Y ≠ (Y + 14) by omega) a14), (lk_ne (show Y ≠ (Y + 18) by omega) a18), (lk_ne (show Y ≠ (Y + 19) by omega) a19), (lk_ne (show Y ≠ (Y + 20) by omega) a20), (lk_ne (show Y ≠ (Y + 21) by omega) a21)⟩, ⟨_, _, (lk_ne (show Y ≠ (Y + 15) by omega) a15), (lk_ne (show Y ≠ (Y + 16) by omega) a16), b15⟩⟩, (FR.st (c' := .inr (11, .int (nI 0) :: .int st :: .ref (Y + 1) :: .ref (Y + 2) :: .ref (Y + 3) :: .ref (Y + 4) :: .int (nI pn) :: .ref (Y + 5) :: .ref (Y + 6) :: .ref (Y + 7) :: .int dg :: .ref (Y + 8) :: .int dd :: .ref (Y + 9) :: .ref (Y + 10) :: .ref (Y + 11) :: .ref (Y + 12) :: .int ld :: .int be :: .int ib :: .ref (Y + 13) :: .ref (Y + 14) :: .ref (Y + 15) :: .ref (Y + 16) :: .ref (Y + 17) :: .int (nI tl) :: .int fa :: .int re :: .int ig :: .ref (Y + 18) :: .ref (Y + 19) :: .ref (Y + 20) :: .ref (Y + 21) :: [])) FR.rf hY rfl (by unfold modS; omega))⟩)
    · exact absurd rfl hd9
abbrev BX12_smallest (w0 : Wd) (Post : Option Value → Wd → Prop) (w : Wd) (pc : Nat) (ls : List (Nat × Value)) (st : List Value) : Prop := GP "smallest" RX12 cX12_smallest 6 (some .int) 1 39 none w0 Post w pc ls st
abbrev EX12_smallest (As : List Value) (w : Wd) (Post : Option Value → Wd → Prop) : Prop := EP yX12_smallest cX12_smallest 6 (some .int) 1 As w Post
theorem row_kp {g : Nat → Int32} {V : SV} (h : rowR g V) : g 112 = nI V.2.2.2.2.2.1 ∧ V.2.2.2.2.2.1 ≤ 30 := ⟨h.2.1.1, h.2.2.1.2.1⟩
theorem row_hi {g : Nat → Int32} {V : SV} {i : Nat} (h : rowR g V) (hi : i < V.2.2.2.2.2.1) : (g (116 + 17 * i + 14)).toInt = V.2.2.2.2.2.2 (i * 16 + 13) := (h.2.2.2 i hi).2.1 13 (by omega)
theorem msm_1 {w0 w : Wd} {Y h : Nat} {th st nu dg dd ld be ib ta fa re ig : Int32} {g2 : Nat → Int32} {V : SV} (hY : w[Y]? = some (oM Y th st nu dg dd ld be ib ta fa re ig)) (a2 : w[Y + 2]? = some (aI 0 626 g2)) (hV : rowR g2 V) {Q : Option Value → Wd → Prop} (K : BX12_smallest w0 Q w 95 [(2, .int (nI (fLeI V.2.2.2.2.2.2 V.2.2.2.2.2.1))), (3, .int (nI 0)), (1, .int (nI h)), (0, .ref Y)] []) : ∀ (z i : Nat), V.2.2.2.2.2.1 = i + z → BX12_smallest w0 Q w 36 [(4, .int (nI i)), (2, .int (nI (fLeI V.2.2.2.2.2.2 i))), (3, .int (nI 0)), (1, .int (nI h)), (0, .ref Y)] [] := by
  obtain ⟨hk1, hk2⟩ := row_kp hV
  intro z
  induction z with
  | zero =>
    intro i hz
    refine g_iload (pc := 36) 0 dX12_smallest_36 rfl ?_
    refine g_aload_n (pc := 38) 4 dX12_smallest_38 rfl rfl ?_
    refine g_get (pc := 39) dX12_smallest_39 fk_X12_13 hY rfl ?_
    refine g_bipush (pc := 42) (v := nI 112) dX12_smallest_42 (by decide) ?_
    refine g_iald (pc := 44) 112 dX12_smallest_44 a2 (IXn (by omega) (by omega)) ?_
    refine GP.ti (nI V.2.2.2.2.2.1) hk1 ?_
    refine n_icmp_ge (pc := 45) 95 dX12_smallest_45 (by decide) (by omega) (by omega) (fun hb9 => ?_) (fun hb9 => ?_)
    · have e9 : i = V.2.2.2.2.2.1 := by omega
      rw [e9]
      exact GP.lsub _ (by simp) K
    · exact absurd hb9 (by omega)
  | succ z ih =>
    intro i hz
    have hle := fLeI_lt V.2.2.2.2.2.2 i
    obtain ⟨le, hle9⟩ : ∃ le, le = fLeI V.2.2.2.2.2.2 i := ⟨_, rfl⟩
    rw [← hle9] at hle ⊢
    refine g_iload (pc := 36) 0 dX12_smallest_36 rfl ?_
    refine g_aload_n (pc := 38) 4 dX12_smallest_38 rfl rfl ?_
    refine g_get (pc := 39) dX12_smallest_39 fk_X12_13 hY rfl ?_
    refine g_bipush (pc := 42) (v := nI 112) dX12_smallest_42 (by decide) ?_
    refine g_iald (pc := 44) 112 dX12_smallest_44 a2 (IXn (by omega) (by omega)) ?_
    refine GP.ti (nI V.2.2.2.2.2.1) hk1 ?_
    refine n_icmp_ge (pc := 45) 95 dX12_smallest_45 (by decide) (by omega) (by omega) (fun hb9 => ?_) (fun hb9 => ?_)
    · exact absurd hb9 (by omega)
    · have v1 := row_hi hV (show i < V.2.2.2.2.2.1 by omega)
      have v2 := row_hi hV (show le < V.2.2.2.2.2.1 by omega)
      refine g_aload_n (pc := 48) 4 dX12_smallest_48 rfl rfl ?_
      refine g_get (pc := 49) dX12_smallest_49 fk_X12_13 hY rfl ?_
      refine g_bipush (pc := 52) (v := nI 116) dX12_smallest_52 (by decide) ?_
      refine g_bipush (pc := 54) (v := nI 17) dX12_smallest_54 (by decide) ?_
      refine g_iload (pc := 56) 0 dX12_smallest_56 rfl ?_
      refine n_imul (pc := 58) dX12_smallest_58 ?_
      refine n_iadd (pc := 59) dX12_smallest_59 ?_
      refine g_bipush (pc := 60) (v := nI 14) dX12_smallest_60 (by decide) ?_
      refine n_iadd (pc := 62) dX12_smallest_62 ?_
      refine g_iald (pc := 63) ((116 + (17 * i)) + 14) dX12_smallest_63 a2 (IXn (by omega) (by omega)) ?_
      refine g_aload_n (pc := 64) 4 dX12_smallest_64 rfl rfl ?_
      refine g_get (pc := 65) dX12_smallest_65 fk_X12_13 hY rfl ?_
      refine g_bipush (pc := 68) (v := nI 116) dX12_smallest_68 (by decide) ?_
      refine g_bipush (pc := 70) (v := nI 17) dX12_smallest_70 (by decide) ?_
      refine g_iload_n (pc := 72) 1 dX12_smallest_72 rfl rfl ?_
      refine n_imul (pc := 73) dX12_smallest_73 ?_
      refine n_iadd (pc := 74) dX12_smallest_74 ?_
      refine g_bipush (pc := 75) (v := nI 14) dX12_smallest_75 (by decide) ?_
      refine n_iadd (pc := 77) dX12_smallest_77 ?_
      refine g_iald (pc := 78) ((116 + (17 * le)) + 14) dX12_smallest_78 a2 (IXn (by omega) (by omega)) ?_
      refine g_icmp_ge (pc := 79) 87 dX12_smallest_79 (by decide) (fun hc => ?_) (fun hc => ?_)
      · rw [Int32.le_iff_toInt_le, v1, v2] at hc
        refine g_iload_n (pc := 87) 1 dX12_smallest_87 rfl rfl ?_
        refine g_istore_n (pc := 88) [(2, .int (nI le)), (4, .int (nI i)), (3, .int (nI 0)), (1, .int (nI h)), (0, .ref Y)] dX12_smallest_88 rfl (by decide) rfl ?_
        refine n_iinc (pc := 89) (c := 1) [(4, .int (nI (i + 1))), (2, .int (nI le)), (3, .int (nI 0)), (1, .int (nI h)), (0, .ref Y)] 1 dX12_smallest_89 rfl (by decide) (by decide) rfl ?_
        refine g_goto (pc := 92) 36 dX12_smallest_92 (by decide) ?_
        have h9 := ih (i + 1) (by omega)
        rw [show fLeI V.2.2.2.2.2.2 (i + 1) = le by show (if V.2.2.2.2.2.2 (i * 16 + 13) < V.2.2.2.2.2.2 (fLeI V.2.2.2.2.2.2 i * 16 + 13) then i else fLeI V.2.2.2.2.2.2 i) = le; rw [← hle9]; exact if_neg (by omega)] at h9
        exact GP.lsub _ (by simp) h9
      · rw [Int32.le_iff_toInt_le, v1, v2] at hc
        refine g_iload (pc := 82) 0 dX12_smallest_82 rfl ?_
        refine g_goto (pc := 84) 88 dX12_smallest_84 (by decide) ?_
        refine g_istore_n (pc := 88) [(2, .int (nI i)), (4, .int (nI i)), (3, .int (nI 0)), (1, .int (nI h)), (0, .ref Y)] dX12_smallest_88 rfl (by decide) rfl ?_
        refine n_iinc (pc := 89) (c := 1) [(4, .int (nI (i + 1))), (2, .int (nI i)), (3, .int (nI 0)), (1, .int (nI h)), (0, .ref Y)] 1 dX12_smallest_89 rfl (by decide) (by decide) rfl ?_
        refine g_goto (pc := 92) 36 dX12_smallest_92 (by decide) ?_
        have h9 := ih (i + 1) (by omega)
        rw [show fLeI V.2.2.2.2.2.2 (i + 1) = i by show (if V.2.2.2.2.2.2 (i * 16 + 13) < V.2.2.2.2.2.2 (fLeI V.2.2.2.2.2.2 i * 16 + 13) then i else fLeI V.2.2.2.2.2.2 i) = i; rw [← hle9]; exact if_pos (by omega)] at h9
        exact GP.lsub _ (by simp) h9
theorem msm_2 {w0 w : Wd} {Y h le : Nat} {th st nu dg dd ld be ib ta fa re ig : Int32} {g2 : Nat → Int32} {V : SV} (hY : w[Y]? = some (oM Y th st nu dg dd ld be ib ta fa re ig)) (a2 : w[Y + 2]? = some (aI 0 626 g2)) (hV : rowR g2 V) {hg : Int32} {Q : Option Value → Wd → Prop} (K : BX12_smallest w0 Q w 162 [(3, .int (nI (fMaI V.2.2.2.2.2.2 hg.toInt V.2.2.2.2.2.1))), (4, .int hg), (2, .int (nI le)), (1, .int (nI h)), (0, .ref Y)] []) : ∀ (z i : Nat), V.2.2.2.2.2.1 = i + z → BX12_smallest w0 Q w 115 [(5, .int (nI i)), (3, .int (nI (fMaI V.2.2.2.2.2.2 hg.toInt i))), (4, .int hg), (2, .int (nI le)), (1, .int (nI h)), (0, .ref Y)] [] := by
  obtain ⟨hk1, hk2⟩ := row_kp hV
  intro z
  induction z with
  | zero =>
    intro i hz
    refine g_iload (pc := 115) 0 dX12_smallest_115 rfl ?_
    refine g_aload_n (pc := 117) 5 dX12_smallest_117 rfl rfl ?_
    refine g_get (pc := 118) dX12_smallest_118 fk_X12_13 hY rfl ?_
    refine g_bipush (pc := 121) (v := nI 112) dX12_smallest_121 (by decide) ?_
    refine g_iald (pc := 123) 112 dX12_smallest_123 a2 (IXn (by omega) (by omega)) ?_
    refine GP.ti (nI V.2.2.2.2.2.1) hk1 ?_
    refine n_icmp_ge (pc := 124) 162 dX12_smallest_124 (by decide) (by omega) (by omega) (fun hb9 => ?_) (fun hb9 => ?_)
    · have e9 : i = V.2.2.2.2.2.1 := by omega
      rw [e9]
      exact GP.lsub _ (by simp) K
    · exact absurd hb9 (by omega)
  | succ z ih =>
    intro i hz
    refine g_iload (pc := 115) 0 dX12_smallest_115 rfl ?_
    refine g_aload_n (pc := 117) 5 dX12_smallest_117 rfl rfl ?_
    refine g_get (pc := 118) dX12_smallest_118 fk_X12_13 hY rfl ?_
    refine g_bipush (pc := 121) (v := nI 112) dX12_smallest_121 (by decide) ?_
    refine g_iald (pc := 123) 112 dX12_smallest_123 a2 (IXn (by omega) (by omega)) ?_
    refine GP.ti (nI V.2.2.2.2.2.1) hk1 ?_
    refine n_icmp_ge (pc := 124) 162 dX12_smallest_124 (by decide) (by omega) (by omega) (fun hb9 => ?_) (fun hb9 => ?_)
    · exact absurd hb9 (by omega)
    · have v1 := row_hi hV (show i < V.2.2.2.2.2.1 by omega)
      refine g_iload_n (pc := 127) 1 dX12_smallest_127 rfl rfl ?_
      refine g_aload_n (pc := 128) 5 dX12_smallest_128 rfl rfl ?_
      refine g_get (pc := 129) dX12_smallest_129 fk_X12_13 hY rfl ?_
      refine g_bipush (pc := 132) (v := nI 116) dX12_smallest_132 (by decide) ?_
      refine g_bipush (pc := 134) (v := nI 17) dX12_smallest_134 (by decide) ?_
      refine g_iload (pc := 136) 0 dX12_smallest_136 rfl ?_
      refine n_imul (pc := 138) dX12_smallest_138 ?_
      refine n_iadd (pc := 139) dX12_smallest_139 ?_
      refine g_bipush (pc := 140) (v := nI 14) dX12_smallest_140 (by decide) ?_
      refine n_iadd (pc := 142) dX12_smallest_142 ?_
      refine g_iald (pc := 143) ((116 + (17 * i)) + 14) dX12_smallest_143 a2 (IXn (by omega) (by omega)) ?_
      refine g_iload (pc := 144) 2 dX12_smallest_144 rfl ?_
      refine g_icmp_ne (pc := 146) 153 dX12_smallest_146 (by decide) (fun hc => ?_) (fun hc => ?_)
      · refine g_iconst (pc := 153) (v := nI 0) dX12_smallest_153 (by decide) ?_
        refine n_iadd (pc := 154) dX12_smallest_154 ?_
        refine g_istore_n (pc := 155) [(3, .int (nI ((fMaI V.2.2.2.2.2.2 hg.toInt i) + 0))), (5, .int (nI i)), (4, .int hg), (2, .int (nI le)), (1, .int (nI h)), (0, .ref Y)] dX12_smallest_155 rfl (by decide) rfl ?_
        refine n_iinc (pc := 156) (c := 1) [(5, .int (nI (i + 1))), (3, .int (nI ((fMaI V.2.2.2.2.2.2 hg.toInt i) + 0))), (4, .int hg), (2, .int (nI le)), (1, .int (nI h)), (0, .ref Y)] 1 dX12_smallest_156 rfl (by decide) (by decide) rfl ?_
        refine g_goto (pc := 159) 115 dX12_smallest_159 (by decide) ?_
        have h9 := ih (i + 1) (by omega)
        rw [show fMaI V.2.2.2.2.2.2 hg.toInt (i + 1) = fMaI V.2.2.2.2.2.2 hg.toInt i + 0 by show fMaI V.2.2.2.2.2.2 hg.toInt i + (if V.2.2.2.2.2.2 (i * 16 + 13) = hg.toInt then 1 else 0) = _; rw [← v1, if_neg (fun g => hc (Int32.toInt_inj.mp g))]] at h9
        exact GP.lsub _ (by simp) h9
      · rw [Classical.not_not] at hc
        refine g_iconst (pc := 149) (v := nI 1) dX12_smallest_149 (by decide) ?_
        refine g_goto (pc := 150) 154 dX12_smallest_150 (by decide) ?_
        refine n_iadd (pc := 154) dX12_smallest_154 ?_
        refine g_istore_n (pc := 155) [(3, .int (nI ((fMaI V.2.2.2.2.2.2 hg.toInt i) + 1))), (5, .int (nI i)), (4, .int hg), (2, .int (nI le)), (1, .int (nI h)), (0, .ref Y)] dX12_smallest_155 rfl (by decide) rfl ?_
        refine n_iinc (pc := 156) (c := 1) [(5, .int (nI (i + 1))), (3, .int (nI ((fMaI V.2.2.2.2.2.2 hg.toInt i) + 1))), (4, .int hg), (2, .int (nI le)), (1, .int (nI h)), (0, .ref Y)] 1 dX12_smallest_156 rfl (by decide) (by decide) rfl ?_
        refine g_goto (pc := 159) 115 dX12_smallest_159 (by decide) ?_
        have h9 := ih (i + 1) (by omega)
        rw [show fMaI V.2.2.2.2.2.2 hg.toInt (i + 1) = fMaI V.2.2.2.2.2.2 hg.toInt i + 1 by show fMaI V.2.2.2.2.2.2 hg.toInt i + (if V.2.2.2.2.2.2 (i * 16 + 13) = hg.toInt then 1 else 0) = _; rw [← v1, if_pos (by rw [hc])]] at h9
        exact GP.lsub _ (by simp) h9
theorem mq_smallest (w : Wd) {Y tl : Nat} {tb : Nat → Int32} {fa st : Int32} {rf : Nat → Nat} {sh : SV} {pn : Nat} {pk : Nat → Nat} {ps : Nat → SV} {im : Nat → Option SV} (hM : mdC w Y tl tb fa st rf sh pn pk ps im) {x : Int32} : EX12_smallest [.ref Y, .int x] w (fun r w' => (¬ (sh.2.2.2.2.2.1 ≠ 0 ∧ 0 ≤ x.toInt ∧ x.toInt ≤ 2) ∧ r = some (.int (-1)) ∧ mdC w' Y tl tb fa st rf sh pn pk ps im ∧ FR (modS Y) w w') ∨ (∃ h v, x = nI h ∧ h < 3 ∧ sh.2.2.2.2.2.1 ≠ 0 ∧ r = some (.int v) ∧ ((h = 0 ∧ v = nI (fMaI sh.2.2.2.2.2.2 (sh.2.2.2.2.2.2 (fLeI sh.2.2.2.2.2.2 sh.2.2.2.2.2.1 * 16 + 13)) sh.2.2.2.2.2.1)) ∨ (h = 1 ∧ v = nI (fLeI sh.2.2.2.2.2.2 sh.2.2.2.2.2.1)) ∨ (h = 2 ∧ v.toInt = sh.2.2.2.2.2.2 (fLeI sh.2.2.2.2.2.2 sh.2.2.2.2.2.1 * 16 + 13))) ∧ mdC w' Y tl tb fa st rf sh pn pk ps im ∧ FR (modS Y) w w')) := by
  refine EP.of (plainFor_of_name (by decide)) [(0, .ref Y), (1, .int x)] rfl (Nat.le_of_ble_eq_true rfl) (fun r wf h => by rcases h with ⟨-, rfl, -⟩ | ⟨h, v, -, -, -, rfl, -⟩ <;> trivial) ?_
  show BX12_smallest w _ w 0 [(0, .ref Y), (1, .int x)] []
  obtain ⟨⟨th, dg, dd, ld, be, ib, re, ig, hY⟩, ⟨⟨g1, a1, b1⟩, ⟨g2, a2, b2⟩, ⟨g3, g4, a3, a4, b3, b4⟩, ⟨g5, g6, a5, a6, b5⟩, ⟨g11, a11, b11⟩, ⟨g17, a17, b17⟩⟩, ⟨g7, g8, g9, g10, g12, g13, g14, g18, g19, g20, g21, a7, a8, a9, a10, a12, a13, a14, a18, a19, a20, a21⟩, ⟨g15, g16, a15, a16, b15⟩⟩ := id hM
  obtain ⟨hk1, hk2⟩ := row_kp b2
  refine g_aload_n (pc := 0) 0 dX12_smallest_0 rfl rfl ?_
  refine g_iconst (pc := 1) (v := nI 0) dX12_smallest_1 (by decide) ?_
  refine g_put (pc := 2) (.int (nI 0) :: .int st :: .ref (Y + 1) :: .ref (Y + 2) :: .ref (Y + 3) :: .ref (Y + 4) :: .int (nI pn) :: .ref (Y + 5) :: .ref (Y + 6) :: .ref (Y + 7) :: .int dg :: .ref (Y + 8) :: .int dd :: .ref (Y + 9) :: .ref (Y + 10) :: .ref (Y + 11) :: .ref (Y + 12) :: .int ld :: .int be :: .int ib :: .ref (Y + 13) :: .ref (Y + 14) :: .ref (Y + 15) :: .ref (Y + 16) :: .ref (Y + 17) :: .int (nI tl) :: .int fa :: .int re :: .int ig :: .ref (Y + 18) :: .ref (Y + 19) :: .ref (Y + 20) :: .ref (Y + 21) :: []) dX12_smallest_2 fk_X12_83 hY (Nat.le_of_ble_eq_true rfl) rfl rfl ?_
  refine g_aload_n (pc := 5) 0 dX12_smallest_5 rfl rfl ?_
  refine g_get (pc := 6) dX12_smallest_6 fk_X12_13 (lk_eq hY) rfl ?_
  refine g_bipush (pc := 9) (v := nI 112) dX12_smallest_9 (by decide) ?_
  refine g_iald (pc := 11) 112 dX12_smallest_11 (lk_ne (show Y ≠ (Y + 2) by omega) a2) (IXn (by omega) (by omega)) ?_
  refine GP.ti (nI sh.2.2.2.2.2.1) hk1 ?_
  refine n_if_eq (pc := 12) 27 dX12_smallest_12 (by decide) (by omega) (fun h0 => ?_) (fun h0 => ?_)
  · refine g_iconst (pc := 27) (v := -1) dX12_smallest_27 (by decide) ?_
    exact g_iret (pc := 28) dX12_smallest_28 (Or.inl ⟨fun g => g.1 h0, rfl, ⟨⟨_, _, _, _, _, _, _, _, (lk_eq hY)⟩, ⟨⟨_, (lk_ne (show Y ≠ (Y + 1) by omega) a1), b1⟩, ⟨_, (lk_ne (show Y ≠ (Y + 2) by omega) a2), b2⟩, ⟨_, _, (lk_ne (show Y ≠ (Y + 3) by omega) a3), (lk_ne (show Y ≠ (Y + 4) by omega) a4), b3, b4⟩, ⟨_, _, (lk_ne (show Y ≠ (Y + 5) by omega) a5), (lk_ne (show Y ≠ (Y + 6) by omega) a6), b5⟩, ⟨_, (lk_ne (show Y ≠ (Y + 11) by omega) a11), b11⟩, ⟨_, (lk_ne (show Y ≠ (Y + 17) by omega) a17), b17⟩⟩, ⟨_, _, _, _, _, _, _, _, _, _, _, (lk_ne (show Y ≠ (Y + 7) by omega) a7), (lk_ne (show Y ≠ (Y + 8) by omega) a8), (lk_ne (show Y ≠ (Y + 9) by omega) a9), (lk_ne (show Y ≠ (Y + 10) by omega) a10), (lk_ne (show Y ≠ (Y + 12) by omega) a12), (lk_ne (show Y ≠ (Y + 13) by omega) a13), (lk_ne (show Y ≠ (Y + 14) by omega) a14), (lk_ne (show Y ≠ (Y + 18) by omega) a18), (lk_ne (show Y ≠ (Y + 19) by omega) a19), (lk_ne (show Y ≠ (Y + 20) by omega) a20), (lk_ne (show Y ≠ (Y + 21) by omega) a21)⟩, ⟨_, _, (lk_ne (show Y ≠ (Y + 15) by omega) a15), (lk_ne (show Y ≠ (Y + 16) by omega) a16), b15⟩⟩, (FR.st (c' := .inr (11, .int (nI 0) :: .int st :: .ref (Y + 1) :: .ref (Y + 2) :: .ref (Y + 3) :: .ref (Y + 4) :: .int (nI pn) :: .ref (Y + 5) :: .ref (Y + 6) :: .ref (Y + 7) :: .int dg :: .ref (Y + 8) :: .int dd :: .ref (Y + 9) :: .ref (Y + 10) :: .ref (Y + 11) :: .ref (Y + 12) :: .int ld :: .int be :: .int ib :: .ref (Y + 13) :: .ref (Y + 14) :: .ref (Y + 15) :: .ref (Y + 16) :: .ref (Y + 17) :: .int (nI tl) :: .int fa :: .int re :: .int ig :: .ref (Y + 18) :: .ref (Y + 19) :: .ref (Y + 20) :: .ref (Y + 21) :: [])) FR.rf hY rfl (by unfold modS; omega))⟩)
  · refine g_iload_n (pc := 15) 1 dX12_smallest_15 rfl rfl ?_
    refine g_i2l (pc := 16) dX12_smallest_16 ?_
    refine g_lconst (pc := 17) (v := 0) dX12_smallest_17 (by decide) ?_
    refine g_ldc2 (pc := 18) kc_X12_318 dX12_smallest_18 ?_
    refine g_callS (pc := 21) [.long x.toInt64, .long 0, .long (2)] dX12_smallest_21 cs_X12_103.1 cs_X12_103.2 rfl rfl (Nat.le_of_ble_eq_true rfl) (by decide) (by decide) (mp_in _) ?_
    rintro _ w9 (⟨rfl, hz, e9⟩ | ⟨rfl, hz, e9⟩)
    · refine GP.weq _ e9 ?_
      rw [IL, L2n, L00] at hz
      obtain ⟨h, rfl, hh⟩ := w2_of hz
      refine n_if_ne (pc := 24) 29 dX12_smallest_24 (by decide) (by omega) (fun hd9 => ?_) (fun hd9 => ?_)
      · refine g_iconst (pc := 29) (v := nI 0) dX12_smallest_29 (by decide) ?_
        refine g_istore_n (pc := 30) [(2, .int (nI 0)), (0, .ref Y), (1, .int (nI h))] dX12_smallest_30 rfl (by decide) rfl ?_
        refine g_iconst (pc := 31) (v := nI 0) dX12_smallest_31 (by decide) ?_
        refine g_istore_n (pc := 32) [(3, .int (nI 0)), (2, .int (nI 0)), (0, .ref Y), (1, .int (nI h))] dX12_smallest_32 rfl (by decide) rfl ?_
        refine g_iconst (pc := 33) (v := nI 0) dX12_smallest_33 (by decide) ?_
        refine g_istore (pc := 34) [(4, .int (nI 0)), (3, .int (nI 0)), (2, .int (nI 0)), (0, .ref Y), (1, .int (nI h))] dX12_smallest_34 (by decide) rfl ?_
        obtain ⟨w1, ew1⟩ : ∃ wy : Wd, wy = (w.set Y (.inr (11, .int (nI 0) :: .int st :: .ref (Y + 1) :: .ref (Y + 2) :: .ref (Y + 3) :: .ref (Y + 4) :: .int (nI pn) :: .ref (Y + 5) :: .ref (Y + 6) :: .ref (Y + 7) :: .int dg :: .ref (Y + 8) :: .int dd :: .ref (Y + 9) :: .ref (Y + 10) :: .ref (Y + 11) :: .ref (Y + 12) :: .int ld :: .int be :: .int ib :: .ref (Y + 13) :: .ref (Y + 14) :: .ref (Y + 15) :: .ref (Y + 16) :: .ref (Y + 17) :: .int (nI tl) :: .int fa :: .int re :: .int ig :: .ref (Y + 18) :: .ref (Y + 19) :: .ref (Y + 20) :: .ref (Y + 21) :: []))) := ⟨_, rfl⟩
        refine GP.weq w1 ew1.symm ?_
        have hMb : mdC w1 Y tl tb fa st rf sh pn pk ps im := by rw [ew1]; exact ⟨⟨_, _, _, _, _, _, _, _, (lk_eq hY)⟩, ⟨⟨_, (lk_ne (show Y ≠ (Y + 1) by omega) a1), b1⟩, ⟨_, (lk_ne (show Y ≠ (Y + 2) by omega) a2), b2⟩, ⟨_, _, (lk_ne (show Y ≠ (Y + 3) by omega) a3), (lk_ne (show Y ≠ (Y + 4) by omega) a4), b3, b4⟩, ⟨_, _, (lk_ne (show Y ≠ (Y + 5) by omega) a5), (lk_ne (show Y ≠ (Y + 6) by omega) a6), b5⟩, ⟨_, (lk_ne (show Y ≠ (Y + 11) by omega) a11), b11⟩, ⟨_, (lk_ne (show Y ≠ (Y + 17) by omega) a17), b17⟩⟩, ⟨_, _, _, _, _, _, _, _, _, _, _, (lk_ne (show Y ≠ (Y + 7) by omega) a7), (lk_ne (show Y ≠ (Y + 8) by omega) a8), (lk_ne (show Y ≠ (Y + 9) by omega) a9), (lk_ne (show Y ≠ (Y + 10) by omega) a10), (lk_ne (show Y ≠ (Y + 12) by omega) a12), (lk_ne (show Y ≠ (Y + 13) by omega) a13), (lk_ne (show Y ≠ (Y + 14) by omega) a14), (lk_ne (show Y ≠ (Y + 18) by omega) a18), (lk_ne (show Y ≠ (Y + 19) by omega) a19), (lk_ne (show Y ≠ (Y + 20) by omega) a20), (lk_ne (show Y ≠ (Y + 21) by omega) a21)⟩, ⟨_, _, (lk_ne (show Y ≠ (Y + 15) by omega) a15), (lk_ne (show Y ≠ (Y + 16) by omega) a16), b15⟩⟩
        have hFb : FR (modS Y) w w1 := by rw [ew1]; exact (FR.st (c' := .inr (11, .int (nI 0) :: .int st :: .ref (Y + 1) :: .ref (Y + 2) :: .ref (Y + 3) :: .ref (Y + 4) :: .int (nI pn) :: .ref (Y + 5) :: .ref (Y + 6) :: .ref (Y + 7) :: .int dg :: .ref (Y + 8) :: .int dd :: .ref (Y + 9) :: .ref (Y + 10) :: .ref (Y + 11) :: .ref (Y + 12) :: .int ld :: .int be :: .int ib :: .ref (Y + 13) :: .ref (Y + 14) :: .ref (Y + 15) :: .ref (Y + 16) :: .ref (Y + 17) :: .int (nI tl) :: .int fa :: .int re :: .int ig :: .ref (Y + 18) :: .ref (Y + 19) :: .ref (Y + 20) :: .ref (Y + 21) :: [])) FR.rf hY rfl (by unfold modS; omega))
        have c2b : w1[Y + 2]? = some (aI 0 626 g2) := by rw [ew1]; exact (lk_ne (show Y ≠ (Y + 2) by omega) a2)
        have cYb : w1[Y]? = some (.inr (11, .int (nI 0) :: .int st :: .ref (Y + 1) :: .ref (Y + 2) :: .ref (Y + 3) :: .ref (Y + 4) :: .int (nI pn) :: .ref (Y + 5) :: .ref (Y + 6) :: .ref (Y + 7) :: .int dg :: .ref (Y + 8) :: .int dd :: .ref (Y + 9) :: .ref (Y + 10) :: .ref (Y + 11) :: .ref (Y + 12) :: .int ld :: .int be :: .int ib :: .ref (Y + 13) :: .ref (Y + 14) :: .ref (Y + 15) :: .ref (Y + 16) :: .ref (Y + 17) :: .int (nI tl) :: .int fa :: .int re :: .int ig :: .ref (Y + 18) :: .ref (Y + 19) :: .ref (Y + 20) :: .ref (Y + 21) :: [])) := by rw [ew1]; exact (lk_eq hY)
        obtain ⟨⟨thb, dgb, ddb, ldb, beb, ibb, reb, igb, hYb⟩, ⟨⟨g1b, a1b, b1b⟩, ⟨g2b, a2b, b2b⟩, ⟨g3b, g4b, a3b, a4b, b3b, b4b⟩, ⟨g5b, g6b, a5b, a6b, b5b⟩, ⟨g11b, a11b, b11b⟩, ⟨g17b, a17b, b17b⟩⟩, ⟨g7b, g8b, g9b, g10b, g12b, g13b, g14b, g18b, g19b, g20b, g21b, a7b, a8b, a9b, a10b, a12b, a13b, a14b, a18b, a19b, a20b, a21b⟩, ⟨g15b, g16b, a15b, a16b, b15b⟩⟩ := id hMb
        refine GP.lsub _ (by simp; rfl) (msm_1 (h := h) cYb c2b b2 ?_ sh.2.2.2.2.2.1 0 (by omega))
        obtain ⟨le, hle9⟩ : ∃ le, le = fLeI sh.2.2.2.2.2.2 sh.2.2.2.2.2.1 := ⟨_, rfl⟩
        have hle := fLeI_lt sh.2.2.2.2.2.2 sh.2.2.2.2.2.1
        rw [← hle9] at hle ⊢
        have v2 := row_hi b2 (show le < sh.2.2.2.2.2.1 by omega)
        refine g_aload_n (pc := 95) 3 dX12_smallest_95 rfl rfl ?_
        refine g_get (pc := 96) dX12_smallest_96 fk_X12_13 cYb rfl ?_
        refine g_bipush (pc := 99) (v := nI 116) dX12_smallest_99 (by decide) ?_
        refine g_bipush (pc := 101) (v := nI 17) dX12_smallest_101 (by decide) ?_
        refine g_iload_n (pc := 103) 0 dX12_smallest_103 rfl rfl ?_
        refine n_imul (pc := 104) dX12_smallest_104 ?_
        refine n_iadd (pc := 105) dX12_smallest_105 ?_
        refine g_bipush (pc := 106) (v := nI 14) dX12_smallest_106 (by decide) ?_
        refine n_iadd (pc := 108) dX12_smallest_108 ?_
        refine g_iald (pc := 109) ((116 + (17 * le)) + 14) dX12_smallest_109 c2b (IXn (by omega) (by omega)) ?_
        obtain ⟨hg, hhg⟩ : ∃ hg, hg = g2 (116 + 17 * le + 14) := ⟨_, rfl⟩
        refine GP.ti hg hhg.symm ?_
        refine g_istore (pc := 110) [(4, .int hg), (2, .int (nI le)), (3, .int (nI 0)), (1, .int (nI h)), (0, .ref Y)] dX12_smallest_110 (by decide) rfl ?_
        refine g_iconst (pc := 112) (v := nI 0) dX12_smallest_112 (by decide) ?_
        refine g_istore (pc := 113) [(5, .int (nI 0)), (4, .int hg), (2, .int (nI le)), (3, .int (nI 0)), (1, .int (nI h)), (0, .ref Y)] dX12_smallest_113 (by decide) rfl ?_
        rw [← hhg] at v2
        refine GP.lsub _ (by simp; rfl) (msm_2 (h := h) (le := le) (hg := hg) cYb c2b b2 ?_ sh.2.2.2.2.2.1 0 (by omega))
        have h012 : h = 0 ∨ h = 1 ∨ h = 2 := by omega
        rcases h012 with rfl | rfl | rfl
        · ·
            refine g_iload_n (pc := 162) 3 dX12_smallest_162 rfl rfl ?_
            refine n_if_ne (pc := 163) 170 dX12_smallest_163 (by decide) (by omega) (fun h1 => ?_) (fun h1 => ?_)
            · exact absurd rfl h1
            · refine g_iload_n (pc := 166) 0 dX12_smallest_166 rfl rfl ?_
              refine g_goto (pc := 167) 181 dX12_smallest_167 (by decide) ?_
              exact g_iret (pc := 181) dX12_smallest_181 (Or.inr ⟨0, _, rfl, by omega, h0, rfl, Or.inl ⟨rfl, by rw [← v2]⟩, hMb, hFb⟩)
        · ·
            refine g_iload_n (pc := 162) 3 dX12_smallest_162 rfl rfl ?_
            refine n_if_ne (pc := 163) 170 dX12_smallest_163 (by decide) (by omega) (fun h1 => ?_) (fun h1 => ?_)
            · refine g_iload_n (pc := 170) 3 dX12_smallest_170 rfl rfl ?_
              refine g_iconst (pc := 171) (v := nI 1) dX12_smallest_171 (by decide) ?_
              refine n_icmp_ne (pc := 172) 179 dX12_smallest_172 (by decide) (by omega) (by omega) (fun h2 => ?_) (fun h2 => ?_)
              · exact absurd rfl h2
              · refine g_iload_n (pc := 175) 2 dX12_smallest_175 rfl rfl ?_
                refine g_goto (pc := 176) 181 dX12_smallest_176 (by decide) ?_
                exact g_iret (pc := 181) dX12_smallest_181 (Or.inr ⟨1, _, rfl, by omega, h0, rfl, Or.inr (Or.inl ⟨rfl, rfl⟩), hMb, hFb⟩)
            · exact absurd h1 (by decide)
        · ·
            refine g_iload_n (pc := 162) 3 dX12_smallest_162 rfl rfl ?_
            refine n_if_ne (pc := 163) 170 dX12_smallest_163 (by decide) (by omega) (fun h1 => ?_) (fun h1 => ?_)
            · refine g_iload_n (pc := 170) 3 dX12_smallest_170 rfl rfl ?_
              refine g_iconst (pc := 171) (v := nI 1) dX12_smallest_171 (by decide) ?_
              refine n_icmp_ne (pc := 172) 179 dX12_smallest_172 (by decide) (by omega) (by omega) (fun h2 => ?_) (fun h2 => ?_)
              · refine g_iload (pc := 179) 1 dX12_smallest_179 rfl ?_
                exact g_iret (pc := 181) dX12_smallest_181 (Or.inr ⟨2, _, rfl, by omega, h0, rfl, Or.inr (Or.inr ⟨rfl, v2⟩), hMb, hFb⟩)
              · exact absurd h2 (by decide)
            · exact absurd h1 (by decide)
      · exact absurd hd9 (by decide)
    · refine GP.weq _ e9 ?_
      rw [IL, L2n, L00] at hz
      refine n_if_ne (pc := 24) 29 dX12_smallest_24 (by decide) (by omega) (fun hd9 => ?_) (fun hd9 => ?_)
      · exact absurd rfl hd9
      · refine g_iconst (pc := 27) (v := -1) dX12_smallest_27 (by decide) ?_
        exact g_iret (pc := 28) dX12_smallest_28 (Or.inl ⟨fun g => hz g.2, rfl, ⟨⟨_, _, _, _, _, _, _, _, (lk_eq hY)⟩, ⟨⟨_, (lk_ne (show Y ≠ (Y + 1) by omega) a1), b1⟩, ⟨_, (lk_ne (show Y ≠ (Y + 2) by omega) a2), b2⟩, ⟨_, _, (lk_ne (show Y ≠ (Y + 3) by omega) a3), (lk_ne (show Y ≠ (Y + 4) by omega) a4), b3, b4⟩, ⟨_, _, (lk_ne (show Y ≠ (Y + 5) by omega) a5), (lk_ne (show Y ≠ (Y + 6) by omega) a6), b5⟩, ⟨_, (lk_ne (show Y ≠ (Y + 11) by omega) a11), b11⟩, ⟨_, (lk_ne (show Y ≠ (Y + 17) by omega) a17), b17⟩⟩, ⟨_, _, _, _, _, _, _, _, _, _, _, (lk_ne (show Y ≠ (Y + 7) by omega) a7), (lk_ne (show Y ≠ (Y + 8) by omega) a8), (lk_ne (show Y ≠ (Y + 9) by omega) a9), (lk_ne (show Y ≠ (Y + 10) by omega) a10), (lk_ne (show Y ≠ (Y + 12) by omega) a12), (lk_ne (show Y ≠ (Y + 13) by omega) a13), (lk_ne (show Y ≠ (Y + 14) by omega) a14), (lk_ne (show Y ≠ (Y + 18) by omega) a18), (lk_ne (show Y ≠ (Y + 19) by omega) a19), (lk_ne (show Y ≠ (Y + 20) by omega) a20), (lk_ne (show Y ≠ (Y + 21) by omega) a21)⟩, ⟨_, _, (lk_ne (show Y ≠ (Y + 15) by omega) a15), (lk_ne (show Y ≠ (Y + 16) by omega) a16), b15⟩⟩, (FR.st (c' := .inr (11, .int (nI 0) :: .int st :: .ref (Y + 1) :: .ref (Y + 2) :: .ref (Y + 3) :: .ref (Y + 4) :: .int (nI pn) :: .ref (Y + 5) :: .ref (Y + 6) :: .ref (Y + 7) :: .int dg :: .ref (Y + 8) :: .int dd :: .ref (Y + 9) :: .ref (Y + 10) :: .ref (Y + 11) :: .ref (Y + 12) :: .int ld :: .int be :: .int ib :: .ref (Y + 13) :: .ref (Y + 14) :: .ref (Y + 15) :: .ref (Y + 16) :: .ref (Y + 17) :: .int (nI tl) :: .int fa :: .int re :: .int ig :: .ref (Y + 18) :: .ref (Y + 19) :: .ref (Y + 20) :: .ref (Y + 21) :: [])) FR.rf hY rfl (by unfold modS; omega))⟩)
abbrev BX12_count (w0 : Wd) (Post : Option Value → Wd → Prop) (w : Wd) (pc : Nat) (ls : List (Nat × Value)) (st : List Value) : Prop := GP "count" RX12 cX12_count 2 (some .int) 1 39 none w0 Post w pc ls st
abbrev EX12_count (As : List Value) (w : Wd) (Post : Option Value → Wd → Prop) : Prop := EP yX12_count cX12_count 2 (some .int) 1 As w Post
theorem mq_count (w : Wd) {Y tl : Nat} {tb : Nat → Int32} {fa st : Int32} {rf : Nat → Nat} {sh : SV} {pn : Nat} {pk : Nat → Nat} {ps : Nat → SV} {im : Nat → Option SV} (hM : mdC w Y tl tb fa st rf sh pn pk ps im) {x : Int32} : EX12_count [.ref Y, .int x] w (fun r w' => (∃ i, x = nI i ∧ i < 8 ∧ r = some (.int (nI (sh.1 i).1)) ∧ mdC w' Y tl tb fa st rf sh pn pk ps im ∧ FR (modS Y) w w') ∨ (∃ h v, x = nI h ∧ (8 ≤ h ∧ h < 19) ∧ cnP sh pn tl rf h v ∧ r = some (.int (nI v)) ∧ mdC w' Y tl tb fa st rf sh pn pk ps im ∧ FR (modS Y) w w') ∨ (¬ (0 ≤ x.toInt ∧ x.toInt ≤ 18) ∧ r = some (.int (-1)) ∧ mdC w' Y tl tb fa st rf sh pn pk ps im ∧ FR (modS Y) w w')) := by
  refine EP.of (plainFor_of_name (by decide)) [(0, .ref Y), (1, .int x)] rfl (Nat.le_of_ble_eq_true rfl) (fun r wf h => by rcases h with ⟨i, -, -, rfl, -⟩ | ⟨h, v, -, -, -, rfl, -⟩ | ⟨-, rfl, -⟩ <;> trivial) ?_
  show BX12_count w _ w 0 [(0, .ref Y), (1, .int x)] []
  obtain ⟨⟨th, dg, dd, ld, be, ib, re, ig, hY⟩, ⟨⟨g1, a1, b1⟩, ⟨g2, a2, b2⟩, ⟨g3, g4, a3, a4, b3, b4⟩, ⟨g5, g6, a5, a6, b5⟩, ⟨g11, a11, b11⟩, ⟨g17, a17, b17⟩⟩, ⟨g7, g8, g9, g10, g12, g13, g14, g18, g19, g20, g21, a7, a8, a9, a10, a12, a13, a14, a18, a19, a20, a21⟩, ⟨g15, g16, a15, a16, b15⟩⟩ := id hM
  refine g_aload_n (pc := 0) 0 dX12_count_0 rfl rfl ?_
  refine g_iconst (pc := 1) (v := nI 0) dX12_count_1 (by decide) ?_
  refine g_put (pc := 2) (.int (nI 0) :: .int st :: .ref (Y + 1) :: .ref (Y + 2) :: .ref (Y + 3) :: .ref (Y + 4) :: .int (nI pn) :: .ref (Y + 5) :: .ref (Y + 6) :: .ref (Y + 7) :: .int dg :: .ref (Y + 8) :: .int dd :: .ref (Y + 9) :: .ref (Y + 10) :: .ref (Y + 11) :: .ref (Y + 12) :: .int ld :: .int be :: .int ib :: .ref (Y + 13) :: .ref (Y + 14) :: .ref (Y + 15) :: .ref (Y + 16) :: .ref (Y + 17) :: .int (nI tl) :: .int fa :: .int re :: .int ig :: .ref (Y + 18) :: .ref (Y + 19) :: .ref (Y + 20) :: .ref (Y + 21) :: []) dX12_count_2 fk_X12_83 hY (Nat.le_of_ble_eq_true rfl) rfl rfl ?_
  refine g_iload_n (pc := 5) 1 dX12_count_5 rfl rfl ?_
  by_cases h818 : 8 ≤ x.toInt ∧ x.toInt ≤ 18
  · ·
      obtain ⟨h, rfl, hh1, hh2⟩ : ∃ h : Nat, x = nI h ∧ 8 ≤ h ∧ h < 19 := ⟨x.toInt.toNat, nI_toNat (by omega), by omega, by omega⟩
      clear h818
      rcases (show h = 8 ∨ h = 9 ∨ h = 10 ∨ h = 11 ∨ h = 12 ∨ h = 13 ∨ h = 14 ∨ h = 15 ∨ h = 16 ∨ h = 17 ∨ h = 18 by omega) with rfl | rfl | rfl | rfl | rfl | rfl | rfl | rfl | rfl | rfl | rfl
      · ·
          refine g_tabIn (pc := 6) (off := 58) 64 dX12_count_6 (by decide) (by decide) (by decide) (by decide) ?_
          refine g_aload_n (pc := 64) 0 dX12_count_64 rfl rfl ?_
          refine g_get (pc := 65) dX12_count_65 fk_X12_13 (lk_eq hY) rfl ?_
          refine g_bipush (pc := 68) (v := nI 112) dX12_count_68 (by decide) ?_
          refine g_iald (pc := 70) 112 dX12_count_70 (lk_ne (show Y ≠ (Y + 2) by omega) a2) (IXn (by omega) (by omega)) ?_
          refine GP.ti (nI sh.2.2.2.2.2.1) b2.2.1.1 ?_
          exact g_iret (pc := 71) dX12_count_71 (Or.inr (Or.inl ⟨8, sh.2.2.2.2.2.1, rfl, by omega, by unfold cnP; simp, rfl, ⟨⟨_, _, _, _, _, _, _, _, (lk_eq hY)⟩, ⟨⟨_, (lk_ne (show Y ≠ (Y + 1) by omega) a1), b1⟩, ⟨_, (lk_ne (show Y ≠ (Y + 2) by omega) a2), b2⟩, ⟨_, _, (lk_ne (show Y ≠ (Y + 3) by omega) a3), (lk_ne (show Y ≠ (Y + 4) by omega) a4), b3, b4⟩, ⟨_, _, (lk_ne (show Y ≠ (Y + 5) by omega) a5), (lk_ne (show Y ≠ (Y + 6) by omega) a6), b5⟩, ⟨_, (lk_ne (show Y ≠ (Y + 11) by omega) a11), b11⟩, ⟨_, (lk_ne (show Y ≠ (Y + 17) by omega) a17), b17⟩⟩, ⟨_, _, _, _, _, _, _, _, _, _, _, (lk_ne (show Y ≠ (Y + 7) by omega) a7), (lk_ne (show Y ≠ (Y + 8) by omega) a8), (lk_ne (show Y ≠ (Y + 9) by omega) a9), (lk_ne (show Y ≠ (Y + 10) by omega) a10), (lk_ne (show Y ≠ (Y + 12) by omega) a12), (lk_ne (show Y ≠ (Y + 13) by omega) a13), (lk_ne (show Y ≠ (Y + 14) by omega) a14), (lk_ne (show Y ≠ (Y + 18) by omega) a18), (lk_ne (show Y ≠ (Y + 19) by omega) a19), (lk_ne (show Y ≠ (Y + 20) by omega) a20), (lk_ne (show Y ≠ (Y + 21) by omega) a21)⟩, ⟨_, _, (lk_ne (show Y ≠ (Y + 15) by omega) a15), (lk_ne (show Y ≠ (Y + 16) by omega) a16), b15⟩⟩, (FR.st (c' := .inr (11, .int (nI 0) :: .int st :: .ref (Y + 1) :: .ref (Y + 2) :: .ref (Y + 3) :: .ref (Y + 4) :: .int (nI pn) :: .ref (Y + 5) :: .ref (Y + 6) :: .ref (Y + 7) :: .int dg :: .ref (Y + 8) :: .int dd :: .ref (Y + 9) :: .ref (Y + 10) :: .ref (Y + 11) :: .ref (Y + 12) :: .int ld :: .int be :: .int ib :: .ref (Y + 13) :: .ref (Y + 14) :: .ref (Y + 15) :: .ref (Y + 16) :: .ref (Y + 17) :: .int (nI tl) :: .int fa :: .int re :: .int ig :: .ref (Y + 18) :: .ref (Y + 19) :: .ref (Y + 20) :: .ref (Y + 21) :: [])) FR.rf hY rfl (by unfold modS; omega))⟩))
      · ·
          refine g_tabIn (pc := 6) (off := 66) 72 dX12_count_6 (by decide) (by decide) (by decide) (by decide) ?_
          refine g_aload_n (pc := 72) 0 dX12_count_72 rfl rfl ?_
          refine g_get (pc := 73) dX12_count_73 fk_X12_13 (lk_eq hY) rfl ?_
          refine g_bipush (pc := 76) (v := nI 113) dX12_count_76 (by decide) ?_
          refine g_iald (pc := 78) 113 dX12_count_78 (lk_ne (show Y ≠ (Y + 2) by omega) a2) (IXn (by omega) (by omega)) ?_
          refine GP.ti (nI sh.2.2.1) b2.2.1.2.1 ?_
          exact g_iret (pc := 79) dX12_count_79 (Or.inr (Or.inl ⟨9, sh.2.2.1, rfl, by omega, by unfold cnP; simp, rfl, ⟨⟨_, _, _, _, _, _, _, _, (lk_eq hY)⟩, ⟨⟨_, (lk_ne (show Y ≠ (Y + 1) by omega) a1), b1⟩, ⟨_, (lk_ne (show Y ≠ (Y + 2) by omega) a2), b2⟩, ⟨_, _, (lk_ne (show Y ≠ (Y + 3) by omega) a3), (lk_ne (show Y ≠ (Y + 4) by omega) a4), b3, b4⟩, ⟨_, _, (lk_ne (show Y ≠ (Y + 5) by omega) a5), (lk_ne (show Y ≠ (Y + 6) by omega) a6), b5⟩, ⟨_, (lk_ne (show Y ≠ (Y + 11) by omega) a11), b11⟩, ⟨_, (lk_ne (show Y ≠ (Y + 17) by omega) a17), b17⟩⟩, ⟨_, _, _, _, _, _, _, _, _, _, _, (lk_ne (show Y ≠ (Y + 7) by omega) a7), (lk_ne (show Y ≠ (Y + 8) by omega) a8), (lk_ne (show Y ≠ (Y + 9) by omega) a9), (lk_ne (show Y ≠ (Y + 10) by omega) a10), (lk_ne (show Y ≠ (Y + 12) by omega) a12), (lk_ne (show Y ≠ (Y + 13) by omega) a13), (lk_ne (show Y ≠ (Y + 14) by omega) a14), (lk_ne (show Y ≠ (Y + 18) by omega) a18), (lk_ne (show Y ≠ (Y + 19) by omega) a19), (lk_ne (show Y ≠ (Y + 20) by omega) a20), (lk_ne (show Y ≠ (Y + 21) by omega) a21)⟩, ⟨_, _, (lk_ne (show Y ≠ (Y + 15) by omega) a15), (lk_ne (show Y ≠ (Y + 16) by omega) a16), b15⟩⟩, (FR.st (c' := .inr (11, .int (nI 0) :: .int st :: .ref (Y + 1) :: .ref (Y + 2) :: .ref (Y + 3) :: .ref (Y + 4) :: .int (nI pn) :: .ref (Y + 5) :: .ref (Y + 6) :: .ref (Y + 7) :: .int dg :: .ref (Y + 8) :: .int dd :: .ref (Y + 9) :: .ref (Y + 10) :: .ref (Y + 11) :: .ref (Y + 12) :: .int ld :: .int be :: .int ib :: .ref (Y + 13) :: .ref (Y + 14) :: .ref (Y + 15) :: .ref (Y + 16) :: .ref (Y + 17) :: .int (nI tl) :: .int fa :: .int re :: .int ig :: .ref (Y + 18) :: .ref (Y + 19) :: .ref (Y + 20) :: .ref (Y + 21) :: [])) FR.rf hY rfl (by unfold modS; omega))⟩))
      · ·
          refine g_tabIn (pc := 6) (off := 74) 80 dX12_count_6 (by decide) (by decide) (by decide) (by decide) ?_
          refine g_aload_n (pc := 80) 0 dX12_count_80 rfl rfl ?_
          refine g_get (pc := 81) dX12_count_81 fk_X12_13 (lk_eq hY) rfl ?_
          refine g_bipush (pc := 84) (v := nI 114) dX12_count_84 (by decide) ?_
          refine g_iald (pc := 86) 114 dX12_count_86 (lk_ne (show Y ≠ (Y + 2) by omega) a2) (IXn (by omega) (by omega)) ?_
          refine GP.ti (nI sh.2.2.2.1) b2.2.1.2.2.1 ?_
          exact g_iret (pc := 87) dX12_count_87 (Or.inr (Or.inl ⟨10, sh.2.2.2.1, rfl, by omega, by unfold cnP; simp, rfl, ⟨⟨_, _, _, _, _, _, _, _, (lk_eq hY)⟩, ⟨⟨_, (lk_ne (show Y ≠ (Y + 1) by omega) a1), b1⟩, ⟨_, (lk_ne (show Y ≠ (Y + 2) by omega) a2), b2⟩, ⟨_, _, (lk_ne (show Y ≠ (Y + 3) by omega) a3), (lk_ne (show Y ≠ (Y + 4) by omega) a4), b3, b4⟩, ⟨_, _, (lk_ne (show Y ≠ (Y + 5) by omega) a5), (lk_ne (show Y ≠ (Y + 6) by omega) a6), b5⟩, ⟨_, (lk_ne (show Y ≠ (Y + 11) by omega) a11), b11⟩, ⟨_, (lk_ne (show Y ≠ (Y + 17) by omega) a17), b17⟩⟩, ⟨_, _, _, _, _, _, _, _, _, _, _, (lk_ne (show Y ≠ (Y + 7) by omega) a7), (lk_ne (show Y ≠ (Y + 8) by omega) a8), (lk_ne (show Y ≠ (Y + 9) by omega) a9), (lk_ne (show Y ≠ (Y + 10) by omega) a10), (lk_ne (show Y ≠ (Y + 12) by omega) a12), (lk_ne (show Y ≠ (Y + 13) by omega) a13), (lk_ne (show Y ≠ (Y + 14) by omega) a14), (lk_ne (show Y ≠ (Y + 18) by omega) a18), (lk_ne (show Y ≠ (Y + 19) by omega) a19), (lk_ne (show Y ≠ (Y + 20) by omega) a20), (lk_ne (show Y ≠ (Y + 21) by omega) a21)⟩, ⟨_, _, (lk_ne (show Y ≠ (Y + 15) by omega) a15), (lk_ne (show Y ≠ (Y + 16) by omega) a16), b15⟩⟩, (FR.st (c' := .inr (11, .int (nI 0) :: .int st :: .ref (Y + 1) :: .ref (Y + 2) :: .ref (Y + 3) :: .ref (Y + 4) :: .int (nI pn) :: .ref (Y + 5) :: .ref (Y + 6) :: .ref (Y + 7) :: .int dg :: .ref (Y + 8) :: .int dd :: .ref (Y + 9) :: .ref (Y + 10) :: .ref (Y + 11) :: .ref (Y + 12) :: .int ld :: .int be :: .int ib :: .ref (Y + 13) :: .ref (Y + 14) :: .ref (Y + 15) :: .ref (Y + 16) :: .ref (Y + 17) :: .int (nI tl) :: .int fa :: .int re :: .int ig :: .ref (Y + 18) :: .ref (Y + 19) :: .ref (Y + 20) :: .ref (Y + 21) :: [])) FR.rf hY rfl (by unfold modS; omega))⟩))
      · ·
          refine g_tabIn (pc := 6) (off := 82) 88 dX12_count_6 (by decide) (by decide) (by decide) (by decide) ?_
          refine g_aload_n (pc := 88) 0 dX12_count_88 rfl rfl ?_
          refine g_get (pc := 89) dX12_count_89 fk_X12_13 (lk_eq hY) rfl ?_
          refine g_bipush (pc := 92) (v := nI 115) dX12_count_92 (by decide) ?_
          refine g_iald (pc := 94) 115 dX12_count_94 (lk_ne (show Y ≠ (Y + 2) by omega) a2) (IXn (by omega) (by omega)) ?_
          refine GP.ti (nI sh.2.2.2.2.1) b2.2.1.2.2.2 ?_
          exact g_iret (pc := 95) dX12_count_95 (Or.inr (Or.inl ⟨11, sh.2.2.2.2.1, rfl, by omega, by unfold cnP; simp, rfl, ⟨⟨_, _, _, _, _, _, _, _, (lk_eq hY)⟩, ⟨⟨_, (lk_ne (show Y ≠ (Y + 1) by omega) a1), b1⟩, ⟨_, (lk_ne (show Y ≠ (Y + 2) by omega) a2), b2⟩, ⟨_, _, (lk_ne (show Y ≠ (Y + 3) by omega) a3), (lk_ne (show Y ≠ (Y + 4) by omega) a4), b3, b4⟩, ⟨_, _, (lk_ne (show Y ≠ (Y + 5) by omega) a5), (lk_ne (show Y ≠ (Y + 6) by omega) a6), b5⟩, ⟨_, (lk_ne (show Y ≠ (Y + 11) by omega) a11), b11⟩, ⟨_, (lk_ne (show Y ≠ (Y + 17) by omega) a17), b17⟩⟩, ⟨_, _, _, _, _, _, _, _, _, _, _, (lk_ne (show Y ≠ (Y + 7) by omega) a7), (lk_ne (show Y ≠ (Y + 8) by omega) a8), (lk_ne (show Y ≠ (Y + 9) by omega) a9), (lk_ne (show Y ≠ (Y + 10) by omega) a10), (lk_ne (show Y ≠ (Y + 12) by omega) a12), (lk_ne (show Y ≠ (Y + 13) by omega) a13), (lk_ne (show Y ≠ (Y + 14) by omega) a14), (lk_ne (show Y ≠ (Y + 18) by omega) a18), (lk_ne (show Y ≠ (Y + 19) by omega) a19), (lk_ne (show Y ≠ (Y + 20) by omega) a20), (lk_ne (show Y ≠ (Y + 21) by omega) a21)⟩, ⟨_, _, (lk_ne (show Y ≠ (Y + 15) by omega) a15), (lk_ne (show Y ≠ (Y + 16) by omega) a16), b15⟩⟩, (FR.st (c' := .inr (11, .int (nI 0) :: .int st :: .ref (Y + 1) :: .ref (Y + 2) :: .ref (Y + 3) :: .ref (Y + 4) :: .int (nI pn) :: .ref (Y + 5) :: .ref (Y + 6) :: .ref (Y + 7) :: .int dg :: .ref (Y + 8) :: .int dd :: .ref (Y + 9) :: .ref (Y + 10) :: .ref (Y + 11) :: .ref (Y + 12) :: .int ld :: .int be :: .int ib :: .ref (Y + 13) :: .ref (Y + 14) :: .ref (Y + 15) :: .ref (Y + 16) :: .ref (Y + 17) :: .int (nI tl) :: .int fa :: .int re :: .int ig :: .ref (Y + 18) :: .ref (Y + 19) :: .ref (Y + 20) :: .ref (Y + 21) :: [])) FR.rf hY rfl (by unfold modS; omega))⟩))
      · ·
          refine g_tabIn (pc := 6) (off := 90) 96 dX12_count_6 (by decide) (by decide) (by decide) (by decide) ?_
          refine g_aload_n (pc := 96) 0 dX12_count_96 rfl rfl ?_
          refine g_get (pc := 97) dX12_count_97 fk_X12_89 (lk_eq hY) rfl ?_
          exact g_iret (pc := 100) dX12_count_100 (Or.inr (Or.inl ⟨12, pn, rfl, by omega, by unfold cnP; simp, rfl, ⟨⟨_, _, _, _, _, _, _, _, (lk_eq hY)⟩, ⟨⟨_, (lk_ne (show Y ≠ (Y + 1) by omega) a1), b1⟩, ⟨_, (lk_ne (show Y ≠ (Y + 2) by omega) a2), b2⟩, ⟨_, _, (lk_ne (show Y ≠ (Y + 3) by omega) a3), (lk_ne (show Y ≠ (Y + 4) by omega) a4), b3, b4⟩, ⟨_, _, (lk_ne (show Y ≠ (Y + 5) by omega) a5), (lk_ne (show Y ≠ (Y + 6) by omega) a6), b5⟩, ⟨_, (lk_ne (show Y ≠ (Y + 11) by omega) a11), b11⟩, ⟨_, (lk_ne (show Y ≠ (Y + 17) by omega) a17), b17⟩⟩, ⟨_, _, _, _, _, _, _, _, _, _, _, (lk_ne (show Y ≠ (Y + 7) by omega) a7), (lk_ne (show Y ≠ (Y + 8) by omega) a8), (lk_ne (show Y ≠ (Y + 9) by omega) a9), (lk_ne (show Y ≠ (Y + 10) by omega) a10), (lk_ne (show Y ≠ (Y + 12) by omega) a12), (lk_ne (show Y ≠ (Y + 13) by omega) a13), (lk_ne (show Y ≠ (Y + 14) by omega) a14), (lk_ne (show Y ≠ (Y + 18) by omega) a18), (lk_ne (show Y ≠ (Y + 19) by omega) a19), (lk_ne (show Y ≠ (Y + 20) by omega) a20), (lk_ne (show Y ≠ (Y + 21) by omega) a21)⟩, ⟨_, _, (lk_ne (show Y ≠ (Y + 15) by omega) a15), (lk_ne (show Y ≠ (Y + 16) by omega) a16), b15⟩⟩, (FR.st (c' := .inr (11, .int (nI 0) :: .int st :: .ref (Y + 1) :: .ref (Y + 2) :: .ref (Y + 3) :: .ref (Y + 4) :: .int (nI pn) :: .ref (Y + 5) :: .ref (Y + 6) :: .ref (Y + 7) :: .int dg :: .ref (Y + 8) :: .int dd :: .ref (Y + 9) :: .ref (Y + 10) :: .ref (Y + 11) :: .ref (Y + 12) :: .int ld :: .int be :: .int ib :: .ref (Y + 13) :: .ref (Y + 14) :: .ref (Y + 15) :: .ref (Y + 16) :: .ref (Y + 17) :: .int (nI tl) :: .int fa :: .int re :: .int ig :: .ref (Y + 18) :: .ref (Y + 19) :: .ref (Y + 20) :: .ref (Y + 21) :: [])) FR.rf hY rfl (by unfold modS; omega))⟩))
      · ·
          refine g_tabIn (pc := 6) (off := 95) 101 dX12_count_6 (by decide) (by decide) (by decide) (by decide) ?_
          refine g_aload_n (pc := 101) 0 dX12_count_101 rfl rfl ?_
          refine g_get (pc := 102) dX12_count_102 fk_X12_249 (lk_eq hY) rfl ?_
          exact g_iret (pc := 105) dX12_count_105 (Or.inr (Or.inl ⟨13, tl, rfl, by omega, by unfold cnP; simp, rfl, ⟨⟨_, _, _, _, _, _, _, _, (lk_eq hY)⟩, ⟨⟨_, (lk_ne (show Y ≠ (Y + 1) by omega) a1), b1⟩, ⟨_, (lk_ne (show Y ≠ (Y + 2) by omega) a2), b2⟩, ⟨_, _, (lk_ne (show Y ≠ (Y + 3) by omega) a3), (lk_ne (show Y ≠ (Y + 4) by omega) a4), b3, b4⟩, ⟨_, _, (lk_ne (show Y ≠ (Y + 5) by omega) a5), (lk_ne (show Y ≠ (Y + 6) by omega) a6), b5⟩, ⟨_, (lk_ne (show Y ≠ (Y + 11) by omega) a11), b11⟩, ⟨_, (lk_ne (show Y ≠ (Y + 17) by omega) a17), b17⟩⟩, ⟨_, _, _, _, _, _, _, _, _, _, _, (lk_ne (show Y ≠ (Y + 7) by omega) a7), (lk_ne (show Y ≠ (Y + 8) by omega) a8), (lk_ne (show Y ≠ (Y + 9) by omega) a9), (lk_ne (show Y ≠ (Y + 10) by omega) a10), (lk_ne (show Y ≠ (Y + 12) by omega) a12), (lk_ne (show Y ≠ (Y + 13) by omega) a13), (lk_ne (show Y ≠ (Y + 14) by omega) a14), (lk_ne (show Y ≠ (Y + 18) by omega) a18), (lk_ne (show Y ≠ (Y + 19) by omega) a19), (lk_ne (show Y ≠ (Y + 20) by omega) a20), (lk_ne (show Y ≠ (Y + 21) by omega) a21)⟩, ⟨_, _, (lk_ne (show Y ≠ (Y + 15) by omega) a15), (lk_ne (show Y ≠ (Y + 16) by omega) a16), b15⟩⟩, (FR.st (c' := .inr (11, .int (nI 0) :: .int st :: .ref (Y + 1) :: .ref (Y + 2) :: .ref (Y + 3) :: .ref (Y + 4) :: .int (nI pn) :: .ref (Y + 5) :: .ref (Y + 6) :: .ref (Y + 7) :: .int dg :: .ref (Y + 8) :: .int dd :: .ref (Y + 9) :: .ref (Y + 10) :: .ref (Y + 11) :: .ref (Y + 12) :: .int ld :: .int be :: .int ib :: .ref (Y + 13) :: .ref (Y + 14) :: .ref (Y + 15) :: .ref (Y + 16) :: .ref (Y + 17) :: .int (nI tl) :: .int fa :: .int re :: .int ig :: .ref (Y + 18) :: .ref (Y + 19) :: .ref (Y + 20) :: .ref (Y + 21) :: [])) FR.rf hY rfl (by unfold modS; omega))⟩))
      · ·
          refine g_tabIn (pc := 6) (off := 100) 106 dX12_count_6 (by decide) (by decide) (by decide) (by decide) ?_
          refine g_aload_n (pc := 106) 0 dX12_count_106 rfl rfl ?_
          refine g_get (pc := 107) dX12_count_107 fk_X12_7 (lk_eq hY) rfl ?_
          refine g_iconst (pc := 110) (v := nI 1) dX12_count_110 (by decide) ?_
          refine g_iald (pc := 111) 1 dX12_count_111 (lk_ne (show Y ≠ (Y + 1) by omega) a1) (IXn (by omega) (by omega)) ?_
          refine GP.ti (nI (rf 0)) b1.1 ?_
          exact g_iret (pc := 112) dX12_count_112 (Or.inr (Or.inl ⟨14, (rf 0), rfl, by omega, by unfold cnP; simp, rfl, ⟨⟨_, _, _, _, _, _, _, _, (lk_eq hY)⟩, ⟨⟨_, (lk_ne (show Y ≠ (Y + 1) by omega) a1), b1⟩, ⟨_, (lk_ne (show Y ≠ (Y + 2) by omega) a2), b2⟩, ⟨_, _, (lk_ne (show Y ≠ (Y + 3) by omega) a3), (lk_ne (show Y ≠ (Y + 4) by omega) a4), b3, b4⟩, ⟨_, _, (lk_ne (show Y ≠ (Y + 5) by omega) a5), (lk_ne (show Y ≠ (Y + 6) by omega) a6), b5⟩, ⟨_, (lk_ne (show Y ≠ (Y + 11) by omega) a11), b11⟩, ⟨_, (lk_ne (show Y ≠ (Y + 17) by omega) a17), b17⟩⟩, ⟨_, _, _, _, _, _, _, _, _, _, _, (lk_ne (show Y ≠ (Y + 7) by omega) a7), (lk_ne (show Y ≠ (Y + 8) by omega) a8), (lk_ne (show Y ≠ (Y + 9) by omega) a9), (lk_ne (show Y ≠ (Y + 10) by omega) a10), (lk_ne (show Y ≠ (Y + 12) by omega) a12), (lk_ne (show Y ≠ (Y + 13) by omega) a13), (lk_ne (show Y ≠ (Y + 14) by omega) a14), (lk_ne (show Y ≠ (Y + 18) by omega) a18), (lk_ne (show Y ≠ (Y + 19) by omega) a19), (lk_ne (show Y ≠ (Y + 20) by omega) a20), (lk_ne (show Y ≠ (Y + 21) by omega) a21)⟩, ⟨_, _, (lk_ne (show Y ≠ (Y + 15) by omega) a15), (lk_ne (show Y ≠ (Y + 16) by omega) a16), b15⟩⟩, (FR.st (c' := .inr (11, .int (nI 0) :: .int st :: .ref (Y + 1) :: .ref (Y + 2) :: .ref (Y + 3) :: .ref (Y + 4) :: .int (nI pn) :: .ref (Y + 5) :: .ref (Y + 6) :: .ref (Y + 7) :: .int dg :: .ref (Y + 8) :: .int dd :: .ref (Y + 9) :: .ref (Y + 10) :: .ref (Y + 11) :: .ref (Y + 12) :: .int ld :: .int be :: .int ib :: .ref (Y + 13) :: .ref (Y + 14) :: .ref (Y + 15) :: .ref (Y + 16) :: .ref (Y + 17) :: .int (nI tl) :: .int fa :: .int re :: .int ig :: .ref (Y + 18) :: .ref (Y + 19) :: .ref (Y + 20) :: .ref (Y + 21) :: [])) FR.rf hY rfl (by unfold modS; omega))⟩))
      · ·
          refine g_tabIn (pc := 6) (off := 107) 113 dX12_count_6 (by decide) (by decide) (by decide) (by decide) ?_
          refine g_aload_n (pc := 113) 0 dX12_count_113 rfl rfl ?_
          refine g_get (pc := 114) dX12_count_114 fk_X12_7 (lk_eq hY) rfl ?_
          refine g_iconst (pc := 117) (v := nI 2) dX12_count_117 (by decide) ?_
          refine g_iald (pc := 118) 2 dX12_count_118 (lk_ne (show Y ≠ (Y + 1) by omega) a1) (IXn (by omega) (by omega)) ?_
          refine GP.ti (nI (rf 1)) b1.2.1 ?_
          exact g_iret (pc := 119) dX12_count_119 (Or.inr (Or.inl ⟨15, (rf 1), rfl, by omega, by unfold cnP; simp, rfl, ⟨⟨_, _, _, _, _, _, _, _, (lk_eq hY)⟩, ⟨⟨_, (lk_ne (show Y ≠ (Y + 1) by omega) a1), b1⟩, ⟨_, (lk_ne (show Y ≠ (Y + 2) by omega) a2), b2⟩, ⟨_, _, (lk_ne (show Y ≠ (Y + 3) by omega) a3), (lk_ne (show Y ≠ (Y + 4) by omega) a4), b3, b4⟩, ⟨_, _, (lk_ne (show Y ≠ (Y + 5) by omega) a5), (lk_ne (show Y ≠ (Y + 6) by omega) a6), b5⟩, ⟨_, (lk_ne (show Y ≠ (Y + 11) by omega) a11), b11⟩, ⟨_, (lk_ne (show Y ≠ (Y + 17) by omega) a17), b17⟩⟩, ⟨_, _, _, _, _, _, _, _, _, _, _, (lk_ne (show Y ≠ (Y + 7) by omega) a7), (lk_ne (show Y ≠ (Y + 8) by omega) a8), (lk_ne (show Y ≠ (Y + 9) by omega) a9), (lk_ne (show Y ≠ (Y + 10) by omega) a10), (lk_ne (show Y ≠ (Y + 12) by omega) a12), (lk_ne (show Y ≠ (Y + 13) by omega) a13), (lk_ne (show Y ≠ (Y + 14) by omega) a14), (lk_ne (show Y ≠ (Y + 18) by omega) a18), (lk_ne (show Y ≠ (Y + 19) by omega) a19), (lk_ne (show Y ≠ (Y + 20) by omega) a20), (lk_ne (show Y ≠ (Y + 21) by omega) a21)⟩, ⟨_, _, (lk_ne (show Y ≠ (Y + 15) by omega) a15), (lk_ne (show Y ≠ (Y + 16) by omega) a16), b15⟩⟩, (FR.st (c' := .inr (11, .int (nI 0) :: .int st :: .ref (Y + 1) :: .ref (Y + 2) :: .ref (Y + 3) :: .ref (Y + 4) :: .int (nI pn) :: .ref (Y + 5) :: .ref (Y + 6) :: .ref (Y + 7) :: .int dg :: .ref (Y + 8) :: .int dd :: .ref (Y + 9) :: .ref (Y + 10) :: .ref (Y + 11) :: .ref (Y + 12) :: .int ld :: .int be :: .int ib :: .ref (Y + 13) :: .ref (Y + 14) :: .ref (Y + 15) :: .ref (Y + 16) :: .ref (Y + 17) :: .int (nI tl) :: .int fa :: .int re :: .int ig :: .ref (Y + 18) :: .ref (Y + 19) :: .ref (Y + 20) :: .ref (Y + 21) :: [])) FR.rf hY rfl (by unfold modS; omega))⟩))
      · ·
          refine g_tabIn (pc := 6) (off := 114) 120 dX12_count_6 (by decide) (by decide) (by decide) (by decide) ?_
          refine g_aload_n (pc := 120) 0 dX12_count_120 rfl rfl ?_
          refine g_get (pc := 121) dX12_count_121 fk_X12_7 (lk_eq hY) rfl ?_
          refine g_iconst (pc := 124) (v := nI 4) dX12_count_124 (by decide) ?_
          refine g_iald (pc := 125) 4 dX12_count_125 (lk_ne (show Y ≠ (Y + 1) by omega) a1) (IXn (by omega) (by omega)) ?_
          refine GP.ti (nI (rf 2)) b1.2.2.1 ?_
          exact g_iret (pc := 126) dX12_count_126 (Or.inr (Or.inl ⟨16, (rf 2), rfl, by omega, by unfold cnP; simp, rfl, ⟨⟨_, _, _, _, _, _, _, _, (lk_eq hY)⟩, ⟨⟨_, (lk_ne (show Y ≠ (Y + 1) by omega) a1), b1⟩, ⟨_, (lk_ne (show Y ≠ (Y + 2) by omega) a2), b2⟩, ⟨_, _, (lk_ne (show Y ≠ (Y + 3) by omega) a3), (lk_ne (show Y ≠ (Y + 4) by omega) a4), b3, b4⟩, ⟨_, _, (lk_ne (show Y ≠ (Y + 5) by omega) a5), (lk_ne (show Y ≠ (Y + 6) by omega) a6), b5⟩, ⟨_, (lk_ne (show Y ≠ (Y + 11) by omega) a11), b11⟩, ⟨_, (lk_ne (show Y ≠ (Y + 17) by omega) a17), b17⟩⟩, ⟨_, _, _, _, _, _, _, _, _, _, _, (lk_ne (show Y ≠ (Y + 7) by omega) a7), (lk_ne (show Y ≠ (Y + 8) by omega) a8), (lk_ne (show Y ≠ (Y + 9) by omega) a9), (lk_ne (show Y ≠ (Y + 10) by omega) a10), (lk_ne (show Y ≠ (Y + 12) by omega) a12), (lk_ne (show Y ≠ (Y + 13) by omega) a13), (lk_ne (show Y ≠ (Y + 14) by omega) a14), (lk_ne (show Y ≠ (Y + 18) by omega) a18), (lk_ne (show Y ≠ (Y + 19) by omega) a19), (lk_ne (show Y ≠ (Y + 20) by omega) a20), (lk_ne (show Y ≠ (Y + 21) by omega) a21)⟩, ⟨_, _, (lk_ne (show Y ≠ (Y + 15) by omega) a15), (lk_ne (show Y ≠ (Y + 16) by omega) a16), b15⟩⟩, (FR.st (c' := .inr (11, .int (nI 0) :: .int st :: .ref (Y + 1) :: .ref (Y + 2) :: .ref (Y + 3) :: .ref (Y + 4) :: .int (nI pn) :: .ref (Y + 5) :: .ref (Y + 6) :: .ref (Y + 7) :: .int dg :: .ref (Y + 8) :: .int dd :: .ref (Y + 9) :: .ref (Y + 10) :: .ref (Y + 11) :: .ref (Y + 12) :: .int ld :: .int be :: .int ib :: .ref (Y + 13) :: .ref (Y + 14) :: .ref (Y + 15) :: .ref (Y + 16) :: .ref (Y + 17) :: .int (nI tl) :: .int fa :: .int re :: .int ig :: .ref (Y + 18) :: .ref (Y + 19) :: .ref (Y + 20) :: .ref (Y + 21) :: [])) FR.rf hY rfl (by unfold modS; omega))⟩))
      · ·
          refine g_tabIn (pc := 6) (off := 121) 127 dX12_count_6 (by decide) (by decide) (by decide) (by decide) ?_
          refine g_aload_n (pc := 127) 0 dX12_count_127 rfl rfl ?_
          refine g_get (pc := 128) dX12_count_128 fk_X12_7 (lk_eq hY) rfl ?_
          refine g_iconst (pc := 131) (v := nI 5) dX12_count_131 (by decide) ?_
          refine g_iald (pc := 132) 5 dX12_count_132 (lk_ne (show Y ≠ (Y + 1) by omega) a1) (IXn (by omega) (by omega)) ?_
          refine GP.ti (nI (rf 3)) b1.2.2.2.1 ?_
          exact g_iret (pc := 133) dX12_count_133 (Or.inr (Or.inl ⟨17, (rf 3), rfl, by omega, by unfold cnP; simp, rfl, ⟨⟨_, _, _, _, _, _, _, _, (lk_eq hY)⟩, ⟨⟨_, (lk_ne (show Y ≠ (Y + 1) by omega) a1), b1⟩, ⟨_, (lk_ne (show Y ≠ (Y + 2) by omega) a2), b2⟩, ⟨_, _, (lk_ne (show Y ≠ (Y + 3) by omega) a3), (lk_ne (show Y ≠ (Y + 4) by omega) a4), b3, b4⟩, ⟨_, _, (lk_ne (show Y ≠ (Y + 5) by omega) a5), (lk_ne (show Y ≠ (Y + 6) by omega) a6), b5⟩, ⟨_, (lk_ne (show Y ≠ (Y + 11) by omega) a11), b11⟩, ⟨_, (lk_ne (show Y ≠ (Y + 17) by omega) a17), b17⟩⟩, ⟨_, _, _, _, _, _, _, _, _, _, _, (lk_ne (show Y ≠ (Y + 7) by omega) a7), (lk_ne (show Y ≠ (Y + 8) by omega) a8), (lk_ne (show Y ≠ (Y + 9) by omega) a9), (lk_ne (show Y ≠ (Y + 10) by omega) a10), (lk_ne (show Y ≠ (Y + 12) by omega) a12), (lk_ne (show Y ≠ (Y + 13) by omega) a13), (lk_ne (show Y ≠ (Y + 14) by omega) a14), (lk_ne (show Y ≠ (Y + 18) by omega) a18), (lk_ne (show Y ≠ (Y + 19) by omega) a19), (lk_ne (show Y ≠ (Y + 20) by omega) a20), (lk_ne (show Y ≠ (Y + 21) by omega) a21)⟩, ⟨_, _, (lk_ne (show Y ≠ (Y + 15) by omega) a15), (lk_ne (show Y ≠ (Y + 16) by omega) a16), b15⟩⟩, (FR.st (c' := .inr (11, .int (nI 0) :: .int st :: .ref (Y + 1) :: .ref (Y + 2) :: .ref (Y + 3) :: .ref (Y + 4) :: .int (nI pn) :: .ref (Y + 5) :: .ref (Y + 6) :: .ref (Y + 7) :: .int dg :: .ref (Y + 8) :: .int dd :: .ref (Y + 9) :: .ref (Y + 10) :: .ref (Y + 11) :: .ref (Y + 12) :: .int ld :: .int be :: .int ib :: .ref (Y + 13) :: .ref (Y + 14) :: .ref (Y + 15) :: .ref (Y + 16) :: .ref (Y + 17) :: .int (nI tl) :: .int fa :: .int re :: .int ig :: .ref (Y + 18) :: .ref (Y + 19) :: .ref (Y + 20) :: .ref (Y + 21) :: [])) FR.rf hY rfl (by unfold modS; omega))⟩))
      · ·
          refine g_tabIn (pc := 6) (off := 128) 134 dX12_count_6 (by decide) (by decide) (by decide) (by decide) ?_
          refine g_aload_n (pc := 134) 0 dX12_count_134 rfl rfl ?_
          refine g_get (pc := 135) dX12_count_135 fk_X12_7 (lk_eq hY) rfl ?_
          refine g_bipush (pc := 138) (v := nI 6) dX12_count_138 (by decide) ?_
          refine g_iald (pc := 140) 6 dX12_count_140 (lk_ne (show Y ≠ (Y + 1) by omega) a1) (IXn (by omega) (by omega)) ?_
          refine GP.ti (nI (rf 4)) b1.2.2.2.2 ?_
          exact g_iret (pc := 141) dX12_count_141 (Or.inr (Or.inl ⟨18, (rf 4), rfl, by omega, by unfold cnP; simp, rfl, ⟨⟨_, _, _, _, _, _, _, _, (lk_eq hY)⟩, ⟨⟨_, (lk_ne (show Y ≠ (Y + 1) by omega) a1), b1⟩, ⟨_, (lk_ne (show Y ≠ (Y + 2) by omega) a2), b2⟩, ⟨_, _, (lk_ne (show Y ≠ (Y + 3) by omega) a3), (lk_ne (show Y ≠ (Y + 4) by omega) a4), b3, b4⟩, ⟨_, _, (lk_ne (show Y ≠ (Y + 5) by omega) a5), (lk_ne (show Y ≠ (Y + 6) by omega) a6), b5⟩, ⟨_, (lk_ne (show Y ≠ (Y + 11) by omega) a11), b11⟩, ⟨_, (lk_ne (show Y ≠ (Y + 17) by omega) a17), b17⟩⟩, ⟨_, _, _, _, _, _, _, _, _, _, _, (lk_ne (show Y ≠ (Y + 7) by omega) a7), (lk_ne (show Y ≠ (Y + 8) by omega) a8), (lk_ne (show Y ≠ (Y + 9) by omega) a9), (lk_ne (show Y ≠ (Y + 10) by omega) a10), (lk_ne (show Y ≠ (Y + 12) by omega) a12), (lk_ne (show Y ≠ (Y + 13) by omega) a13), (lk_ne (show Y ≠ (Y + 14) by omega) a14), (lk_ne (show Y ≠ (Y + 18) by omega) a18), (lk_ne (show Y ≠ (Y + 19) by omega) a19), (lk_ne (show Y ≠ (Y + 20) by omega) a20), (lk_ne (show Y ≠ (Y + 21) by omega) a21)⟩, ⟨_, _, (lk_ne (show Y ≠ (Y + 15) by omega) a15), (lk_ne (show Y ≠ (Y + 16) by omega) a16), b15⟩⟩, (FR.st (c' := .inr (11, .int (nI 0) :: .int st :: .ref (Y + 1) :: .ref (Y + 2) :: .ref (Y + 3) :: .ref (Y + 4) :: .int (nI pn) :: .ref (Y + 5) :: .ref (Y + 6) :: .ref (Y + 7) :: .int dg :: .ref (Y + 8) :: .int dd :: .ref (Y + 9) :: .ref (Y + 10) :: .ref (Y + 11) :: .ref (Y + 12) :: .int ld :: .int be :: .int ib :: .ref (Y + 13) :: .ref (Y + 14) :: .ref (Y + 15) :: .ref (Y + 16) :: .ref (Y + 17) :: .int (nI tl) :: .int fa :: .int re :: .int ig :: .ref (Y + 18) :: .ref (Y + 19) :: .ref (Y + 20) :: .ref (Y + 21) :: [])) FR.rf hY rfl (by unfold modS; omega))⟩))
  · ·
      refine g_tabOut (pc := 6) 142 dX12_count_6 (by omega) (by decide) ?_
      refine g_iload_n (pc := 142) 1 dX12_count_142 rfl rfl ?_
      refine g_i2l (pc := 143) dX12_count_143 ?_
      refine g_lconst (pc := 144) (v := 0) dX12_count_144 (by decide) ?_
      refine g_ldc2 (pc := 145) kc_X12_111 dX12_count_145 ?_
      refine g_callS (pc := 148) [.long x.toInt64, .long 0, .long (7)] dX12_count_148 cs_X12_103.1 cs_X12_103.2 rfl rfl (Nat.le_of_ble_eq_true rfl) (by decide) (by decide) (mp_in _) ?_
      rintro _ w9 (⟨rfl, hz, e9⟩ | ⟨rfl, hz, e9⟩)
      · refine GP.weq _ e9 ?_
        rw [IL, L7, L00] at hz
        obtain ⟨i, rfl, hi⟩ := pl_of hz
        refine n_if_eq (pc := 151) 162 dX12_count_151 (by decide) (by omega) (fun hd9 => ?_) (fun hd9 => ?_)
        · exact absurd hd9 (by decide)
        · refine g_aload_n (pc := 154) 0 dX12_count_154 rfl rfl ?_
          refine g_iload_n (pc := 155) 1 dX12_count_155 rfl rfl ?_
          refine g_callV (pc := 156) [.int (nI i)] dX12_count_156 cv_X12_119.1 cv_X12_119.2.1 cv_X12_119.2.2.1 cv_X12_119.2.2.2 (lk_eq hY) rfl rfl (Nat.le_of_ble_eq_true rfl) (by decide) (by decide) (mp_degreeOf _ (lk_eq hY) (lk_ne (show Y ≠ (Y + 2) by omega) a2) hi) ?_
          rintro _ w9 ⟨rfl, e9⟩
          refine GP.weq _ e9 ?_
          refine GP.ti (nI (sh.1 i).1) (row_dg b2 i hi) ?_
          refine g_goto (pc := 159) 163 dX12_count_159 (by decide) ?_
          exact g_iret (pc := 163) dX12_count_163 (Or.inl ⟨i, rfl, hi, rfl, ⟨⟨_, _, _, _, _, _, _, _, (lk_eq hY)⟩, ⟨⟨_, (lk_ne (show Y ≠ (Y + 1) by omega) a1), b1⟩, ⟨_, (lk_ne (show Y ≠ (Y + 2) by omega) a2), b2⟩, ⟨_, _, (lk_ne (show Y ≠ (Y + 3) by omega) a3), (lk_ne (show Y ≠ (Y + 4) by omega) a4), b3, b4⟩, ⟨_, _, (lk_ne (show Y ≠ (Y + 5) by omega) a5), (lk_ne (show Y ≠ (Y + 6) by omega) a6), b5⟩, ⟨_, (lk_ne (show Y ≠ (Y + 11) by omega) a11), b11⟩, ⟨_, (lk_ne (show Y ≠ (Y + 17) by omega) a17), b17⟩⟩, ⟨_, _, _, _, _, _, _, _, _, _, _, (lk_ne (show Y ≠ (Y + 7) by omega) a7), (lk_ne (show Y ≠ (Y + 8) by omega) a8), (lk_ne (show Y ≠ (Y + 9) by omega) a9), (lk_ne (show Y ≠ (Y + 10) by omega) a10), (lk_ne (show Y ≠ (Y + 12) by omega) a12), (lk_ne (show Y ≠ (Y + 13) by omega) a13), (lk_ne (show Y ≠ (Y + 14) by omega) a14), (lk_ne (show Y ≠ (Y + 18) by omega) a18), (lk_ne (show Y ≠ (Y + 19) by omega) a19), (lk_ne (show Y ≠ (Y + 20) by omega) a20), (lk_ne (show Y ≠ (Y + 21) by omega) a21)⟩, ⟨_, _, (lk_ne (show Y ≠ (Y + 15) by omega) a15), (lk_ne (show Y ≠ (Y + 16) by omega) a16), b15⟩⟩, (FR.st (c' := .inr (11, .int (nI 0) :: .int st :: .ref (Y + 1) :: .ref (Y + 2) :: .ref (Y + 3) :: .ref (Y + 4) :: .int (nI pn) :: .ref (Y + 5) :: .ref (Y + 6) :: .ref (Y + 7) :: .int dg :: .ref (Y + 8) :: .int dd :: .ref (Y + 9) :: .ref (Y + 10) :: .ref (Y + 11) :: .ref (Y + 12) :: .int ld :: .int be :: .int ib :: .ref (Y + 13) :: .ref (Y + 14) :: .ref (Y + 15) :: .ref (Y + 16) :: .ref (Y + 17) :: .int (nI tl) :: .int fa :: .int re :: .int ig :: .ref (Y + 18) :: .ref (Y + 19) :: .ref (Y + 20) :: .ref (Y + 21) :: [])) FR.rf hY rfl (by unfold modS; omega))⟩)
      · refine GP.weq _ e9 ?_
        rw [IL, L7, L00] at hz
        refine n_if_eq (pc := 151) 162 dX12_count_151 (by decide) (by omega) (fun hd9 => ?_) (fun hd9 => ?_)
        · refine g_iconst (pc := 162) (v := -1) dX12_count_162 (by decide) ?_
          exact g_iret (pc := 163) dX12_count_163 (Or.inr (Or.inr ⟨fun g => by omega, rfl, ⟨⟨_, _, _, _, _, _, _, _, (lk_eq hY)⟩, ⟨⟨_, (lk_ne (show Y ≠ (Y + 1) by omega) a1), b1⟩, ⟨_, (lk_ne (show Y ≠ (Y + 2) by omega) a2), b2⟩, ⟨_, _, (lk_ne (show Y ≠ (Y + 3) by omega) a3), (lk_ne (show Y ≠ (Y + 4) by omega) a4), b3, b4⟩, ⟨_, _, (lk_ne (show Y ≠ (Y + 5) by omega) a5), (lk_ne (show Y ≠ (Y + 6) by omega) a6), b5⟩, ⟨_, (lk_ne (show Y ≠ (Y + 11) by omega) a11), b11⟩, ⟨_, (lk_ne (show Y ≠ (Y + 17) by omega) a17), b17⟩⟩, ⟨_, _, _, _, _, _, _, _, _, _, _, (lk_ne (show Y ≠ (Y + 7) by omega) a7), (lk_ne (show Y ≠ (Y + 8) by omega) a8), (lk_ne (show Y ≠ (Y + 9) by omega) a9), (lk_ne (show Y ≠ (Y + 10) by omega) a10), (lk_ne (show Y ≠ (Y + 12) by omega) a12), (lk_ne (show Y ≠ (Y + 13) by omega) a13), (lk_ne (show Y ≠ (Y + 14) by omega) a14), (lk_ne (show Y ≠ (Y + 18) by omega) a18), (lk_ne (show Y ≠ (Y + 19) by omega) a19), (lk_ne (show Y ≠ (Y + 20) by omega) a20), (lk_ne (show Y ≠ (Y + 21) by omega) a21)⟩, ⟨_, _, (lk_ne (show Y ≠ (Y + 15) by omega) a15), (lk_ne (show Y ≠ (Y + 16) by omega) a16), b15⟩⟩, (FR.st (c' := .inr (11, .int (nI 0) :: .int st :: .ref (Y + 1) :: .ref (Y + 2) :: .ref (Y + 3) :: .ref (Y + 4) :: .int (nI pn) :: .ref (Y + 5) :: .ref (Y + 6) :: .ref (Y + 7) :: .int dg :: .ref (Y + 8) :: .int dd :: .ref (Y + 9) :: .ref (Y + 10) :: .ref (Y + 11) :: .ref (Y + 12) :: .int ld :: .int be :: .int ib :: .ref (Y + 13) :: .ref (Y + 14) :: .ref (Y + 15) :: .ref (Y + 16) :: .ref (Y + 17) :: .int (nI tl) :: .int fa :: .int re :: .int ig :: .ref (Y + 18) :: .ref (Y + 19) :: .ref (Y + 20) :: .ref (Y + 21) :: [])) FR.rf hY rfl (by unfold modS; omega))⟩))
        · exact absurd rfl hd9
