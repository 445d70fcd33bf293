/-! the reference: coefficient, found, count, cyclotomic, plus, take -/
theorem putM_int {F : Nat → Int} {kd k : Nat} {w w' : Wd} {Y tl : Nat} {tb : Nat → Int32} {fa : Int32} {rf : Nat → Nat} {sh : SV} {pn : Nat} {pk : Nat → Nat} {ps : Nat → SV} {im : Nat → Option SV} {r : Option Value} (h : putM F kd k w Y tl tb fa rf sh pn pk ps im r w') : ∃ v, r = some (.int v) := by
  obtain ⟨c, -, ⟨-, rfl, -⟩ | ⟨-, rfl, -⟩⟩ := h
  · exact ⟨_, rfl⟩
  · exact ⟨_, rfl⟩
theorem putM.fr {F : Nat → Int} {kd k : Nat} {w w1 w' : Wd} {Y tl : Nat} {tb : Nat → Int32} {fa : Int32} {rf : Nat → Nat} {sh : SV} {pn : Nat} {pk : Nat → Nat} {ps : Nat → SV} {im : Nat → Option SV} {r : Option Value} (h : putM F kd k w1 Y tl tb fa rf sh pn pk ps im r w') (hF : FR (modS Y) w w1) : putM F kd k w Y tl tb fa rf sh pn pk ps im r w' := by
  obtain ⟨c, h1, h2⟩ := h
  refine ⟨c, h1, ?_⟩
  rcases h2 with ⟨a, b⟩ | ⟨a, b, g, d⟩
  · exact Or.inl ⟨a, b.fr hF⟩
  · exact Or.inr ⟨a, b, g, hF.tr d⟩
theorem ip_of {x : Int32} {k : Nat} (h : 0 ≤ x.toInt ∧ x.toInt ≤ (k : Int)) : ∃ j, x = nI j ∧ j ≤ k := ⟨x.toInt.toNat, nI_toNat h.1, by omega⟩
theorem il_of {x : Int32} {k : Nat} (h : 0 ≤ x.toInt ∧ x.toInt ≤ (k : Int) - 1) : ∃ j, x = nI j ∧ j < k := ⟨x.toInt.toNat, nI_toNat h.1, by omega⟩
abbrev BX12_coefficient (w0 : Wd) (Post : Option Value → Wd → Prop) (w : Wd) (pc : Nat) (ls : List (Nat × Value)) (st : List Value) : Prop := GP "coefficient" RX12 cX12_coefficient 3 (some .int) 2 78 none w0 Post w pc ls st
abbrev EX12_coefficient (As : List Value) (w : Wd) (Post : Option Value → Wd → Prop) : Prop := EP yX12_coefficient cX12_coefficient 3 (some .int) 2 As w Post
theorem mq_coefficient (w : Wd) {Y tl : Nat} {tb : Nat → Int32} {fa st : Int32} {rf : Nat → Nat} {sh : SV} {pn : Nat} {pk : Nat → Nat} {ps : Nat → SV} {im : Nat → Option SV} (hM : mdC w Y tl tb fa st rf sh pn pk ps im) {x y : Int32} : EX12_coefficient [.ref Y, .int x, .int y] w (fun r w' => (¬ (isPl x ∧ (0 ≤ y.toInt ∧ y.toInt ≤ 12)) ∧ r = some (.int (-2147483648)) ∧ mdC w' Y tl tb fa st rf sh pn pk ps im ∧ FR (modS Y) w w') ∨ (∃ i j v, x = nI i ∧ i < 8 ∧ y = nI j ∧ j ≤ 12 ∧ r = some (.int v) ∧ v.toInt = (sh.1 i).2 j ∧ mdC w' Y tl tb fa st rf sh pn pk ps im ∧ FR (modS Y) w w')) := by
  refine EP.of (plainFor_of_name (by decide)) [(0, .ref Y), (1, .int x), (2, .int y)] rfl (Nat.le_of_ble_eq_true rfl) (fun r wf h => by rcases h with ⟨-, rfl, -⟩ | ⟨i, j, v, -, -, -, -, rfl, -⟩ <;> trivial) ?_
  show BX12_coefficient w _ w 0 [(0, .ref Y), (1, .int x), (2, .int y)] []
  obtain ⟨⟨th, dg, dd, ld, be, ib, re, ig, hY⟩, ⟨⟨g1, a1, b1⟩, ⟨g2, a2, b2⟩, ⟨g3, g4, a3, a4, b3, b4⟩, ⟨g5, g6, a5, a6, b5⟩, ⟨g11, a11, b11⟩, ⟨g17, a17, b17⟩⟩, ⟨g7, g8, g9, g10, g12, g13, g14, g18, g19, g20, g21, a7, a8, a9, a10, a12, a13, a14, a18, a19, a20, a21⟩, ⟨g15, g16, a15, a16, b15⟩⟩ := id hM
  refine g_aload_n (pc := 0) 0 dX12_coefficient_0 rfl rfl ?_
  refine g_iconst (pc := 1) (v := nI 0) dX12_coefficient_1 (by decide) ?_
  refine g_put (pc := 2) (.int (nI 0) :: .int st :: .ref (Y + 1) :: .ref (Y + 2) :: .ref (Y + 3) :: .ref (Y + 4) :: .int (nI pn) :: .ref (Y + 5) :: .ref (Y + 6) :: .ref (Y + 7) :: .int dg :: .ref (Y + 8) :: .int dd :: .ref (Y + 9) :: .ref (Y + 10) :: .ref (Y + 11) :: .ref (Y + 12) :: .int ld :: .int be :: .int ib :: .ref (Y + 13) :: .ref (Y + 14) :: .ref (Y + 15) :: .ref (Y + 16) :: .ref (Y + 17) :: .int (nI tl) :: .int fa :: .int re :: .int ig :: .ref (Y + 18) :: .ref (Y + 19) :: .ref (Y + 20) :: .ref (Y + 21) :: []) dX12_coefficient_2 fk_X12_83 hY (Nat.le_of_ble_eq_true rfl) rfl rfl ?_
  refine g_iload_n (pc := 5) 1 dX12_coefficient_5 rfl rfl ?_
  refine g_callS (pc := 6) [.int x] dX12_coefficient_6 cs_X12_277.1 cs_X12_277.2 rfl rfl (Nat.le_of_ble_eq_true rfl) (by decide) (by decide) (mp_isStore _) ?_
  rintro _ w9 (⟨rfl, hpi, e9⟩ | ⟨rfl, hpi, e9⟩)
  · refine GP.weq _ e9 ?_
    obtain ⟨i, rfl, hi⟩ := pl_of hpi
    refine n_if_eq (pc := 9) 33 dX12_coefficient_9 (by decide) (by omega) (fun hd9 => ?_) (fun hd9 => ?_)
    · exact absurd hd9 (by decide)
    · refine g_iload_n (pc := 12) 2 dX12_coefficient_12 rfl rfl ?_
      refine g_i2l (pc := 13) dX12_coefficient_13 ?_
      refine g_lconst (pc := 14) (v := 0) dX12_coefficient_14 (by decide) ?_
      refine g_ldc2 (pc := 15) kc_X12_126 dX12_coefficient_15 ?_
      refine g_callS (pc := 18) [.long y.toInt64, .long 0, .long (12)] dX12_coefficient_18 cs_X12_103.1 cs_X12_103.2 rfl rfl (Nat.le_of_ble_eq_true rfl) (by decide) (by decide) (mp_in _) ?_
      rintro _ w9 (⟨rfl, hj9, e9⟩ | ⟨rfl, hj9, e9⟩)
      · refine GP.weq _ e9 ?_
        rw [IL, L12, L00] at hj9
        obtain ⟨j, rfl, hj⟩ := ip_of (k := 12) hj9
        refine n_if_eq (pc := 21) 33 dX12_coefficient_21 (by decide) (by omega) (fun hd9 => ?_) (fun hd9 => ?_)
        · exact absurd hd9 (by decide)
        · refine g_aload_n (pc := 24) 0 dX12_coefficient_24 rfl rfl ?_
          refine g_iload_n (pc := 25) 1 dX12_coefficient_25 rfl rfl ?_
          refine g_iload_n (pc := 26) 2 dX12_coefficient_26 rfl rfl ?_
          refine g_callV (pc := 27) [.int (nI i), .int (nI j)] dX12_coefficient_27 cv_X12_122.1 cv_X12_122.2.1 cv_X12_122.2.2.1 cv_X12_122.2.2.2 (lk_eq hY) rfl rfl (Nat.le_of_ble_eq_true rfl) (by decide) (by decide) (mp_at _ (lk_eq hY) (lk_ne (show Y ≠ (Y + 2) by omega) a2) hi (show j < 13 by omega)) ?_
          rintro _ w9 ⟨rfl, e9⟩
          refine GP.weq _ e9 ?_
          refine g_goto (pc := 30) 36 dX12_coefficient_30 (by decide) ?_
          exact g_iret (pc := 36) dX12_coefficient_36 (Or.inr ⟨i, j, _, rfl, hi, rfl, hj, rfl, (b2.1 i hi).2.2 j (by omega), ⟨⟨_, _, _, _, _, _, _, _, (lk_eq hY)⟩, ⟨⟨_, (lk_ne (show Y ≠ (Y + 1) by omega) a1), b1⟩, ⟨_, (lk_ne (show Y ≠ (Y + 2) by omega) a2), b2⟩, ⟨_, _, (lk_ne (show Y ≠ (Y + 3) by omega) a3), (lk_ne (show Y ≠ (Y + 4) by omega) a4), b3, b4⟩, ⟨_, _, (lk_ne (show Y ≠ (Y + 5) by omega) a5), (lk_ne (show Y ≠ (Y + 6) by omega) a6), b5⟩, ⟨_, (lk_ne (show Y ≠ (Y + 11) by omega) a11), b11⟩, ⟨_, (lk_ne (show Y ≠ (Y + 17) by omega) a17), b17⟩⟩, ⟨_, _, _, _, _, _, _, _, _, _, _, (lk_ne (show Y ≠ (Y + 7) by omega) a7), (lk_ne (show Y ≠ (Y + 8) by omega) a8), (lk_ne (show Y ≠ (Y + 9) by omega) a9), (lk_ne (show Y ≠ (Y + 10) by omega) a10), (lk_ne (show Y ≠ (Y + 12) by omega) a12), (lk_ne (show Y ≠ (Y + 13) by omega) a13), (lk_ne (show Y ≠ (Y + 14) by omega) a14), (lk_ne (show Y ≠ (Y + 18) by omega) a18), (lk_ne (show Y ≠ (Y + 19) by omega) a19), (lk_ne (show Y ≠ (Y + 20) by omega) a20), (lk_ne (show Y ≠ (Y + 21) by omega) a21)⟩, ⟨_, _, (lk_ne (show Y ≠ (Y + 15) by omega) a15), (lk_ne (show Y ≠ (Y + 16) by omega) a16), b15⟩⟩, (FR.st (c' := .inr (11, .int (nI 0) :: .int st :: .ref (Y + 1) :: .ref (Y + 2) :: .ref (Y + 3) :: .ref (Y + 4) :: .int (nI pn) :: .ref (Y + 5) :: .ref (Y + 6) :: .ref (Y + 7) :: .int dg :: .ref (Y + 8) :: .int dd :: .ref (Y + 9) :: .ref (Y + 10) :: .ref (Y + 11) :: .ref (Y + 12) :: .int ld :: .int be :: .int ib :: .ref (Y + 13) :: .ref (Y + 14) :: .ref (Y + 15) :: .ref (Y + 16) :: .ref (Y + 17) :: .int (nI tl) :: .int fa :: .int re :: .int ig :: .ref (Y + 18) :: .ref (Y + 19) :: .ref (Y + 20) :: .ref (Y + 21) :: [])) FR.rf hY rfl (by unfold modS; omega))⟩)
      · refine GP.weq _ e9 ?_
        rw [IL, L12, L00] at hj9
        refine n_if_eq (pc := 21) 33 dX12_coefficient_21 (by decide) (by omega) (fun hd9 => ?_) (fun hd9 => ?_)
        · refine g_ldcw (pc := 33) kc_X12_337 dX12_coefficient_33 ?_
          exact g_iret (pc := 36) dX12_coefficient_36 (Or.inl ⟨fun g => hj9 g.2, rfl, ⟨⟨_, _, _, _, _, _, _, _, (lk_eq hY)⟩, ⟨⟨_, (lk_ne (show Y ≠ (Y + 1) by omega) a1), b1⟩, ⟨_, (lk_ne (show Y ≠ (Y + 2) by omega) a2), b2⟩, ⟨_, _, (lk_ne (show Y ≠ (Y + 3) by omega) a3), (lk_ne (show Y ≠ (Y + 4) by omega) a4), b3, b4⟩, ⟨_, _, (lk_ne (show Y ≠ (Y + 5) by omega) a5), (lk_ne (show Y ≠ (Y + 6) by omega) a6), b5⟩, ⟨_, (lk_ne (show Y ≠ (Y + 11) by omega) a11), b11⟩, ⟨_, (lk_ne (show Y ≠ (Y + 17) by omega) a17), b17⟩⟩, ⟨_, _, _, _, _, _, _, _, _, _, _, (lk_ne (show Y ≠ (Y + 7) by omega) a7), (lk_ne (show Y ≠ (Y + 8) by omega) a8), (lk_ne (show Y ≠ (Y + 9) by omega) a9), (lk_ne (show Y ≠ (Y + 10) by omega) a10), (lk_ne (show Y ≠ (Y + 12) by omega) a12), (lk_ne (show Y ≠ (Y + 13) by omega) a13), (lk_ne (show Y ≠ (Y + 14) by omega) a14), (lk_ne (show Y ≠ (Y + 18) by omega) a18), (lk_ne (show Y ≠ (Y + 19) by omega) a19), (lk_ne (show Y ≠ (Y + 20) by omega) a20), (lk_ne (show Y ≠ (Y + 21) by omega) a21)⟩, ⟨_, _, (lk_ne (show Y ≠ (Y + 15) by omega) a15), (lk_ne (show Y ≠ (Y + 16) by omega) a16), b15⟩⟩, (FR.st (c' := .inr (11, .int (nI 0) :: .int st :: .ref (Y + 1) :: .ref (Y + 2) :: .ref (Y + 3) :: .ref (Y + 4) :: .int (nI pn) :: .ref (Y + 5) :: .ref (Y + 6) :: .ref (Y + 7) :: .int dg :: .ref (Y + 8) :: .int dd :: .ref (Y + 9) :: .ref (Y + 10) :: .ref (Y + 11) :: .ref (Y + 12) :: .int ld :: .int be :: .int ib :: .ref (Y + 13) :: .ref (Y + 14) :: .ref (Y + 15) :: .ref (Y + 16) :: .ref (Y + 17) :: .int (nI tl) :: .int fa :: .int re :: .int ig :: .ref (Y + 18) :: .ref (Y + 19) :: .ref (Y + 20) :: .ref (Y + 21) :: [])) FR.rf hY rfl (by unfold modS; omega))⟩)
        · exact absurd rfl hd9
  · refine GP.weq _ e9 ?_
    refine n_if_eq (pc := 9) 33 dX12_coefficient_9 (by decide) (by omega) (fun hd9 => ?_) (fun hd9 => ?_)
    · refine g_ldcw (pc := 33) kc_X12_337 dX12_coefficient_33 ?_
      exact g_iret (pc := 36) dX12_coefficient_36 (Or.inl ⟨fun g => hpi g.1, rfl, ⟨⟨_, _, _, _, _, _, _, _, (lk_eq hY)⟩, ⟨⟨_, (lk_ne (show Y ≠ (Y + 1) by omega) a1), b1⟩, ⟨_, (lk_ne (show Y ≠ (Y + 2) by omega) a2), b2⟩, ⟨_, _, (lk_ne (show Y ≠ (Y + 3) by omega) a3), (lk_ne (show Y ≠ (Y + 4) by omega) a4), b3, b4⟩, ⟨_, _, (lk_ne (show Y ≠ (Y + 5) by omega) a5), (lk_ne (show Y ≠ (Y + 6) by omega) a6), b5⟩, ⟨_, (lk_ne (show Y ≠ (Y + 11) by omega) a11), b11⟩, ⟨_, (lk_ne (show Y ≠ (Y + 17) by omega) a17), b17⟩⟩, ⟨_, _, _, _, _, _, _, _, _, _, _, (lk_ne (show Y ≠ (Y + 7) by omega) a7), (lk_ne (show Y ≠ (Y + 8) by omega) a8), (lk_ne (show Y ≠ (Y + 9) by omega) a9), (lk_ne (show Y ≠ (Y + 10) by omega) a10), (lk_ne (show Y ≠ (Y + 12) by omega) a12), (lk_ne (show Y ≠ (Y + 13) by omega) a13), (lk_ne (show Y ≠ (Y + 14) by omega) a14), (lk_ne (show Y ≠ (Y + 18) by omega) a18), (lk_ne (show Y ≠ (Y + 19) by omega) a19), (lk_ne (show Y ≠ (Y + 20) by omega) a20), (lk_ne (show Y ≠ (Y + 21) by omega) a21)⟩, ⟨_, _, (lk_ne (show Y ≠ (Y + 15) by omega) a15), (lk_ne (show Y ≠ (Y + 16) by omega) a16), b15⟩⟩, (FR.st (c' := .inr (11, .int (nI 0) :: .int st :: .ref (Y + 1) :: .ref (Y + 2) :: .ref (Y + 3) :: .ref (Y + 4) :: .int (nI pn) :: .ref (Y + 5) :: .ref (Y + 6) :: .ref (Y + 7) :: .int dg :: .ref (Y + 8) :: .int dd :: .ref (Y + 9) :: .ref (Y + 10) :: .ref (Y + 11) :: .ref (Y + 12) :: .int ld :: .int be :: .int ib :: .ref (Y + 13) :: .ref (Y + 14) :: .ref (Y + 15) :: .ref (Y + 16) :: .ref (Y + 17) :: .int (nI tl) :: .int fa :: .int re :: .int ig :: .ref (Y + 18) :: .ref (Y + 19) :: .ref (Y + 20) :: .ref (Y + 21) :: [])) FR.rf hY rfl (by unfold modS; omega))⟩)
    · exact absurd rfl hd9
abbrev BX12_isFound (w0 : Wd) (Post : Option Value → Wd → Prop) (w : Wd) (pc : Nat) (ls : List (Nat × Value)) (st : List Value) : Prop := GP "isFound" RX12 cX12_isFound 2 (some .boolean) 1 39 none w0 Post w pc ls st
abbrev EX12_isFound (As : List Value) (w : Wd) (Post : Option Value → Wd → Prop) : Prop := EP yX12_isFound cX12_isFound 2 (some .boolean) 1 As w Post
theorem mp_isFound (w : Wd) {Y : Nat} {th st nu dg dd ld be ib ta fa re ig : Int32} {g : Nat → Int32} {V : SV} (hY : w[Y]? = some (oM Y th st nu dg dd ld be ib ta fa re ig)) (h2 : w[Y + 2]? = some (aI 0 626 g)) (hV : rowR g V) {x : Int32} : EX12_isFound [.ref Y, .int x] w (fun r w' => (r = some (.int (nI 1)) ∧ (0 ≤ x.toInt ∧ x.toInt < V.2.2.2.2.2.1) ∧ w' = w) ∨ (r = some (.int (nI 0)) ∧ ¬ (0 ≤ x.toInt ∧ x.toInt < V.2.2.2.2.2.1) ∧ w' = w)) := by
  obtain ⟨-, ⟨h2k, -⟩, ⟨-, hk30, -⟩, -⟩ := id hV
  refine EP.of (plainFor_of_name (by decide)) [(0, .ref Y), (1, .int x)] rfl (Nat.le_of_ble_eq_true rfl) (fun r wf h => by rcases h with ⟨rfl, -⟩ | ⟨rfl, -⟩; exact Or.inr rfl; exact Or.inl rfl) ?_
  show BX12_isFound w _ w 0 [(0, .ref Y), (1, .int x)] []
  refine g_iload_n (pc := 0) 1 dX12_isFound_0 rfl rfl ?_
  refine g_i2l (pc := 1) dX12_isFound_1 ?_
  refine g_lconst (pc := 2) (v := 0) dX12_isFound_2 (by decide) ?_
  refine g_aload_n (pc := 3) 0 dX12_isFound_3 rfl rfl ?_
  refine g_get (pc := 4) dX12_isFound_4 fk_X12_13 hY rfl ?_
  refine g_bipush (pc := 7) (v := nI 112) dX12_isFound_7 (by decide) ?_
  refine g_iald (pc := 9) 112 dX12_isFound_9 h2 (IXn (by omega) (by omega)) ?_
  refine GP.ti (nI V.2.2.2.2.2.1) h2k ?_
  refine g_i2l (pc := 10) dX12_isFound_10 ?_
  refine g_lconst (pc := 11) (v := 1) dX12_isFound_11 (by decide) ?_
  refine g_lsub (pc := 12) dX12_isFound_12 ?_
  have hlo : ((nI V.2.2.2.2.2.1).toInt64 - 1).toInt = (V.2.2.2.2.2.1 : Int) - 1 := by rw [L_sub (by rw [IL, nI_toInt (by omega), L1]; omega) (by rw [IL, nI_toInt (by omega), L1]; omega), IL, nI_toInt (by omega), L1]
  refine g_callS (pc := 13) [.long x.toInt64, .long 0, .long (((nI V.2.2.2.2.2.1).toInt64) - 1)] dX12_isFound_13 cs_X12_103.1 cs_X12_103.2 rfl rfl (Nat.le_of_ble_eq_true rfl) (by decide) (by decide) (mp_in _) ?_
  rintro _ w9 (⟨rfl, hi, e9⟩ | ⟨rfl, hi, e9⟩)
  · refine GP.weq _ e9 ?_
    exact g_iret (pc := 16) dX12_isFound_16 (Or.inl ⟨rfl, by rw [IL, L00, hlo] at hi; omega, rfl⟩)
  · refine GP.weq _ e9 ?_
    exact g_iret (pc := 16) dX12_isFound_16 (Or.inr ⟨rfl, by rw [IL, L00, hlo] at hi; omega, rfl⟩)
abbrev BX12_found (w0 : Wd) (Post : Option Value → Wd → Prop) (w : Wd) (pc : Nat) (ls : List (Nat × Value)) (st : List Value) : Prop := GP "found" RX12 cX12_found 4 (some .int) 2 78 none w0 Post w pc ls st
abbrev EX12_found (As : List Value) (w : Wd) (Post : Option Value → Wd → Prop) : Prop := EP yX12_found cX12_found 4 (some .int) 2 As w Post
theorem mq_found (w : Wd) {Y tl : Nat} {tb : Nat → Int32} {fa st : Int32} {rf : Nat → Nat} {sh : SV} {pn : Nat} {pk : Nat → Nat} {ps : Nat → SV} {im : Nat → Option SV} (hM : mdC w Y tl tb fa st rf sh pn pk ps im) {x y : Int32} : EX12_found [.ref Y, .int x, .int y] w (fun r w' => (¬ (0 ≤ x.toInt ∧ x.toInt < sh.2.2.2.2.2.1 ∧ ((0 ≤ y.toInt ∧ y.toInt ≤ sh.2.1) ∨ (13 ≤ y.toInt ∧ y.toInt ≤ 15))) ∧ r = some (.int (-2147483648)) ∧ mdC w' Y tl tb fa st rf sh pn pk ps im ∧ FR (modS Y) w w') ∨ (∃ i k v, x = nI i ∧ i < sh.2.2.2.2.2.1 ∧ y = nI k ∧ (k ≤ sh.2.1 ∨ (13 ≤ k ∧ k ≤ 15)) ∧ r = some (.int v) ∧ v.toInt = sh.2.2.2.2.2.2 (i * 16 + k) ∧ mdC w' Y tl tb fa st rf sh pn pk ps im ∧ FR (modS Y) w w')) := by
  refine EP.of (plainFor_of_name (by decide)) [(0, .ref Y), (1, .int x), (2, .int y)] rfl (Nat.le_of_ble_eq_true rfl) (fun r wf h => by rcases h with ⟨-, rfl, -⟩ | ⟨i, j, v, -, -, -, -, rfl, -⟩ <;> trivial) ?_
  show BX12_found w _ w 0 [(0, .ref Y), (1, .int x), (2, .int y)] []
  obtain ⟨⟨th, dg, dd, ld, be, ib, re, ig, hY⟩, ⟨⟨g1, a1, b1⟩, ⟨g2, a2, b2⟩, ⟨g3, g4, a3, a4, b3, b4⟩, ⟨g5, g6, a5, a6, b5⟩, ⟨g11, a11, b11⟩, ⟨g17, a17, b17⟩⟩, ⟨g7, g8, g9, g10, g12, g13, g14, g18, g19, g20, g21, a7, a8, a9, a10, a12, a13, a14, a18, a19, a20, a21⟩, ⟨g15, g16, a15, a16, b15⟩⟩ := id hM
  refine g_aload_n (pc := 0) 0 dX12_found_0 rfl rfl ?_
  refine g_iconst (pc := 1) (v := nI 0) dX12_found_1 (by decide) ?_
  refine g_put (pc := 2) (.int (nI 0) :: .int st :: .ref (Y + 1) :: .ref (Y + 2) :: .ref (Y + 3) :: .ref (Y + 4) :: .int (nI pn) :: .ref (Y + 5) :: .ref (Y + 6) :: .ref (Y + 7) :: .int dg :: .ref (Y + 8) :: .int dd :: .ref (Y + 9) :: .ref (Y + 10) :: .ref (Y + 11) :: .ref (Y + 12) :: .int ld :: .int be :: .int ib :: .ref (Y + 13) :: .ref (Y + 14) :: .ref (Y + 15) :: .ref (Y + 16) :: .ref (Y + 17) :: .int (nI tl) :: .int fa :: .int re :: .int ig :: .ref (Y + 18) :: .ref (Y + 19) :: .ref (Y + 20) :: .ref (Y + 21) :: []) dX12_found_2 fk_X12_83 hY (Nat.le_of_ble_eq_true rfl) rfl rfl ?_
  refine g_aload_n (pc := 5) 0 dX12_found_5 rfl rfl ?_
  refine g_iload_n (pc := 6) 1 dX12_found_6 rfl rfl ?_
  obtain ⟨-, -, ⟨hd12, hk30, -⟩, hfo⟩ := id b2
  refine g_callV (pc := 7) [.int x] dX12_found_7 cv_X12_332.1 cv_X12_332.2.1 cv_X12_332.2.2.1 cv_X12_332.2.2.2 (lk_eq hY) rfl rfl (Nat.le_of_ble_eq_true rfl) (by decide) (by decide) (mp_isFound _ (lk_eq hY) (lk_ne (show Y ≠ (Y + 2) by omega) a2) b2) ?_
  rintro _ w9 (⟨rfl, hx, e9⟩ | ⟨rfl, hx, e9⟩)
  · refine GP.weq _ e9 ?_
    obtain ⟨i, rfl, hi⟩ : ∃ i, x = nI i ∧ i < sh.2.2.2.2.2.1 := ⟨x.toInt.toNat, nI_toNat hx.1, by omega⟩
    obtain ⟨hf1, hf2, -⟩ := hfo i hi
    refine n_if_ne (pc := 10) 17 dX12_found_10 (by decide) (by omega) (fun hd9 => ?_) (fun hd9 => ?_)
    · refine g_bipush (pc := 17) (v := nI 116) dX12_found_17 (by decide) ?_
      refine g_bipush (pc := 19) (v := nI 17) dX12_found_19 (by decide) ?_
      refine g_iload_n (pc := 21) 1 dX12_found_21 rfl rfl ?_
      refine n_imul (pc := 22) dX12_found_22 ?_
      refine n_iadd (pc := 23) dX12_found_23 ?_
      refine g_istore_n (pc := 24) [(3, .int (nI (116 + (17 * i)))), (0, .ref Y), (1, .int (nI i)), (2, .int y)] dX12_found_24 rfl (by decide) rfl ?_
      refine g_iload_n (pc := 25) 3 dX12_found_25 rfl rfl ?_
      refine g_i2l (pc := 26) dX12_found_26 ?_
      refine g_lconst (pc := 27) (v := 0) dX12_found_27 (by decide) ?_
      refine g_aload_n (pc := 28) 1 dX12_found_28 rfl rfl ?_
      refine g_get (pc := 29) dX12_found_29 fk_X12_13 (lk_eq hY) rfl ?_
      refine g_iload_n (pc := 32) 0 dX12_found_32 rfl rfl ?_
      refine g_iald (pc := 33) (116 + (17 * i)) dX12_found_33 (lk_ne (show Y ≠ (Y + 2) by omega) a2) (IXn (by omega) (by omega)) ?_
      refine GP.ti (nI sh.2.1) hf1 ?_
      refine g_i2l (pc := 34) dX12_found_34 ?_
      refine g_callS (pc := 35) [.long y.toInt64, .long 0, .long ((nI sh.2.1).toInt64)] dX12_found_35 cs_X12_103.1 cs_X12_103.2 rfl rfl (Nat.le_of_ble_eq_true rfl) (by decide) (by decide) (mp_in _) ?_
      rintro _ w9 (⟨rfl, hj9, e9⟩ | ⟨rfl, hj9, e9⟩)
      · refine GP.weq _ e9 ?_
        rw [IL, IL, L00, nI_toInt (by omega)] at hj9
        obtain ⟨j, rfl, hj⟩ := ip_of hj9
        refine n_if_eq (pc := 38) 54 dX12_found_38 (by decide) (by omega) (fun hd9 => ?_) (fun hd9 => ?_)
        · exact absurd hd9 (by decide)
        · refine g_aload_n (pc := 41) 1 dX12_found_41 rfl rfl ?_
          refine g_get (pc := 42) dX12_found_42 fk_X12_13 (lk_eq hY) rfl ?_
          refine g_iload_n (pc := 45) 0 dX12_found_45 rfl rfl ?_
          refine g_iconst (pc := 46) (v := nI 1) dX12_found_46 (by decide) ?_
          refine n_iadd (pc := 47) dX12_found_47 ?_
          refine g_iload_n (pc := 48) 3 dX12_found_48 rfl rfl ?_
          refine n_iadd (pc := 49) dX12_found_49 ?_
          refine g_iald (pc := 50) (((116 + (17 * i)) + 1) + j) dX12_found_50 (lk_ne (show Y ≠ (Y + 2) by omega) a2) (IXn (by omega) (by omega)) ?_
          refine g_goto (pc := 51) 84 dX12_found_51 (by decide) ?_
          exact g_iret (pc := 84) dX12_found_84 (Or.inr ⟨i, j, _, rfl, hi, rfl, Or.inl hj, rfl, hf2 j (by omega), ⟨⟨_, _, _, _, _, _, _, _, (lk_eq hY)⟩, ⟨⟨_, (lk_ne (show Y ≠ (Y + 1) by omega) a1), b1⟩, ⟨_, (lk_ne (show Y ≠ (Y + 2) by omega) a2), b2⟩, ⟨_, _, (lk_ne (show Y ≠ (Y + 3) by omega) a3), (lk_ne (show Y ≠ (Y + 4) by omega) a4), b3, b4⟩, ⟨_, _, (lk_ne (show Y ≠ (Y + 5) by omega) a5), (lk_ne (show Y ≠ (Y + 6) by omega) a6), b5⟩, ⟨_, (lk_ne (show Y ≠ (Y + 11) by omega) a11), b11⟩, ⟨_, (lk_ne (show Y ≠ (Y + 17) by omega) a17), b17⟩⟩, ⟨_, _, _, _, _, _, _, _, _, _, _, (lk_ne (show Y ≠ (Y + 7) by omega) a7), (lk_ne (show Y ≠ (Y + 8) by omega) a8), (lk_ne (show Y ≠ (Y + 9) by omega) a9), (lk_ne (show Y ≠ (Y + 10) by omega) a10), (lk_ne (show Y ≠ (Y + 12) by omega) a12), (lk_ne (show Y ≠ (Y + 13) by omega) a13), (lk_ne (show Y ≠ (Y + 14) by omega) a14), (lk_ne (show Y ≠ (Y + 18) by omega) a18), (lk_ne (show Y ≠ (Y + 19) by omega) a19), (lk_ne (show Y ≠ (Y + 20) by omega) a20), (lk_ne (show Y ≠ (Y + 21) by omega) a21)⟩, ⟨_, _, (lk_ne (show Y ≠ (Y + 15) by omega) a15), (lk_ne (show Y ≠ (Y + 16) by omega) a16), b15⟩⟩, (FR.st (c' := .inr (11, .int (nI 0) :: .int st :: .ref (Y + 1) :: .ref (Y + 2) :: .ref (Y + 3) :: .ref (Y + 4) :: .int (nI pn) :: .ref (Y + 5) :: .ref (Y + 6) :: .ref (Y + 7) :: .int dg :: .ref (Y + 8) :: .int dd :: .ref (Y + 9) :: .ref (Y + 10) :: .ref (Y + 11) :: .ref (Y + 12) :: .int ld :: .int be :: .int ib :: .ref (Y + 13) :: .ref (Y + 14) :: .ref (Y + 15) :: .ref (Y + 16) :: .ref (Y + 17) :: .int (nI tl) :: .int fa :: .int re :: .int ig :: .ref (Y + 18) :: .ref (Y + 19) :: .ref (Y + 20) :: .ref (Y + 21) :: [])) FR.rf hY rfl (by unfold modS; omega))⟩)
      · refine GP.weq _ e9 ?_
        rw [IL, IL, L00, nI_toInt (by omega)] at hj9
        refine n_if_eq (pc := 38) 54 dX12_found_38 (by decide) (by omega) (fun hd9 => ?_) (fun hd9 => ?_)
        · refine g_iload_n (pc := 54) 3 dX12_found_54 rfl rfl ?_
          refine g_i2l (pc := 55) dX12_found_55 ?_
          refine g_ldc2 (pc := 56) kc_X12_367 dX12_found_56 ?_
          refine g_ldc2 (pc := 59) kc_X12_369 dX12_found_59 ?_
          refine g_callS (pc := 62) [.long y.toInt64, .long (13), .long (15)] dX12_found_62 cs_X12_103.1 cs_X12_103.2 rfl rfl (Nat.le_of_ble_eq_true rfl) (by decide) (by decide) (mp_in _) ?_
          rintro _ w9 (⟨rfl, hj8, e9⟩ | ⟨rfl, hj8, e9⟩)
          · refine GP.weq _ e9 ?_
            rw [IL, show (13 : Int64).toInt = 13 from by decide, show (15 : Int64).toInt = 15 from by decide] at hj8
            obtain ⟨j, rfl, hj⟩ : ∃ j, y = nI j ∧ 13 ≤ j ∧ j ≤ 15 := ⟨y.toInt.toNat, nI_toNat (by omega), by omega, by omega⟩
            refine n_if_eq (pc := 65) 81 dX12_found_65 (by decide) (by omega) (fun hd9 => ?_) (fun hd9 => ?_)
            · exact absurd hd9 (by decide)
            · refine g_aload_n (pc := 68) 1 dX12_found_68 rfl rfl ?_
              refine g_get (pc := 69) dX12_found_69 fk_X12_13 (lk_eq hY) rfl ?_
              refine g_iload_n (pc := 72) 0 dX12_found_72 rfl rfl ?_
              refine g_iconst (pc := 73) (v := nI 1) dX12_found_73 (by decide) ?_
              refine n_iadd (pc := 74) dX12_found_74 ?_
              refine g_iload_n (pc := 75) 3 dX12_found_75 rfl rfl ?_
              refine n_iadd (pc := 76) dX12_found_76 ?_
              refine g_iald (pc := 77) (((116 + (17 * i)) + 1) + j) dX12_found_77 (lk_ne (show Y ≠ (Y + 2) by omega) a2) (IXn (by omega) (by omega)) ?_
              refine g_goto (pc := 78) 84 dX12_found_78 (by decide) ?_
              exact g_iret (pc := 84) dX12_found_84 (Or.inr ⟨i, j, _, rfl, hi, rfl, Or.inr hj, rfl, hf2 j (by omega), ⟨⟨_, _, _, _, _, _, _, _, (lk_eq hY)⟩, ⟨⟨_, (lk_ne (show Y ≠ (Y + 1) by omega) a1), b1⟩, ⟨_, (lk_ne (show Y ≠ (Y + 2) by omega) a2), b2⟩, ⟨_, _, (lk_ne (show Y ≠ (Y + 3) by omega) a3), (lk_ne (show Y ≠ (Y + 4) by omega) a4), b3, b4⟩, ⟨_, _, (lk_ne (show Y ≠ (Y + 5) by omega) a5), (lk_ne (show Y ≠ (Y + 6) by omega) a6), b5⟩, ⟨_, (lk_ne (show Y ≠ (Y + 11) by omega) a11), b11⟩, ⟨_, (lk_ne (show Y ≠ (Y + 17) by omega) a17), b17⟩⟩, ⟨_, _, _, _, _, _, _, _, _, _, _, (lk_ne (show Y ≠ (Y + 7) by omega) a7), (lk_ne (show Y ≠ (Y + 8) by omega) a8), (lk_ne (show Y ≠ (Y + 9) by omega) a9), (lk_ne (show Y ≠ (Y + 10) by omega) a10), (lk_ne (show Y ≠ (Y + 12) by omega) a12), (lk_ne (show Y ≠ (Y + 13) by omega) a13), (lk_ne (show Y ≠ (Y + 14) by omega) a14), (lk_ne (show Y ≠ (Y + 18) by omega) a18), (lk_ne (show Y ≠ (Y + 19) by omega) a19), (lk_ne (show Y ≠ (Y + 20) by omega) a20), (lk_ne (show Y ≠ (Y + 21) by omega) a21)⟩, ⟨_, _, (lk_ne (show Y ≠ (Y + 15) by omega) a15), (lk_ne (show Y ≠ (Y + 16) by omega) a16), b15⟩⟩, (FR.st (c' := .inr (11, .int (nI 0) :: .int st :: .ref (Y + 1) :: .ref (Y + 2) :: .ref (Y + 3) :: .ref (Y + 4) :: .int (nI pn) :: .ref (Y + 5) :: .ref (Y + 6) :: .ref (Y + 7) :: .int dg :: .ref (Y + 8) :: .int dd :: .ref (Y + 9) :: .ref (Y + 10) :: .ref (Y + 11) :: .ref (Y + 12) :: .int ld :: .int be :: .int ib :: .ref (Y + 13) :: .ref (Y + 14) :: .ref (Y + 15) :: .ref (Y + 16) :: .ref (Y + 17) :: .int (nI tl) :: .int fa :: .int re :: .int ig :: .ref (Y + 18) :: .ref (Y + 19) :: .ref (Y + 20) :: .ref (Y + 21) :: [])) FR.rf hY rfl (by unfold modS; omega))⟩)
          · refine GP.weq _ e9 ?_
            rw [IL, show (13 : Int64).toInt = 13 from by decide, show (15 : Int64).toInt = 15 from by decide] at hj8
            refine n_if_eq (pc := 65) 81 dX12_found_65 (by decide) (by omega) (fun hd9 => ?_) (fun hd9 => ?_)
            · refine g_ldcw (pc := 81) kc_X12_337 dX12_found_81 ?_
              exact g_iret (pc := 84) dX12_found_84 (Or.inl ⟨fun g => g.2.2.elim hj9 hj8, rfl, ⟨⟨_, _, _, _, _, _, _, _, (lk_eq hY)⟩, ⟨⟨_, (lk_ne (show Y ≠ (Y + 1) by omega) a1), b1⟩, ⟨_, (lk_ne (show Y ≠ (Y + 2) by omega) a2), b2⟩, ⟨_, _, (lk_ne (show Y ≠ (Y + 3) by omega) a3), (lk_ne (show Y ≠ (Y + 4) by omega) a4), b3, b4⟩, ⟨_, _, (lk_ne (show Y ≠ (Y + 5) by omega) a5), (lk_ne (show Y ≠ (Y + 6) by omega) a6), b5⟩, ⟨_, (lk_ne (show Y ≠ (Y + 11) by omega) a11), b11⟩, ⟨_, (lk_ne (show Y ≠ (Y + 17) by omega) a17), b17⟩⟩, ⟨_, _, _, _, _, _, _, _, _, _, _, (lk_ne (show Y ≠ (Y + 7) by omega) a7), (lk_ne (show Y ≠ (Y + 8) by omega) a8), (lk_ne (show Y ≠ (Y + 9) by omega) a9), (lk_ne (show Y ≠ (Y + 10) by omega) a10), (lk_ne (show Y ≠ (Y + 12) by omega) a12), (lk_ne (show Y ≠ (Y + 13) by omega) a13), (lk_ne (show Y ≠ (Y + 14) by omega) a14), (lk_ne (show Y ≠ (Y + 18) by omega) a18), (lk_ne (show Y ≠ (Y + 19) by omega) a19), (lk_ne (show Y ≠ (Y + 20) by omega) a20), (lk_ne (show Y ≠ (Y + 21) by omega) a21)⟩, ⟨_, _, (lk_ne (show Y ≠ (Y + 15) by omega) a15), (lk_ne (show Y ≠ (Y + 16) by omega) a16), b15⟩⟩, (FR.st (c' := .inr (11, .int (nI 0) :: .int st :: .ref (Y + 1) :: .ref (Y + 2) :: .ref (Y + 3) :: .ref (Y + 4) :: .int (nI pn) :: .ref (Y + 5) :: .ref (Y + 6) :: .ref (Y + 7) :: .int dg :: .ref (Y + 8) :: .int dd :: .ref (Y + 9) :: .ref (Y + 10) :: .ref (Y + 11) :: .ref (Y + 12) :: .int ld :: .int be :: .int ib :: .ref (Y + 13) :: .ref (Y + 14) :: .ref (Y + 15) :: .ref (Y + 16) :: .ref (Y + 17) :: .int (nI tl) :: .int fa :: .int re :: .int ig :: .ref (Y + 18) :: .ref (Y + 19) :: .ref (Y + 20) :: .ref (Y + 21) :: [])) FR.rf hY rfl (by unfold modS; omega))⟩)
            · exact absurd rfl hd9
        · exact absurd rfl hd9
    · exact absurd hd9 (by decide)
  · refine GP.weq _ e9 ?_
    refine n_if_ne (pc := 10) 17 dX12_found_10 (by decide) (by omega) (fun hd9 => ?_) (fun hd9 => ?_)
    · exact absurd rfl hd9
    · refine g_ldcw (pc := 13) kc_X12_337 dX12_found_13 ?_
      exact g_iret (pc := 16) dX12_found_16 (Or.inl ⟨fun g => hx ⟨g.1, g.2.1⟩, rfl, ⟨⟨_, _, _, _, _, _, _, _, (lk_eq hY)⟩, ⟨⟨_, (lk_ne (show Y ≠ (Y + 1) by omega) a1), b1⟩, ⟨_, (lk_ne (show Y ≠ (Y + 2) by omega) a2), b2⟩, ⟨_, _, (lk_ne (show Y ≠ (Y + 3) by omega) a3), (lk_ne (show Y ≠ (Y + 4) by omega) a4), b3, b4⟩, ⟨_, _, (lk_ne (show Y ≠ (Y + 5) by omega) a5), (lk_ne (show Y ≠ (Y + 6) by omega) a6), b5⟩, ⟨_, (lk_ne (show Y ≠ (Y + 11) by omega) a11), b11⟩, ⟨_, (lk_ne (show Y ≠ (Y + 17) by omega) a17), b17⟩⟩, ⟨_, _, _, _, _, _, _, _, _, _, _, (lk_ne (show Y ≠ (Y + 7) by omega) a7), (lk_ne (show Y ≠ (Y + 8) by omega) a8), (lk_ne (show Y ≠ (Y + 9) by omega) a9), (lk_ne (show Y ≠ (Y + 10) by omega) a10), (lk_ne (show Y ≠ (Y + 12) by omega) a12), (lk_ne (show Y ≠ (Y + 13) by omega) a13), (lk_ne (show Y ≠ (Y + 14) by omega) a14), (lk_ne (show Y ≠ (Y + 18) by omega) a18), (lk_ne (show Y ≠ (Y + 19) by omega) a19), (lk_ne (show Y ≠ (Y + 20) by omega) a20), (lk_ne (show Y ≠ (Y + 21) by omega) a21)⟩, ⟨_, _, (lk_ne (show Y ≠ (Y + 15) by omega) a15), (lk_ne (show Y ≠ (Y + 16) by omega) a16), b15⟩⟩, (FR.st (c' := .inr (11, .int (nI 0) :: .int st :: .ref (Y + 1) :: .ref (Y + 2) :: .ref (Y + 3) :: .ref (Y + 4) :: .int (nI pn) :: .ref (Y + 5) :: .ref (Y + 6) :: .ref (Y + 7) :: .int dg :: .ref (Y + 8) :: .int dd :: .ref (Y + 9) :: .ref (Y + 10) :: .ref (Y + 11) :: .ref (Y + 12) :: .int ld :: .int be :: .int ib :: .ref (Y + 13) :: .ref (Y + 14) :: .ref (Y + 15) :: .ref (Y + 16) :: .ref (Y + 17) :: .int (nI tl) :: .int fa :: .int re :: .int ig :: .ref (Y + 18) :: .ref (Y + 19) :: .ref (Y + 20) :: .ref (Y + 21) :: [])) FR.rf hY rfl (by unfold modS; omega))⟩)
abbrev BX12_isCircle (w0 : Wd) (Post : Option Value → Wd → Prop) (w : Wd) (pc : Nat) (ls : List (Nat × Value)) (st : List Value) : Prop := GP "isCircle" RX12 cX12_isCircle 2 (some .boolean) 1 39 none w0 Post w pc ls st
abbrev EX12_isCircle (As : List Value) (w : Wd) (Post : Option Value → Wd → Prop) : Prop := EP yX12_isCircle cX12_isCircle 2 (some .boolean) 1 As w Post
theorem mp_isCircle (w : Wd) {Y : Nat} {th st nu dg dd ld be ib ta fa re ig : Int32} {g : Nat → Int32} (hY : w[Y]? = some (oM Y th st nu dg dd ld be ib ta fa re ig)) (h11 : w[Y + 11]? = some (aI 0 602 g)) (hc11 : ciR g) {x : Int32} : EX12_isCircle [.ref Y, .int x] w (fun r w' => (r = some (.int (nI 1)) ∧ (∃ n, x = nI n ∧ n < 43 ∧ 1 ≤ n ∧ cyIs n) ∧ w' = w) ∨ (r = some (.int (nI 0)) ∧ ¬ (∃ n, x = nI n ∧ n < 43 ∧ 1 ≤ n ∧ cyIs n) ∧ w' = w)) := by
  refine EP.of (plainFor_of_name (by decide)) [(0, .ref Y), (1, .int x)] rfl (Nat.le_of_ble_eq_true rfl) (fun r wf h => by rcases h with ⟨rfl, -⟩ | ⟨rfl, -⟩; exact Or.inr rfl; exact Or.inl rfl) ?_
  show BX12_isCircle w _ w 0 [(0, .ref Y), (1, .int x)] []
  refine g_iload_n (pc := 0) 1 dX12_isCircle_0 rfl rfl ?_
  refine g_i2l (pc := 1) dX12_isCircle_1 ?_
  refine g_lconst (pc := 2) (v := 1) dX12_isCircle_2 (by decide) ?_
  refine g_ldc2 (pc := 3) kc_X12_166 dX12_isCircle_3 ?_
  refine g_callS (pc := 6) [.long x.toInt64, .long 1, .long (42)] dX12_isCircle_6 cs_X12_103.1 cs_X12_103.2 rfl rfl (Nat.le_of_ble_eq_true rfl) (by decide) (by decide) (mp_in _) ?_
  rintro _ w9 (⟨rfl, hx, e9⟩ | ⟨rfl, hx, e9⟩)
  · refine GP.weq _ e9 ?_
    rw [IL, L1, show (42 : Int64).toInt = 42 from by decide] at hx
    obtain ⟨n, rfl, hn1, hn2⟩ : ∃ n, x = nI n ∧ 1 ≤ n ∧ n < 43 := ⟨x.toInt.toNat, nI_toNat (by omega), by omega, by omega⟩
    refine n_if_eq (pc := 9) 29 dX12_isCircle_9 (by decide) (by omega) (fun hd9 => ?_) (fun hd9 => ?_)
    · exact absurd hd9 (by decide)
    · refine g_aload_n (pc := 12) 0 dX12_isCircle_12 rfl rfl ?_
      refine g_get (pc := 13) dX12_isCircle_13 fk_X12_42 hY rfl ?_
      refine g_bipush (pc := 16) (v := nI 14) dX12_isCircle_16 (by decide) ?_
      refine g_iload_n (pc := 18) 1 dX12_isCircle_18 rfl rfl ?_
      refine n_imul (pc := 19) dX12_isCircle_19 ?_
      refine g_iald (pc := 20) (14 * n) dX12_isCircle_20 h11 (IXn (by omega) (by omega)) ?_
      refine g_iconst (pc := 21) (v := -1) dX12_isCircle_21 (by decide) ?_
      by_cases hc : cyIs n
      · ·
          have hd12 : cyDg n ≤ 12 := (cy_dg ⟨n, hn2⟩ hc).2.1
          rw [((hc11 n hn1 hn2).1 hc).1]
          refine g_icmp_eq (pc := 22) 29 dX12_isCircle_22 (by decide) (fun he => ?_) (fun he => ?_)
          · exact absurd (congrArg Int32.toInt he) (by rw [nI_toInt (by omega)]; show ¬ ((cyDg n : Nat) : Int) = -1; omega)
          · refine g_iconst (pc := 25) (v := nI 1) dX12_isCircle_25 (by decide) ?_
            refine g_goto (pc := 26) 30 dX12_isCircle_26 (by decide) ?_
            exact g_iret (pc := 30) dX12_isCircle_30 (Or.inl ⟨rfl, ⟨n, rfl, hn2, hn1, hc⟩, rfl⟩)
      · ·
          rw [(hc11 n hn1 hn2).2 hc]
          refine g_icmp_eq (pc := 22) 29 dX12_isCircle_22 (by decide) (fun he => ?_) (fun he => ?_)
          · refine g_iconst (pc := 29) (v := nI 0) dX12_isCircle_29 (by decide) ?_
            exact g_iret (pc := 30) dX12_isCircle_30 (Or.inr ⟨rfl, fun ⟨n9, e9, h9, h8, h7⟩ => hc (by rw [(nI_inj (by omega) (by omega)).mp e9]; exact h7), rfl⟩)
          · exact absurd rfl he
  · refine GP.weq _ e9 ?_
    rw [IL, L1, show (42 : Int64).toInt = 42 from by decide] at hx
    refine n_if_eq (pc := 9) 29 dX12_isCircle_9 (by decide) (by omega) (fun hd9 => ?_) (fun hd9 => ?_)
    · refine g_iconst (pc := 29) (v := nI 0) dX12_isCircle_29 (by decide) ?_
      exact g_iret (pc := 30) dX12_isCircle_30 (Or.inr ⟨rfl, fun ⟨n9, e9, h9, h8, h7⟩ => hx (by rw [e9, nI_toInt (by omega)]; omega), rfl⟩)
    · exact absurd rfl hd9
abbrev BX12_cyclotomic (w0 : Wd) (Post : Option Value → Wd → Prop) (w : Wd) (pc : Nat) (ls : List (Nat × Value)) (st : List Value) : Prop := GP "cyclotomic" RX12 cX12_cyclotomic 4 (some .int) 3 117 none w0 Post w pc ls st
abbrev EX12_cyclotomic (As : List Value) (w : Wd) (Post : Option Value → Wd → Prop) : Prop := EP yX12_cyclotomic cX12_cyclotomic 4 (some .int) 3 As w Post
theorem cyc_fill {w0 w : Wd} {Y : Nat} {h7 : Nat → Int64} {th st nu dg dd ld be ib ta fa re ig : Int32} {g11 : Nat → Int32} {n k : Nat} (hY : w[Y]? = some (oM Y th st nu dg dd ld be ib ta fa re ig)) (a11 : w[Y + 11]? = some (aI 0 602 g11)) (hc11 : ciR g11) (hn1 : 1 ≤ n) (hn2 : n < 43) (hc : cyIs n) (a7 : w[Y + 7]? = some (aL 60 h7)) {Q : Option Value → Wd → Prop} (K : ∀ h : Nat → Int64, (∀ q9, q9 < 60 → (h q9).toInt = if q9 < 13 then cyG n q9 else 0) → BX12_cyclotomic w0 Q (w.set (Y + 7) (aL 60 h)) 71 [(2, .int (nI k)), (1, .int (nI n)), (0, .ref Y)] []) : ∀ (z p : Nat) (h : Nat → Int64), 13 = p + z → (∀ q9, q9 < 60 → (h q9).toInt = if q9 < p then cyG n q9 else 0) → BX12_cyclotomic w0 Q (w.set (Y + 7) (aL 60 h)) 39 [(3, .int (nI p)), (2, .int (nI k)), (1, .int (nI n)), (0, .ref Y)] [] := by
  intro z
  induction z with
  | zero =>
    intro p h hz hh
    refine g_iload_n (pc := 39) 0 dX12_cyclotomic_39 rfl rfl ?_
    refine g_bipush (pc := 40) (v := nI 12) dX12_cyclotomic_40 (by decide) ?_
    refine n_icmp_gt (pc := 42) 71 dX12_cyclotomic_42 (by decide) (by omega) (by omega) (fun hb9 => ?_) (fun hb9 => ?_)
    · have e9 : p = 13 := by omega
      subst e9
      exact GP.lsub _ (by simp) (K h hh)
    · exact absurd hb9 (by omega)
  | succ z ih =>
    intro p h hz hh
    refine g_iload_n (pc := 39) 0 dX12_cyclotomic_39 rfl rfl ?_
    refine g_bipush (pc := 40) (v := nI 12) dX12_cyclotomic_40 (by decide) ?_
    refine n_icmp_gt (pc := 42) 71 dX12_cyclotomic_42 (by decide) (by omega) (by omega) (fun hb9 => ?_) (fun hb9 => ?_)
    · exact absurd hb9 (by omega)
    · refine g_aload_n (pc := 45) 3 dX12_cyclotomic_45 rfl rfl ?_
      refine g_get (pc := 46) dX12_cyclotomic_46 fk_X12_29 (lk_ne (show (Y + 7) ≠ Y by omega) hY) rfl ?_
      refine g_iload_n (pc := 49) 0 dX12_cyclotomic_49 rfl rfl ?_
      refine g_aload_n (pc := 50) 3 dX12_cyclotomic_50 rfl rfl ?_
      refine g_get (pc := 51) dX12_cyclotomic_51 fk_X12_42 (lk_ne (show (Y + 7) ≠ Y by omega) hY) rfl ?_
      refine g_bipush (pc := 54) (v := nI 14) dX12_cyclotomic_54 (by decide) ?_
      refine g_iload_n (pc := 56) 2 dX12_cyclotomic_56 rfl rfl ?_
      refine n_imul (pc := 57) dX12_cyclotomic_57 ?_
      refine g_iconst (pc := 58) (v := nI 1) dX12_cyclotomic_58 (by decide) ?_
      refine n_iadd (pc := 59) dX12_cyclotomic_59 ?_
      refine g_iload_n (pc := 60) 0 dX12_cyclotomic_60 rfl rfl ?_
      refine n_iadd (pc := 61) dX12_cyclotomic_61 ?_
      refine g_iald (pc := 62) (((14 * n) + 1) + p) dX12_cyclotomic_62 (lk_ne (show (Y + 7) ≠ (Y + 11) by omega) a11) (IXn (by omega) (by omega)) ?_
      refine g_i2l (pc := 63) dX12_cyclotomic_63 ?_
      refine g_last (pc := 64) p dX12_cyclotomic_64 (lk_eq a7) (IXn (by omega) (by omega)) ?_
      refine GP.weq (w.set (Y + 7) (aL 60 (vp_updL h p ((g11 (((14 * n) + 1) + p)).toInt64)))) (by rw [List.set_set]) ?_
      refine n_iinc (pc := 65) (c := 1) [(3, .int (nI (p + 1))), (2, .int (nI k)), (1, .int (nI n)), (0, .ref Y)] 0 dX12_cyclotomic_65 rfl (by decide) (by decide) rfl ?_
      refine g_goto (pc := 68) 39 dX12_cyclotomic_68 (by decide) ?_
      refine GP.lsub _ (by simp) (ih (p + 1) _ (by omega) (fun q9 hq9 => ?_))
      by_cases e : q9 = p
      · rw [e, upL_s, if_pos (show p < p + 1 by omega)]
        rw [IL]; exact ((hc11 n hn1 hn2).1 hc).2 p (by omega)
      · rw [upL_n e, hh q9 hq9]
        by_cases e2 : q9 < p
        · rw [if_pos e2, if_pos (show q9 < p + 1 by omega)]
        · rw [if_neg e2, if_neg (show ¬ q9 < p + 1 by omega)]
theorem cy_cut {n j : Nat} (hn : n < 43) (hc : cyIs n) : (if j < 13 then cyG n j else 0) = if j ≤ cyDg n then cyG n j else 0 := by
  have hd : 1 ≤ cyDg n ∧ cyDg n ≤ 12 := ⟨(cy_dg ⟨n, hn⟩ hc).1, (cy_dg ⟨n, hn⟩ hc).2.1⟩
  by_cases e : j ≤ cyDg n
  · rw [if_pos (by omega), if_pos e]
  · rw [if_neg e]
    by_cases e2 : j < 13
    · rw [if_pos e2]
      unfold cyG
      unfold cyDg at e hd
      rw [List.getD_eq_getElem?_getD, List.getElem?_eq_none (by omega)]
      rfl
    · rw [if_neg e2]
theorem mq_cyclotomic (w : Wd) {Y tl : Nat} {tb : Nat → Int32} {fa st : Int32} {rf : Nat → Nat} {sh : SV} {pn : Nat} {pk : Nat → Nat} {ps : Nat → SV} {im : Nat → Option SV} (hM : mdC w Y tl tb fa st rf sh pn pk ps im) {x z : Int32} : EX12_cyclotomic [.ref Y, .int x, .int z] w (fun r w' => (¬ (∃ n, x = nI n ∧ n < 43 ∧ 1 ≤ n ∧ cyIs n) ∧ rfM (-1) 0 w Y tl tb fa rf sh pn pk ps im r w') ∨ (∃ n, x = nI n ∧ n < 43 ∧ 1 ≤ n ∧ cyIs n ∧ ¬ isPl z ∧ rfM (-2) 1 w Y tl tb fa rf sh pn pk ps im r w') ∨ (∃ n k, x = nI n ∧ n < 43 ∧ 1 ≤ n ∧ cyIs n ∧ z = nI k ∧ k < 8 ∧ putM (fun t => if t ≤ cyDg n then cyG n t else 0) 5 k w Y tl tb fa rf sh pn pk ps im r w')) := by
  refine EP.of (plainFor_of_name (by decide)) [(0, .ref Y), (1, .int x), (2, .int z)] rfl (Nat.le_of_ble_eq_true rfl) (fun r wf h => by rcases h with ⟨-, rfl, -⟩ | ⟨n, -, -, -, -, -, rfl, -⟩ | ⟨n, k, -, -, -, -, -, -, h⟩; trivial; trivial; obtain ⟨v, rfl⟩ := putM_int h; trivial) ?_
  show BX12_cyclotomic w _ w 0 [(0, .ref Y), (1, .int x), (2, .int z)] []
  obtain ⟨⟨th, dg, dd, ld, be, ib, re, ig, hY⟩, ⟨⟨g1, a1, b1⟩, ⟨g2, a2, b2⟩, ⟨g3, g4, a3, a4, b3, b4⟩, ⟨g5, g6, a5, a6, b5⟩, ⟨g11, a11, b11⟩, ⟨g17, a17, b17⟩⟩, ⟨g7, g8, g9, g10, g12, g13, g14, g18, g19, g20, g21, a7, a8, a9, a10, a12, a13, a14, a18, a19, a20, a21⟩, ⟨g15, g16, a15, a16, b15⟩⟩ := id hM
  refine g_aload_n (pc := 0) 0 dX12_cyclotomic_0 rfl rfl ?_
  refine g_iconst (pc := 1) (v := nI 0) dX12_cyclotomic_1 (by decide) ?_
  refine g_put (pc := 2) (.int (nI 0) :: .int st :: .ref (Y + 1) :: .ref (Y + 2) :: .ref (Y + 3) :: .ref (Y + 4) :: .int (nI pn) :: .ref (Y + 5) :: .ref (Y + 6) :: .ref (Y + 7) :: .int dg :: .ref (Y + 8) :: .int dd :: .ref (Y + 9) :: .ref (Y + 10) :: .ref (Y + 11) :: .ref (Y + 12) :: .int ld :: .int be :: .int ib :: .ref (Y + 13) :: .ref (Y + 14) :: .ref (Y + 15) :: .ref (Y + 16) :: .ref (Y + 17) :: .int (nI tl) :: .int fa :: .int re :: .int ig :: .ref (Y + 18) :: .ref (Y + 19) :: .ref (Y + 20) :: .ref (Y + 21) :: []) dX12_cyclotomic_2 fk_X12_83 hY (Nat.le_of_ble_eq_true rfl) rfl rfl ?_
  refine g_aload_n (pc := 5) 0 dX12_cyclotomic_5 rfl rfl ?_
  refine g_iload_n (pc := 6) 1 dX12_cyclotomic_6 rfl rfl ?_
  refine g_callV (pc := 7) [.int x] dX12_cyclotomic_7 cv_X12_168.1 cv_X12_168.2.1 cv_X12_168.2.2.1 cv_X12_168.2.2.2 (lk_eq hY) rfl rfl (Nat.le_of_ble_eq_true rfl) (by decide) (by decide) (mp_isCircle _ (lk_eq hY) (lk_ne (show Y ≠ (Y + 11) by omega) a11) b11) ?_
  rintro _ w9 (⟨rfl, hx, e9⟩ | ⟨rfl, hx, e9⟩)
  · refine GP.weq _ e9 ?_
    obtain ⟨n, rfl, hn2, hn1, hc⟩ := hx
    refine n_if_ne (pc := 10) 19 dX12_cyclotomic_10 (by decide) (by omega) (fun hd9 => ?_) (fun hd9 => ?_)
    · refine g_iload_n (pc := 19) 2 dX12_cyclotomic_19 rfl rfl ?_
      refine g_callS (pc := 20) [.int z] dX12_cyclotomic_20 cs_X12_277.1 cs_X12_277.2 rfl rfl (Nat.le_of_ble_eq_true rfl) (by decide) (by decide) (mp_isStore _) ?_
      rintro _ w9 (⟨rfl, hpk, e9⟩ | ⟨rfl, hpk, e9⟩)
      · refine GP.weq _ e9 ?_
        obtain ⟨k, rfl, hk⟩ := pl_of hpk
        refine n_if_ne (pc := 23) 33 dX12_cyclotomic_23 (by decide) (by omega) (fun hd9 => ?_) (fun hd9 => ?_)
        · refine g_aload_n (pc := 33) 0 dX12_cyclotomic_33 rfl rfl ?_
          refine g_callV (pc := 34) [] dX12_cyclotomic_34 cv_X12_116.1 cv_X12_116.2.1 cv_X12_116.2.2.1 cv_X12_116.2.2.2 (lk_eq hY) rfl rfl (Nat.le_of_ble_eq_true rfl) (by decide) (by decide) (mp_empty _ (lk_eq hY) (lk_ne (show Y ≠ (Y + 7) by omega) a7)) ?_
          rintro _ w9 ⟨rfl, e9⟩
          refine GP.weq _ e9 ?_
          refine GP.weq ((w.set Y (.inr (11, .int (nI 0) :: .int st :: .ref (Y + 1) :: .ref (Y + 2) :: .ref (Y + 3) :: .ref (Y + 4) :: .int (nI pn) :: .ref (Y + 5) :: .ref (Y + 6) :: .ref (Y + 7) :: .int (-1) :: .ref (Y + 8) :: .int dd :: .ref (Y + 9) :: .ref (Y + 10) :: .ref (Y + 11) :: .ref (Y + 12) :: .int ld :: .int be :: .int ib :: .ref (Y + 13) :: .ref (Y + 14) :: .ref (Y + 15) :: .ref (Y + 16) :: .ref (Y + 17) :: .int (nI tl) :: .int fa :: .int re :: .int ig :: .ref (Y + 18) :: .ref (Y + 19) :: .ref (Y + 20) :: .ref (Y + 21) :: []))).set (Y + 7) (aL 60 (zrF g7 60))) (by rw [List.set_comm _ _ (show (Y + 7) ≠ Y by omega), List.set_set]) ?_
          obtain ⟨w1, ew1⟩ : ∃ wy : Wd, wy = ((w.set Y (.inr (11, .int (nI 0) :: .int st :: .ref (Y + 1) :: .ref (Y + 2) :: .ref (Y + 3) :: .ref (Y + 4) :: .int (nI pn) :: .ref (Y + 5) :: .ref (Y + 6) :: .ref (Y + 7) :: .int (-1) :: .ref (Y + 8) :: .int dd :: .ref (Y + 9) :: .ref (Y + 10) :: .ref (Y + 11) :: .ref (Y + 12) :: .int ld :: .int be :: .int ib :: .ref (Y + 13) :: .ref (Y + 14) :: .ref (Y + 15) :: .ref (Y + 16) :: .ref (Y + 17) :: .int (nI tl) :: .int fa :: .int re :: .int ig :: .ref (Y + 18) :: .ref (Y + 19) :: .ref (Y + 20) :: .ref (Y + 21) :: []))).set (Y + 7) (aL 60 (zrF g7 60))) := ⟨_, rfl⟩
          refine GP.weq w1 ew1.symm ?_
          have hM1 : mdC w1 Y tl tb fa st rf sh pn pk ps im := by rw [ew1]; exact ⟨⟨_, _, _, _, _, _, _, _, (lk_ne (show (Y + 7) ≠ Y by omega) (lk_eq hY))⟩, ⟨⟨_, (lk_ne (show (Y + 7) ≠ (Y + 1) by omega) (lk_ne (show Y ≠ (Y + 1) by omega) a1)), b1⟩, ⟨_, (lk_ne (show (Y + 7) ≠ (Y + 2) by omega) (lk_ne (show Y ≠ (Y + 2) by omega) a2)), b2⟩, ⟨_, _, (lk_ne (show (Y + 7) ≠ (Y + 3) by omega) (lk_ne (show Y ≠ (Y + 3) by omega) a3)), (lk_ne (show (Y + 7) ≠ (Y + 4) by omega) (lk_ne (show Y ≠ (Y + 4) by omega) a4)), b3, b4⟩, ⟨_, _, (lk_ne (show (Y + 7) ≠ (Y + 5) by omega) (lk_ne (show Y ≠ (Y + 5) by omega) a5)), (lk_ne (show (Y + 7) ≠ (Y + 6) by omega) (lk_ne (show Y ≠ (Y + 6) by omega) a6)), b5⟩, ⟨_, (lk_ne (show (Y + 7) ≠ (Y + 11) by omega) (lk_ne (show Y ≠ (Y + 11) by omega) a11)), b11⟩, ⟨_, (lk_ne (show (Y + 7) ≠ (Y + 17) by omega) (lk_ne (show Y ≠ (Y + 17) by omega) a17)), b17⟩⟩, ⟨_, _, _, _, _, _, _, _, _, _, _, (lk_eq (lk_ne (show Y ≠ (Y + 7) by omega) a7)), (lk_ne (show (Y + 7) ≠ (Y + 8) by omega) (lk_ne (show Y ≠ (Y + 8) by omega) a8)), (lk_ne (show (Y + 7) ≠ (Y + 9) by omega) (lk_ne (show Y ≠ (Y + 9) by omega) a9)), (lk_ne (show (Y + 7) ≠ (Y + 10) by omega) (lk_ne (show Y ≠ (Y + 10) by omega) a10)), (lk_ne (show (Y + 7) ≠ (Y + 12) by omega) (lk_ne (show Y ≠ (Y + 12) by omega) a12)), (lk_ne (show (Y + 7) ≠ (Y + 13) by omega) (lk_ne (show Y ≠ (Y + 13) by omega) a13)), (lk_ne (show (Y + 7) ≠ (Y + 14) by omega) (lk_ne (show Y ≠ (Y + 14) by omega) a14)), (lk_ne (show (Y + 7) ≠ (Y + 18) by omega) (lk_ne (show Y ≠ (Y + 18) by omega) a18)), (lk_ne (show (Y + 7) ≠ (Y + 19) by omega) (lk_ne (show Y ≠ (Y + 19) by omega) a19)), (lk_ne (show (Y + 7) ≠ (Y + 20) by omega) (lk_ne (show Y ≠ (Y + 20) by omega) a20)), (lk_ne (show (Y + 7) ≠ (Y + 21) by omega) (lk_ne (show Y ≠ (Y + 21) by omega) a21))⟩, ⟨_, _, (lk_ne (show (Y + 7) ≠ (Y + 15) by omega) (lk_ne (show Y ≠ (Y + 15) by omega) a15)), (lk_ne (show (Y + 7) ≠ (Y + 16) by omega) (lk_ne (show Y ≠ (Y + 16) by omega) a16)), b15⟩⟩
          have hF1 : FR (modS Y) w w1 := by rw [ew1]; exact (FR.st (c' := aL 60 (zrF g7 60)) (FR.st (c' := .inr (11, .int (nI 0) :: .int st :: .ref (Y + 1) :: .ref (Y + 2) :: .ref (Y + 3) :: .ref (Y + 4) :: .int (nI pn) :: .ref (Y + 5) :: .ref (Y + 6) :: .ref (Y + 7) :: .int (-1) :: .ref (Y + 8) :: .int dd :: .ref (Y + 9) :: .ref (Y + 10) :: .ref (Y + 11) :: .ref (Y + 12) :: .int ld :: .int be :: .int ib :: .ref (Y + 13) :: .ref (Y + 14) :: .ref (Y + 15) :: .ref (Y + 16) :: .ref (Y + 17) :: .int (nI tl) :: .int fa :: .int re :: .int ig :: .ref (Y + 18) :: .ref (Y + 19) :: .ref (Y + 20) :: .ref (Y + 21) :: [])) FR.rf hY rfl (by unfold modS; omega)) (lk_ne (show Y ≠ (Y + 7) by omega) a7) rfl (by unfold modS; omega))
          have c71 : w1[Y + 7]? = some (aL 60 (zrF g7 60)) := by rw [ew1]; exact (lk_eq (lk_ne (show Y ≠ (Y + 7) by omega) a7))
          have cY1 : w1[Y]? = some (.inr (11, .int (nI 0) :: .int st :: .ref (Y + 1) :: .ref (Y + 2) :: .ref (Y + 3) :: .ref (Y + 4) :: .int (nI pn) :: .ref (Y + 5) :: .ref (Y + 6) :: .ref (Y + 7) :: .int (-1) :: .ref (Y + 8) :: .int dd :: .ref (Y + 9) :: .ref (Y + 10) :: .ref (Y + 11) :: .ref (Y + 12) :: .int ld :: .int be :: .int ib :: .ref (Y + 13) :: .ref (Y + 14) :: .ref (Y + 15) :: .ref (Y + 16) :: .ref (Y + 17) :: .int (nI tl) :: .int fa :: .int re :: .int ig :: .ref (Y + 18) :: .ref (Y + 19) :: .ref (Y + 20) :: .ref (Y + 21) :: [])) := by rw [ew1]; exact (lk_ne (show (Y + 7) ≠ Y by omega) (lk_eq hY))
          obtain ⟨⟨th1, dg1, dd1, ld1, be1, ib1, re1, ig1, hY1⟩, ⟨⟨g11, a11, b11⟩, ⟨g21, a21, b21⟩, ⟨g31, g41, a31, a41, b31, b41⟩, ⟨g51, g61, a51, a61, b51⟩, ⟨g111, a111, b111⟩, ⟨g171, a171, b171⟩⟩, ⟨g71, g81, g91, g101, g121, g131, g141, g181, g191, g201, g211, a71, a81, a91, a101, a121, a131, a141, a181, a191, a201, a211⟩, ⟨g151, g161, a151, a161, b151⟩⟩ := id hM1
          refine g_iconst (pc := 37) (v := nI 0) dX12_cyclotomic_37 (by decide) ?_
          refine g_istore_n (pc := 38) [(3, .int (nI 0)), (0, .ref Y), (1, .int (nI n)), (2, .int (nI k))] dX12_cyclotomic_38 rfl (by decide) rfl ?_
          have hd := (cy_dg ⟨n, hn2⟩ hc)
          refine GP.weq (w1.set (Y + 7) (aL 60 (zrF g7 60))) (set_same c71).symm ?_
          refine GP.lsub _ (by simp) (cyc_fill (k := k) cY1 a111 b111 hn1 hn2 hc c71 (fun h hh => ?_) 13 0 _ rfl (fun j hj => by rw [zrF_t hj, if_neg (Nat.not_lt_zero _)]; rfl))
          refine g_aload_n (pc := 71) 2 dX12_cyclotomic_71 rfl rfl ?_
          refine g_iload_n (pc := 72) 0 dX12_cyclotomic_72 rfl rfl ?_
          refine g_iconst (pc := 73) (v := nI 5) dX12_cyclotomic_73 (by decide) ?_
          obtain ⟨wp, ewp⟩ : ∃ wy : Wd, wy = (w1.set (Y + 7) (aL 60 h)) := ⟨_, rfl⟩
          refine GP.weq wp ewp.symm ?_
          have hMp : mdC wp Y tl tb fa st rf sh pn pk ps im := by rw [ewp]; exact ⟨⟨_, _, _, _, _, _, _, _, (lk_ne (show (Y + 7) ≠ Y by omega) cY1)⟩, ⟨⟨_, (lk_ne (show (Y + 7) ≠ (Y + 1) by omega) a11), b11⟩, ⟨_, (lk_ne (show (Y + 7) ≠ (Y + 2) by omega) a21), b21⟩, ⟨_, _, (lk_ne (show (Y + 7) ≠ (Y + 3) by omega) a31), (lk_ne (show (Y + 7) ≠ (Y + 4) by omega) a41), b31, b41⟩, ⟨_, _, (lk_ne (show (Y + 7) ≠ (Y + 5) by omega) a51), (lk_ne (show (Y + 7) ≠ (Y + 6) by omega) a61), b51⟩, ⟨_, (lk_ne (show (Y + 7) ≠ (Y + 11) by omega) a111), b111⟩, ⟨_, (lk_ne (show (Y + 7) ≠ (Y + 17) by omega) a171), b171⟩⟩, ⟨_, _, _, _, _, _, _, _, _, _, _, (lk_eq c71), (lk_ne (show (Y + 7) ≠ (Y + 8) by omega) a81), (lk_ne (show (Y + 7) ≠ (Y + 9) by omega) a91), (lk_ne (show (Y + 7) ≠ (Y + 10) by omega) a101), (lk_ne (show (Y + 7) ≠ (Y + 12) by omega) a121), (lk_ne (show (Y + 7) ≠ (Y + 13) by omega) a131), (lk_ne (show (Y + 7) ≠ (Y + 14) by omega) a141), (lk_ne (show (Y + 7) ≠ (Y + 18) by omega) a181), (lk_ne (show (Y + 7) ≠ (Y + 19) by omega) a191), (lk_ne (show (Y + 7) ≠ (Y + 20) by omega) a201), (lk_ne (show (Y + 7) ≠ (Y + 21) by omega) a211)⟩, ⟨_, _, (lk_ne (show (Y + 7) ≠ (Y + 15) by omega) a151), (lk_ne (show (Y + 7) ≠ (Y + 16) by omega) a161), b151⟩⟩
          have hFp : FR (modS Y) w1 wp := by rw [ewp]; exact (FR.st (c' := aL 60 h) FR.rf c71 rfl (by unfold modS; omega))
          have c7p : wp[Y + 7]? = some (aL 60 h) := by rw [ewp]; exact (lk_eq c71)
          have cYp : wp[Y]? = some (.inr (11, .int (nI 0) :: .int st :: .ref (Y + 1) :: .ref (Y + 2) :: .ref (Y + 3) :: .ref (Y + 4) :: .int (nI pn) :: .ref (Y + 5) :: .ref (Y + 6) :: .ref (Y + 7) :: .int (-1) :: .ref (Y + 8) :: .int dd :: .ref (Y + 9) :: .ref (Y + 10) :: .ref (Y + 11) :: .ref (Y + 12) :: .int ld :: .int be :: .int ib :: .ref (Y + 13) :: .ref (Y + 14) :: .ref (Y + 15) :: .ref (Y + 16) :: .ref (Y + 17) :: .int (nI tl) :: .int fa :: .int re :: .int ig :: .ref (Y + 18) :: .ref (Y + 19) :: .ref (Y + 20) :: .ref (Y + 21) :: [])) := by rw [ewp]; exact (lk_ne (show (Y + 7) ≠ Y by omega) cY1)
          refine g_callV (pc := 74) [.int (nI k), .int (nI 5)] dX12_cyclotomic_74 cv_X12_286.1 cv_X12_286.2.1 cv_X12_286.2.2.1 cv_X12_286.2.2.2 cYp rfl rfl (Nat.le_of_ble_eq_true rfl) (by decide) (by decide) (mq_put _ hMp (kd := 5) (k := k) (F := fun t => if t ≤ cyDg n then cyG n t else 0) c7p (fun j hj => by rw [hh j hj]; exact cy_cut hn2 hc) (fun j a _ => by rw [if_neg]; have := (cy_dg ⟨n, hn2⟩ hc).2.1; have h9 : cyDg n ≤ 12 := this; omega) hk) ?_
          rintro rz wq hR
          obtain ⟨vz, rfl⟩ : ∃ vz, rz = some (.int vz) := putM_int hR
          exact g_iret (pc := 77) dX12_cyclotomic_77 (Or.inr (Or.inr ⟨n, k, rfl, hn2, hn1, hc, rfl, hk, (putM.fr hR (hF1.tr hFp))⟩))
        · exact absurd hd9 (by decide)
      · refine GP.weq _ e9 ?_
        refine n_if_ne (pc := 23) 33 dX12_cyclotomic_23 (by decide) (by omega) (fun hd9 => ?_) (fun hd9 => ?_)
        · exact absurd rfl hd9
        · refine g_aload_n (pc := 26) 0 dX12_cyclotomic_26 rfl rfl ?_
          refine g_bipush (pc := 27) (v := -2) dX12_cyclotomic_27 (by decide) ?_
          obtain ⟨wr, ewr⟩ : ∃ wy : Wd, wy = (w.set Y (.inr (11, .int (nI 0) :: .int st :: .ref (Y + 1) :: .ref (Y + 2) :: .ref (Y + 3) :: .ref (Y + 4) :: .int (nI pn) :: .ref (Y + 5) :: .ref (Y + 6) :: .ref (Y + 7) :: .int dg :: .ref (Y + 8) :: .int dd :: .ref (Y + 9) :: .ref (Y + 10) :: .ref (Y + 11) :: .ref (Y + 12) :: .int ld :: .int be :: .int ib :: .ref (Y + 13) :: .ref (Y + 14) :: .ref (Y + 15) :: .ref (Y + 16) :: .ref (Y + 17) :: .int (nI tl) :: .int fa :: .int re :: .int ig :: .ref (Y + 18) :: .ref (Y + 19) :: .ref (Y + 20) :: .ref (Y + 21) :: []))) := ⟨_, rfl⟩
          refine GP.weq wr ewr.symm ?_
          have hMr : mdC wr Y tl tb fa st rf sh pn pk ps im := by rw [ewr]; exact ⟨⟨_, _, _, _, _, _, _, _, (lk_eq hY)⟩, ⟨⟨_, (lk_ne (show Y ≠ (Y + 1) by omega) a1), b1⟩, ⟨_, (lk_ne (show Y ≠ (Y + 2) by omega) a2), b2⟩, ⟨_, _, (lk_ne (show Y ≠ (Y + 3) by omega) a3), (lk_ne (show Y ≠ (Y + 4) by omega) a4), b3, b4⟩, ⟨_, _, (lk_ne (show Y ≠ (Y + 5) by omega) a5), (lk_ne (show Y ≠ (Y + 6) by omega) a6), b5⟩, ⟨_, (lk_ne (show Y ≠ (Y + 11) by omega) a11), b11⟩, ⟨_, (lk_ne (show Y ≠ (Y + 17) by omega) a17), b17⟩⟩, ⟨_, _, _, _, _, _, _, _, _, _, _, (lk_ne (show Y ≠ (Y + 7) by omega) a7), (lk_ne (show Y ≠ (Y + 8) by omega) a8), (lk_ne (show Y ≠ (Y + 9) by omega) a9), (lk_ne (show Y ≠ (Y + 10) by omega) a10), (lk_ne (show Y ≠ (Y + 12) by omega) a12), (lk_ne (show Y ≠ (Y + 13) by omega) a13), (lk_ne (show Y ≠ (Y + 14) by omega) a14), (lk_ne (show Y ≠ (Y + 18) by omega) a18), (lk_ne (show Y ≠ (Y + 19) by omega) a19), (lk_ne (show Y ≠ (Y + 20) by omega) a20), (lk_ne (show Y ≠ (Y + 21) by omega) a21)⟩, ⟨_, _, (lk_ne (show Y ≠ (Y + 15) by omega) a15), (lk_ne (show Y ≠ (Y + 16) by omega) a16), b15⟩⟩
          have hFr : FR (modS Y) w wr := by rw [ewr]; exact (FR.st (c' := .inr (11, .int (nI 0) :: .int st :: .ref (Y + 1) :: .ref (Y + 2) :: .ref (Y + 3) :: .ref (Y + 4) :: .int (nI pn) :: .ref (Y + 5) :: .ref (Y + 6) :: .ref (Y + 7) :: .int dg :: .ref (Y + 8) :: .int dd :: .ref (Y + 9) :: .ref (Y + 10) :: .ref (Y + 11) :: .ref (Y + 12) :: .int ld :: .int be :: .int ib :: .ref (Y + 13) :: .ref (Y + 14) :: .ref (Y + 15) :: .ref (Y + 16) :: .ref (Y + 17) :: .int (nI tl) :: .int fa :: .int re :: .int ig :: .ref (Y + 18) :: .ref (Y + 19) :: .ref (Y + 20) :: .ref (Y + 21) :: [])) FR.rf hY rfl (by unfold modS; omega))
          refine g_callV (pc := 29) [.int (-2)] dX12_cyclotomic_29 cv_X12_96.1 cv_X12_96.2.1 cv_X12_96.2.2.1 cv_X12_96.2.2.2 (by rw [ewr]; exact (lk_eq hY)) rfl rfl (Nat.le_of_ble_eq_true rfl) (by decide) (by decide) (mq_refuse2 _ hMr) ?_
          rintro _ wq ⟨rfl, hR⟩
          exact g_iret (pc := 32) dX12_cyclotomic_32 (Or.inr (Or.inl ⟨n, rfl, hn2, hn1, hc, hpk, ⟨rfl, hR.1, hFr.tr hR.2⟩⟩))
    · exact absurd hd9 (by decide)
  · refine GP.weq _ e9 ?_
    refine n_if_ne (pc := 10) 19 dX12_cyclotomic_10 (by decide) (by omega) (fun hd9 => ?_) (fun hd9 => ?_)
    · exact absurd rfl hd9
    · refine g_aload_n (pc := 13) 0 dX12_cyclotomic_13 rfl rfl ?_
      refine g_iconst (pc := 14) (v := -1) dX12_cyclotomic_14 (by decide) ?_
      obtain ⟨wr, ewr⟩ : ∃ wy : Wd, wy = (w.set Y (.inr (11, .int (nI 0) :: .int st :: .ref (Y + 1) :: .ref (Y + 2) :: .ref (Y + 3) :: .ref (Y + 4) :: .int (nI pn) :: .ref (Y + 5) :: .ref (Y + 6) :: .ref (Y + 7) :: .int dg :: .ref (Y + 8) :: .int dd :: .ref (Y + 9) :: .ref (Y + 10) :: .ref (Y + 11) :: .ref (Y + 12) :: .int ld :: .int be :: .int ib :: .ref (Y + 13) :: .ref (Y + 14) :: .ref (Y + 15) :: .ref (Y + 16) :: .ref (Y + 17) :: .int (nI tl) :: .int fa :: .int re :: .int ig :: .ref (Y + 18) :: .ref (Y + 19) :: .ref (Y + 20) :: .ref (Y + 21) :: []))) := ⟨_, rfl⟩
      refine GP.weq wr ewr.symm ?_
      have hMr : mdC wr Y tl tb fa st rf sh pn pk ps im := by rw [ewr]; exact ⟨⟨_, _, _, _, _, _, _, _, (lk_eq hY)⟩, ⟨⟨_, (lk_ne (show Y ≠ (Y + 1) by omega) a1), b1⟩, ⟨_, (lk_ne (show Y ≠ (Y + 2) by omega) a2), b2⟩, ⟨_, _, (lk_ne (show Y ≠ (Y + 3) by omega) a3), (lk_ne (show Y ≠ (Y + 4) by omega) a4), b3, b4⟩, ⟨_, _, (lk_ne (show Y ≠ (Y + 5) by omega) a5), (lk_ne (show Y ≠ (Y + 6) by omega) a6), b5⟩, ⟨_, (lk_ne (show Y ≠ (Y + 11) by omega) a11), b11⟩, ⟨_, (lk_ne (show Y ≠ (Y + 17) by omega) a17), b17⟩⟩, ⟨_, _, _, _, _, _, _, _, _, _, _, (lk_ne (show Y ≠ (Y + 7) by omega) a7), (lk_ne (show Y ≠ (Y + 8) by omega) a8), (lk_ne (show Y ≠ (Y + 9) by omega) a9), (lk_ne (show Y ≠ (Y + 10) by omega) a10), (lk_ne (show Y ≠ (Y + 12) by omega) a12), (lk_ne (show Y ≠ (Y + 13) by omega) a13), (lk_ne (show Y ≠ (Y + 14) by omega) a14), (lk_ne (show Y ≠ (Y + 18) by omega) a18), (lk_ne (show Y ≠ (Y + 19) by omega) a19), (lk_ne (show Y ≠ (Y + 20) by omega) a20), (lk_ne (show Y ≠ (Y + 21) by omega) a21)⟩, ⟨_, _, (lk_ne (show Y ≠ (Y + 15) by omega) a15), (lk_ne (show Y ≠ (Y + 16) by omega) a16), b15⟩⟩
      have hFr : FR (modS Y) w wr := by rw [ewr]; exact (FR.st (c' := .inr (11, .int (nI 0) :: .int st :: .ref (Y + 1) :: .ref (Y + 2) :: .ref (Y + 3) :: .ref (Y + 4) :: .int (nI pn) :: .ref (Y + 5) :: .ref (Y + 6) :: .ref (Y + 7) :: .int dg :: .ref (Y + 8) :: .int dd :: .ref (Y + 9) :: .ref (Y + 10) :: .ref (Y + 11) :: .ref (Y + 12) :: .int ld :: .int be :: .int ib :: .ref (Y + 13) :: .ref (Y + 14) :: .ref (Y + 15) :: .ref (Y + 16) :: .ref (Y + 17) :: .int (nI tl) :: .int fa :: .int re :: .int ig :: .ref (Y + 18) :: .ref (Y + 19) :: .ref (Y + 20) :: .ref (Y + 21) :: [])) FR.rf hY rfl (by unfold modS; omega))
      refine g_callV (pc := 15) [.int (-1)] dX12_cyclotomic_15 cv_X12_96.1 cv_X12_96.2.1 cv_X12_96.2.2.1 cv_X12_96.2.2.2 (by rw [ewr]; exact (lk_eq hY)) rfl rfl (Nat.le_of_ble_eq_true rfl) (by decide) (by decide) (mq_refuse1 _ hMr) ?_
      rintro _ wq ⟨rfl, hR⟩
      exact g_iret (pc := 18) dX12_cyclotomic_18 (Or.inl ⟨hx, ⟨rfl, hR.1, hFr.tr hR.2⟩⟩)
