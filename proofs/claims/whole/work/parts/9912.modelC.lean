/-! the reference: hasLevel, level, turn -/
def onM (w : Wd) (Y : Nat) (P : PV) (T : Nat) : Prop := (∃ th st nu dg dd ib ta fa re ig, w[Y]? = some (oM Y th st nu dg dd (nI P.1) (nI T) ib ta fa re ig)) ∧ ∃ l, w[Y + 12]? = some (aL 91 l) ∧ lvM l P.2 P.1 T
theorem top_dn {F : Nat → Int} {n k T : Nat} (h : topL F n 6 T) (hk : k ≤ T) : topL F n k k := ⟨Nat.le_refl _, fun t ht => h.2.1 t (by omega), fun g => absurd g (by omega)⟩
theorem top_up {F : Nat → Int} {n k T : Nat} (h : topL F n 6 T) (hT : T < k) (hk : k ≤ 6) : topL F n k T := ⟨by omega, h.2.1, fun _ => h.2.2 (by omega)⟩
theorem top_min {F : Nat → Int} {n k T : Nat} (h : topL F n 6 T) (hk : k ≤ 6) : topL F n k (min k T) := by
  by_cases e : k ≤ T
  · rw [Nat.min_eq_left e]
    exact top_dn h e
  · rw [Nat.min_eq_right (by omega)]
    exact top_up h (by omega) hk
theorem lv_of {x : Int32} (h : 0 ≤ x.toInt ∧ x.toInt ≤ 6) : ∃ k, x = nI k ∧ k < 7 := ⟨x.toInt.toNat, nI_toNat h.1, by omega⟩
theorem L6 : (6 : Int64).toInt = 6 := by decide
theorem ok_12 {g : Nat → Int32} {V : SV} {i : Nat} (h : rowR g V) (hi : i < 8) : (V.1 i).1 ≤ 12 := (h.1 i hi).1.1
abbrev BX12_hasLevel (w0 : Wd) (Post : Option Value → Wd → Prop) (w : Wd) (pc : Nat) (ls : List (Nat × Value)) (st : List Value) : Prop := GP "hasLevel" RX12 cX12_hasLevel 3 (some .boolean) 3 117 none w0 Post w pc ls st
abbrev EX12_hasLevel (As : List Value) (w : Wd) (Post : Option Value → Wd → Prop) : Prop := EP yX12_hasLevel cX12_hasLevel 3 (some .boolean) 3 As w Post
theorem mq_hasLevel (w : Wd) {Y tl : Nat} {tb : Nat → Int32} {fa st : Int32} {rf : Nat → Nat} {sh : SV} {pn : Nat} {pk : Nat → Nat} {ps : Nat → SV} {im : Nat → Option SV} (hM : mdC w Y tl tb fa st rf sh pn pk ps im) {x y : Int32} : EX12_hasLevel [.ref Y, .int x, .int y] w (fun r w' => (r = some (.int (nI 1)) ∧ (∃ i k, x = nI i ∧ i < 8 ∧ y = nI k ∧ k < 7 ∧ topL (sh.1 i).2 (sh.1 i).1 k k ∧ ∃ T, T ≤ 6 ∧ k ≤ T ∧ onM w' Y (sh.1 i) T) ∧ mdC w' Y tl tb fa st rf sh pn pk ps im ∧ FR (modS Y) w w') ∨ (r = some (.int (nI 0)) ∧ noLv sh x y ∧ mdC w' Y tl tb fa st rf sh pn pk ps im ∧ FR (modS Y) w w')) := by
  refine EP.of (plainFor_of_name (by decide)) [(0, .ref Y), (1, .int x), (2, .int y)] rfl (Nat.le_of_ble_eq_true rfl) (fun r wf h => by rcases h with ⟨rfl, -⟩ | ⟨rfl, -⟩; exact Or.inr rfl; exact Or.inl rfl) ?_
  show BX12_hasLevel w _ w 0 [(0, .ref Y), (1, .int x), (2, .int y)] []
  obtain ⟨⟨th, dg, dd, ld, be, ib, re, ig, hY⟩, ⟨⟨g1, a1, b1⟩, ⟨g2, a2, b2⟩, ⟨g3, g4, a3, a4, b3, b4⟩, ⟨g5, g6, a5, a6, b5⟩, ⟨g11, a11, b11⟩, ⟨g17, a17, b17⟩⟩, ⟨g7, g8, g9, g10, g12, g13, g14, g18, g19, g20, g21, a7, a8, a9, a10, a12, a13, a14, a18, a19, a20, a21⟩, ⟨g15, g16, a15, a16, b15⟩⟩ := id hM
  refine g_iload_n (pc := 0) 1 dX12_hasLevel_0 rfl rfl ?_
  refine g_callS (pc := 1) [.int x] dX12_hasLevel_1 cs_X12_277.1 cs_X12_277.2 rfl rfl (Nat.le_of_ble_eq_true rfl) (by decide) (by decide) (mp_isStore _) ?_
  rintro _ w9 (⟨rfl, hpi, e9⟩ | ⟨rfl, hpi, e9⟩)
  · refine GP.weq _ e9 ?_
    obtain ⟨i, rfl, hi⟩ := pl_of hpi
    refine n_if_eq (pc := 4) 19 dX12_hasLevel_4 (by decide) (by omega) (fun hd9 => ?_) (fun hd9 => ?_)
    · exact absurd hd9 (by decide)
    · refine g_iload_n (pc := 7) 2 dX12_hasLevel_7 rfl rfl ?_
      refine g_i2l (pc := 8) dX12_hasLevel_8 ?_
      refine g_lconst (pc := 9) (v := 0) dX12_hasLevel_9 (by decide) ?_
      refine g_ldc2 (pc := 10) kc_X12_324 dX12_hasLevel_10 ?_
      refine g_callS (pc := 13) [.long y.toInt64, .long 0, .long (6)] dX12_hasLevel_13 cs_X12_103.1 cs_X12_103.2 rfl rfl (Nat.le_of_ble_eq_true rfl) (by decide) (by decide) (mp_in _) ?_
      rintro _ w9 (⟨rfl, hy, e9⟩ | ⟨rfl, hy, e9⟩)
      · refine GP.weq _ e9 ?_
        rw [IL, L6, L00] at hy
        obtain ⟨k, rfl, hk⟩ := lv_of hy
        refine n_if_ne (pc := 16) 21 dX12_hasLevel_16 (by decide) (by omega) (fun hd9 => ?_) (fun hd9 => ?_)
        · refine g_aload_n (pc := 21) 0 dX12_hasLevel_21 rfl rfl ?_
          refine g_iload_n (pc := 22) 1 dX12_hasLevel_22 rfl rfl ?_
          refine g_callV (pc := 23) [.int (nI i)] dX12_hasLevel_23 cv_X12_295.1 cv_X12_295.2.1 cv_X12_295.2.2.1 cv_X12_295.2.2.2 hY rfl rfl (Nat.le_of_ble_eq_true rfl) (by decide) (by decide) (mp_take _ hY a2 a7 b2 hi) ?_
          rintro _ w9 ⟨rfl, h, hh, e9⟩
          refine GP.weq _ e9 ?_
          have hd12 := ok_12 b2 hi
          refine g_aload_n (pc := 26) 0 dX12_hasLevel_26 rfl rfl ?_
          refine g_callV (pc := 27) [] dX12_hasLevel_27 cv_X12_303.1 cv_X12_303.2.1 cv_X12_303.2.2.1 cv_X12_303.2.2.2 (lk_eq (lk_ne (show (Y + 7) ≠ Y by omega) hY)) rfl rfl (Nat.le_of_ble_eq_true rfl) (by decide) (by decide) (mp_layLevels _ (F := (sh.1 i).2) (lk_eq (lk_ne (show (Y + 7) ≠ Y by omega) hY)) (lk_ne (show Y ≠ (Y + 7) by omega) (lk_eq a7)) (lk_ne (show Y ≠ (Y + 12) by omega) (lk_ne (show (Y + 7) ≠ (Y + 12) by omega) a12)) hd12 (fun j hj => hh j (by omega))) ?_
          rintro _ w9 ⟨rfl, T, b9, l, hTT, hll, e9⟩
          refine GP.weq _ e9 ?_
          refine GP.weq (((w.set (Y + 7) (aL 60 h)).set Y (.inr (11, .int th :: .int st :: .ref (Y + 1) :: .ref (Y + 2) :: .ref (Y + 3) :: .ref (Y + 4) :: .int (nI pn) :: .ref (Y + 5) :: .ref (Y + 6) :: .ref (Y + 7) :: .int (nI ((sh.1 i).1)) :: .ref (Y + 8) :: .int dd :: .ref (Y + 9) :: .ref (Y + 10) :: .ref (Y + 11) :: .ref (Y + 12) :: .int (nI ((sh.1 i).1)) :: .int (nI T) :: .int (nI b9) :: .ref (Y + 13) :: .ref (Y + 14) :: .ref (Y + 15) :: .ref (Y + 16) :: .ref (Y + 17) :: .int (nI tl) :: .int fa :: .int re :: .int ig :: .ref (Y + 18) :: .ref (Y + 19) :: .ref (Y + 20) :: .ref (Y + 21) :: []))).set (Y + 12) (aL 91 l)) (by rw [List.set_comm _ _ (show (Y + 12) ≠ Y by omega), List.set_set]) ?_
          have hT6 := hTT.1
          refine g_iload_n (pc := 30) 2 dX12_hasLevel_30 rfl rfl ?_
          refine g_aload_n (pc := 31) 0 dX12_hasLevel_31 rfl rfl ?_
          refine g_get (pc := 32) dX12_hasLevel_32 fk_X12_196 (lk_ne (show (Y + 12) ≠ Y by omega) (lk_eq (lk_ne (show (Y + 7) ≠ Y by omega) hY))) rfl ?_
          obtain ⟨w1, ew1⟩ : ∃ wy : Wd, wy = (((w.set (Y + 7) (aL 60 h)).set Y (.inr (11, .int th :: .int st :: .ref (Y + 1) :: .ref (Y + 2) :: .ref (Y + 3) :: .ref (Y + 4) :: .int (nI pn) :: .ref (Y + 5) :: .ref (Y + 6) :: .ref (Y + 7) :: .int (nI ((sh.1 i).1)) :: .ref (Y + 8) :: .int dd :: .ref (Y + 9) :: .ref (Y + 10) :: .ref (Y + 11) :: .ref (Y + 12) :: .int (nI ((sh.1 i).1)) :: .int (nI T) :: .int (nI b9) :: .ref (Y + 13) :: .ref (Y + 14) :: .ref (Y + 15) :: .ref (Y + 16) :: .ref (Y + 17) :: .int (nI tl) :: .int fa :: .int re :: .int ig :: .ref (Y + 18) :: .ref (Y + 19) :: .ref (Y + 20) :: .ref (Y + 21) :: []))).set (Y + 12) (aL 91 l)) := ⟨_, rfl⟩
          refine GP.weq w1 ew1.symm ?_
          have hM1 : mdC w1 Y tl tb fa st rf sh pn pk ps im := by rw [ew1]; exact ⟨⟨_, _, _, _, _, _, _, _, (lk_ne (show (Y + 12) ≠ Y by omega) (lk_eq (lk_ne (show (Y + 7) ≠ Y by omega) hY)))⟩, ⟨⟨_, (lk_ne (show (Y + 12) ≠ (Y + 1) by omega) (lk_ne (show Y ≠ (Y + 1) by omega) (lk_ne (show (Y + 7) ≠ (Y + 1) by omega) a1))), b1⟩, ⟨_, (lk_ne (show (Y + 12) ≠ (Y + 2) by omega) (lk_ne (show Y ≠ (Y + 2) by omega) (lk_ne (show (Y + 7) ≠ (Y + 2) by omega) a2))), b2⟩, ⟨_, _, (lk_ne (show (Y + 12) ≠ (Y + 3) by omega) (lk_ne (show Y ≠ (Y + 3) by omega) (lk_ne (show (Y + 7) ≠ (Y + 3) by omega) a3))), (lk_ne (show (Y + 12) ≠ (Y + 4) by omega) (lk_ne (show Y ≠ (Y + 4) by omega) (lk_ne (show (Y + 7) ≠ (Y + 4) by omega) a4))), b3, b4⟩, ⟨_, _, (lk_ne (show (Y + 12) ≠ (Y + 5) by omega) (lk_ne (show Y ≠ (Y + 5) by omega) (lk_ne (show (Y + 7) ≠ (Y + 5) by omega) a5))), (lk_ne (show (Y + 12) ≠ (Y + 6) by omega) (lk_ne (show Y ≠ (Y + 6) by omega) (lk_ne (show (Y + 7) ≠ (Y + 6) by omega) a6))), b5⟩, ⟨_, (lk_ne (show (Y + 12) ≠ (Y + 11) by omega) (lk_ne (show Y ≠ (Y + 11) by omega) (lk_ne (show (Y + 7) ≠ (Y + 11) by omega) a11))), b11⟩, ⟨_, (lk_ne (show (Y + 12) ≠ (Y + 17) by omega) (lk_ne (show Y ≠ (Y + 17) by omega) (lk_ne (show (Y + 7) ≠ (Y + 17) by omega) a17))), b17⟩⟩, ⟨_, _, _, _, _, _, _, _, _, _, _, (lk_ne (show (Y + 12) ≠ (Y + 7) by omega) (lk_ne (show Y ≠ (Y + 7) by omega) (lk_eq a7))), (lk_ne (show (Y + 12) ≠ (Y + 8) by omega) (lk_ne (show Y ≠ (Y + 8) by omega) (lk_ne (show (Y + 7) ≠ (Y + 8) by omega) a8))), (lk_ne (show (Y + 12) ≠ (Y + 9) by omega) (lk_ne (show Y ≠ (Y + 9) by omega) (lk_ne (show (Y + 7) ≠ (Y + 9) by omega) a9))), (lk_ne (show (Y + 12) ≠ (Y + 10) by omega) (lk_ne (show Y ≠ (Y + 10) by omega) (lk_ne (show (Y + 7) ≠ (Y + 10) by omega) a10))), (lk_eq (lk_ne (show Y ≠ (Y + 12) by omega) (lk_ne (show (Y + 7) ≠ (Y + 12) by omega) a12))), (lk_ne (show (Y + 12) ≠ (Y + 13) by omega) (lk_ne (show Y ≠ (Y + 13) by omega) (lk_ne (show (Y + 7) ≠ (Y + 13) by omega) a13))), (lk_ne (show (Y + 12) ≠ (Y + 14) by omega) (lk_ne (show Y ≠ (Y + 14) by omega) (lk_ne (show (Y + 7) ≠ (Y + 14) by omega) a14))), (lk_ne (show (Y + 12) ≠ (Y + 18) by omega) (lk_ne (show Y ≠ (Y + 18) by omega) (lk_ne (show (Y + 7) ≠ (Y + 18) by omega) a18))), (lk_ne (show (Y + 12) ≠ (Y + 19) by omega) (lk_ne (show Y ≠ (Y + 19) by omega) (lk_ne (show (Y + 7) ≠ (Y + 19) by omega) a19))), (lk_ne (show (Y + 12) ≠ (Y + 20) by omega) (lk_ne (show Y ≠ (Y + 20) by omega) (lk_ne (show (Y + 7) ≠ (Y + 20) by omega) a20))), (lk_ne (show (Y + 12) ≠ (Y + 21) by omega) (lk_ne (show Y ≠ (Y + 21) by omega) (lk_ne (show (Y + 7) ≠ (Y + 21) by omega) a21)))⟩, ⟨_, _, (lk_ne (show (Y + 12) ≠ (Y + 15) by omega) (lk_ne (show Y ≠ (Y + 15) by omega) (lk_ne (show (Y + 7) ≠ (Y + 15) by omega) a15))), (lk_ne (show (Y + 12) ≠ (Y + 16) by omega) (lk_ne (show Y ≠ (Y + 16) by omega) (lk_ne (show (Y + 7) ≠ (Y + 16) by omega) a16))), b15⟩⟩
          have hF1 : FR (modS Y) w w1 := by rw [ew1]; exact (FR.st (c' := aL 91 l) (FR.st (c' := .inr (11, .int th :: .int st :: .ref (Y + 1) :: .ref (Y + 2) :: .ref (Y + 3) :: .ref (Y + 4) :: .int (nI pn) :: .ref (Y + 5) :: .ref (Y + 6) :: .ref (Y + 7) :: .int (nI ((sh.1 i).1)) :: .ref (Y + 8) :: .int dd :: .ref (Y + 9) :: .ref (Y + 10) :: .ref (Y + 11) :: .ref (Y + 12) :: .int (nI ((sh.1 i).1)) :: .int (nI T) :: .int (nI b9) :: .ref (Y + 13) :: .ref (Y + 14) :: .ref (Y + 15) :: .ref (Y + 16) :: .ref (Y + 17) :: .int (nI tl) :: .int fa :: .int re :: .int ig :: .ref (Y + 18) :: .ref (Y + 19) :: .ref (Y + 20) :: .ref (Y + 21) :: [])) (FR.st (c' := aL 60 h) FR.rf a7 rfl (by unfold modS; omega)) (lk_ne (show (Y + 7) ≠ Y by omega) hY) rfl (by unfold modS; omega)) (lk_ne (show Y ≠ (Y + 12) by omega) (lk_ne (show (Y + 7) ≠ (Y + 12) by omega) a12)) rfl (by unfold modS; omega))
          have c121 : w1[Y + 12]? = some (aL 91 l) := by rw [ew1]; exact (lk_eq (lk_ne (show Y ≠ (Y + 12) by omega) (lk_ne (show (Y + 7) ≠ (Y + 12) by omega) a12)))
          have cY1 : w1[Y]? = some (.inr (11, .int th :: .int st :: .ref (Y + 1) :: .ref (Y + 2) :: .ref (Y + 3) :: .ref (Y + 4) :: .int (nI pn) :: .ref (Y + 5) :: .ref (Y + 6) :: .ref (Y + 7) :: .int (nI ((sh.1 i).1)) :: .ref (Y + 8) :: .int dd :: .ref (Y + 9) :: .ref (Y + 10) :: .ref (Y + 11) :: .ref (Y + 12) :: .int (nI ((sh.1 i).1)) :: .int (nI T) :: .int (nI b9) :: .ref (Y + 13) :: .ref (Y + 14) :: .ref (Y + 15) :: .ref (Y + 16) :: .ref (Y + 17) :: .int (nI tl) :: .int fa :: .int re :: .int ig :: .ref (Y + 18) :: .ref (Y + 19) :: .ref (Y + 20) :: .ref (Y + 21) :: [])) := by rw [ew1]; exact (lk_ne (show (Y + 12) ≠ Y by omega) (lk_eq (lk_ne (show (Y + 7) ≠ Y by omega) hY)))
          obtain ⟨⟨th1, dg1, dd1, ld1, be1, ib1, re1, ig1, hY1⟩, ⟨⟨g11, a11, b11⟩, ⟨g21, a21, b21⟩, ⟨g31, g41, a31, a41, b31, b41⟩, ⟨g51, g61, a51, a61, b51⟩, ⟨g111, a111, b111⟩, ⟨g171, a171, b171⟩⟩, ⟨g71, g81, g91, g101, g121, g131, g141, g181, g191, g201, g211, a71, a81, a91, a101, a121, a131, a141, a181, a191, a201, a211⟩, ⟨g151, g161, a151, a161, b151⟩⟩ := id hM1
          refine n_icmp_gt (pc := 35) 42 dX12_hasLevel_35 (by decide) (by omega) (by omega) (fun hc => ?_) (fun hc => ?_)
          · refine g_iconst (pc := 42) (v := nI 0) dX12_hasLevel_42 (by decide) ?_
            exact g_iret (pc := 43) dX12_hasLevel_43 (Or.inr ⟨rfl, Or.inr ⟨i, k, T, rfl, hi, rfl, hk, top_up hTT (by omega) (by omega), by omega⟩, hM1, hF1⟩)
          · refine g_iconst (pc := 38) (v := nI 1) dX12_hasLevel_38 (by decide) ?_
            refine g_goto (pc := 39) 43 dX12_hasLevel_39 (by decide) ?_
            exact g_iret (pc := 43) dX12_hasLevel_43 (Or.inl ⟨rfl, ⟨i, k, rfl, hi, rfl, hk, top_dn hTT (by omega), T, hT6, by omega, ⟨_, _, _, _, _, _, _, _, _, _, cY1⟩, l, c121, hll⟩, hM1, hF1⟩)
        · exact absurd hd9 (by decide)
      · refine GP.weq _ e9 ?_
        rw [IL, L6, L00] at hy
        refine n_if_ne (pc := 16) 21 dX12_hasLevel_16 (by decide) (by omega) (fun hd9 => ?_) (fun hd9 => ?_)
        · exact absurd rfl hd9
        · refine g_iconst (pc := 19) (v := nI 0) dX12_hasLevel_19 (by decide) ?_
          exact g_iret (pc := 20) dX12_hasLevel_20 (Or.inr ⟨rfl, Or.inl (fun g => hy g.2), ⟨⟨_, _, _, _, _, _, _, _, hY⟩, ⟨⟨_, a1, b1⟩, ⟨_, a2, b2⟩, ⟨_, _, a3, a4, b3, b4⟩, ⟨_, _, a5, a6, b5⟩, ⟨_, a11, b11⟩, ⟨_, a17, b17⟩⟩, ⟨_, _, _, _, _, _, _, _, _, _, _, a7, a8, a9, a10, a12, a13, a14, a18, a19, a20, a21⟩, ⟨_, _, a15, a16, b15⟩⟩, FR.rf⟩)
  · refine GP.weq _ e9 ?_
    refine n_if_eq (pc := 4) 19 dX12_hasLevel_4 (by decide) (by omega) (fun hd9 => ?_) (fun hd9 => ?_)
    · refine g_iconst (pc := 19) (v := nI 0) dX12_hasLevel_19 (by decide) ?_
      exact g_iret (pc := 20) dX12_hasLevel_20 (Or.inr ⟨rfl, Or.inl (fun g => hpi g.1), ⟨⟨_, _, _, _, _, _, _, _, hY⟩, ⟨⟨_, a1, b1⟩, ⟨_, a2, b2⟩, ⟨_, _, a3, a4, b3, b4⟩, ⟨_, _, a5, a6, b5⟩, ⟨_, a11, b11⟩, ⟨_, a17, b17⟩⟩, ⟨_, _, _, _, _, _, _, _, _, _, _, a7, a8, a9, a10, a12, a13, a14, a18, a19, a20, a21⟩, ⟨_, _, a15, a16, b15⟩⟩, FR.rf⟩)
    · exact absurd rfl hd9
abbrev BX12_level (w0 : Wd) (Post : Option Value → Wd → Prop) (w : Wd) (pc : Nat) (ls : List (Nat × Value)) (st : List Value) : Prop := GP "level" RX12 cX12_level 4 (some .long) 4 156 none w0 Post w pc ls st
abbrev EX12_level (As : List Value) (w : Wd) (Post : Option Value → Wd → Prop) : Prop := EP yX12_level cX12_level 4 (some .long) 4 As w Post
theorem mq_level (w : Wd) {Y tl : Nat} {tb : Nat → Int32} {fa st : Int32} {rf : Nat → Nat} {sh : SV} {pn : Nat} {pk : Nat → Nat} {ps : Nat → SV} {im : Nat → Option SV} (hM : mdC w Y tl tb fa st rf sh pn pk ps im) {x y z : Int32} : EX12_level [.ref Y, .int x, .int y, .int z] w (fun r w' => ((¬ (0 ≤ z.toInt ∧ z.toInt ≤ 12) ∨ noLv sh x y) ∧ r = some (.long (-9223372036854775808)) ∧ mdC w' Y tl tb fa st rf sh pn pk ps im ∧ FR (modS Y) w w') ∨ (∃ i k j v, x = nI i ∧ i < 8 ∧ y = nI k ∧ k < 7 ∧ z = nI j ∧ j ≤ 12 ∧ topL (sh.1 i).2 (sh.1 i).1 k k ∧ r = some (.long v) ∧ v.toInt = (if j ≤ (sh.1 i).1 then lvs (sh.1 i).2 (sh.1 i).1 k j else 0) ∧ mdC w' Y tl tb fa st rf sh pn pk ps im ∧ FR (modS Y) w w')) := by
  refine EP.of (plainFor_of_name (by decide)) [(0, .ref Y), (1, .int x), (2, .int y), (3, .int z)] rfl (Nat.le_of_ble_eq_true rfl) (fun r wf h => by rcases h with ⟨-, rfl, -⟩ | ⟨i, k, j, v, -, -, -, -, -, -, -, rfl, -⟩ <;> trivial) ?_
  show BX12_level w _ w 0 [(0, .ref Y), (1, .int x), (2, .int y), (3, .int z)] []
  obtain ⟨⟨th, dg, dd, ld, be, ib, re, ig, hY⟩, ⟨⟨g1, a1, b1⟩, ⟨g2, a2, b2⟩, ⟨g3, g4, a3, a4, b3, b4⟩, ⟨g5, g6, a5, a6, b5⟩, ⟨g11, a11, b11⟩, ⟨g17, a17, b17⟩⟩, ⟨g7, g8, g9, g10, g12, g13, g14, g18, g19, g20, g21, a7, a8, a9, a10, a12, a13, a14, a18, a19, a20, a21⟩, ⟨g15, g16, a15, a16, b15⟩⟩ := id hM
  refine g_aload_n (pc := 0) 0 dX12_level_0 rfl rfl ?_
  refine g_iconst (pc := 1) (v := nI 0) dX12_level_1 (by decide) ?_
  refine g_put (pc := 2) (.int (nI 0) :: .int st :: .ref (Y + 1) :: .ref (Y + 2) :: .ref (Y + 3) :: .ref (Y + 4) :: .int (nI pn) :: .ref (Y + 5) :: .ref (Y + 6) :: .ref (Y + 7) :: .int dg :: .ref (Y + 8) :: .int dd :: .ref (Y + 9) :: .ref (Y + 10) :: .ref (Y + 11) :: .ref (Y + 12) :: .int ld :: .int be :: .int ib :: .ref (Y + 13) :: .ref (Y + 14) :: .ref (Y + 15) :: .ref (Y + 16) :: .ref (Y + 17) :: .int (nI tl) :: .int fa :: .int re :: .int ig :: .ref (Y + 18) :: .ref (Y + 19) :: .ref (Y + 20) :: .ref (Y + 21) :: []) dX12_level_2 fk_X12_83 hY (Nat.le_of_ble_eq_true rfl) rfl rfl ?_
  refine g_iload_n (pc := 5) 3 dX12_level_5 rfl rfl ?_
  refine g_i2l (pc := 6) dX12_level_6 ?_
  refine g_lconst (pc := 7) (v := 0) dX12_level_7 (by decide) ?_
  refine g_ldc2 (pc := 8) kc_X12_126 dX12_level_8 ?_
  refine g_callS (pc := 11) [.long z.toInt64, .long 0, .long (12)] dX12_level_11 cs_X12_103.1 cs_X12_103.2 rfl rfl (Nat.le_of_ble_eq_true rfl) (by decide) (by decide) (mp_in _) ?_
  rintro _ w9 (⟨rfl, hz, e9⟩ | ⟨rfl, hz, e9⟩)
  · refine GP.weq _ e9 ?_
    rw [IL, L12, L00] at hz
    obtain ⟨j, rfl, hj⟩ := ip_of (k := 12) hz
    refine n_if_eq (pc := 14) 40 dX12_level_14 (by decide) (by omega) (fun hd9 => ?_) (fun hd9 => ?_)
    · exact absurd hd9 (by decide)
    · refine g_aload_n (pc := 17) 0 dX12_level_17 rfl rfl ?_
      refine g_iload_n (pc := 18) 1 dX12_level_18 rfl rfl ?_
      refine g_iload_n (pc := 19) 2 dX12_level_19 rfl rfl ?_
      obtain ⟨w1, ew1⟩ : ∃ wy : Wd, wy = (w.set Y (.inr (11, .int (nI 0) :: .int st :: .ref (Y + 1) :: .ref (Y + 2) :: .ref (Y + 3) :: .ref (Y + 4) :: .int (nI pn) :: .ref (Y + 5) :: .ref (Y + 6) :: .ref (Y + 7) :: .int dg :: .ref (Y + 8) :: .int dd :: .ref (Y + 9) :: .ref (Y + 10) :: .ref (Y + 11) :: .ref (Y + 12) :: .int ld :: .int be :: .int ib :: .ref (Y + 13) :: .ref (Y + 14) :: .ref (Y + 15) :: .ref (Y + 16) :: .ref (Y + 17) :: .int (nI tl) :: .int fa :: .int re :: .int ig :: .ref (Y + 18) :: .ref (Y + 19) :: .ref (Y + 20) :: .ref (Y + 21) :: []))) := ⟨_, rfl⟩
      refine GP.weq w1 ew1.symm ?_
      have hM1 : mdC w1 Y tl tb fa st rf sh pn pk ps im := by rw [ew1]; exact ⟨⟨_, _, _, _, _, _, _, _, (lk_eq hY)⟩, ⟨⟨_, (lk_ne (show Y ≠ (Y + 1) by omega) a1), b1⟩, ⟨_, (lk_ne (show Y ≠ (Y + 2) by omega) a2), b2⟩, ⟨_, _, (lk_ne (show Y ≠ (Y + 3) by omega) a3), (lk_ne (show Y ≠ (Y + 4) by omega) a4), b3, b4⟩, ⟨_, _, (lk_ne (show Y ≠ (Y + 5) by omega) a5), (lk_ne (show Y ≠ (Y + 6) by omega) a6), b5⟩, ⟨_, (lk_ne (show Y ≠ (Y + 11) by omega) a11), b11⟩, ⟨_, (lk_ne (show Y ≠ (Y + 17) by omega) a17), b17⟩⟩, ⟨_, _, _, _, _, _, _, _, _, _, _, (lk_ne (show Y ≠ (Y + 7) by omega) a7), (lk_ne (show Y ≠ (Y + 8) by omega) a8), (lk_ne (show Y ≠ (Y + 9) by omega) a9), (lk_ne (show Y ≠ (Y + 10) by omega) a10), (lk_ne (show Y ≠ (Y + 12) by omega) a12), (lk_ne (show Y ≠ (Y + 13) by omega) a13), (lk_ne (show Y ≠ (Y + 14) by omega) a14), (lk_ne (show Y ≠ (Y + 18) by omega) a18), (lk_ne (show Y ≠ (Y + 19) by omega) a19), (lk_ne (show Y ≠ (Y + 20) by omega) a20), (lk_ne (show Y ≠ (Y + 21) by omega) a21)⟩, ⟨_, _, (lk_ne (show Y ≠ (Y + 15) by omega) a15), (lk_ne (show Y ≠ (Y + 16) by omega) a16), b15⟩⟩
      have hF1 : FR (modS Y) w w1 := by rw [ew1]; exact (FR.st (c' := .inr (11, .int (nI 0) :: .int st :: .ref (Y + 1) :: .ref (Y + 2) :: .ref (Y + 3) :: .ref (Y + 4) :: .int (nI pn) :: .ref (Y + 5) :: .ref (Y + 6) :: .ref (Y + 7) :: .int dg :: .ref (Y + 8) :: .int dd :: .ref (Y + 9) :: .ref (Y + 10) :: .ref (Y + 11) :: .ref (Y + 12) :: .int ld :: .int be :: .int ib :: .ref (Y + 13) :: .ref (Y + 14) :: .ref (Y + 15) :: .ref (Y + 16) :: .ref (Y + 17) :: .int (nI tl) :: .int fa :: .int re :: .int ig :: .ref (Y + 18) :: .ref (Y + 19) :: .ref (Y + 20) :: .ref (Y + 21) :: [])) FR.rf hY rfl (by unfold modS; omega))
      have cY1 : w1[Y]? = some (.inr (11, .int (nI 0) :: .int st :: .ref (Y + 1) :: .ref (Y + 2) :: .ref (Y + 3) :: .ref (Y + 4) :: .int (nI pn) :: .ref (Y + 5) :: .ref (Y + 6) :: .ref (Y + 7) :: .int dg :: .ref (Y + 8) :: .int dd :: .ref (Y + 9) :: .ref (Y + 10) :: .ref (Y + 11) :: .ref (Y + 12) :: .int ld :: .int be :: .int ib :: .ref (Y + 13) :: .ref (Y + 14) :: .ref (Y + 15) :: .ref (Y + 16) :: .ref (Y + 17) :: .int (nI tl) :: .int fa :: .int re :: .int ig :: .ref (Y + 18) :: .ref (Y + 19) :: .ref (Y + 20) :: .ref (Y + 21) :: [])) := by rw [ew1]; exact (lk_eq hY)
      obtain ⟨⟨th1, dg1, dd1, ld1, be1, ib1, re1, ig1, hY1⟩, ⟨⟨g11, a11, b11⟩, ⟨g21, a21, b21⟩, ⟨g31, g41, a31, a41, b31, b41⟩, ⟨g51, g61, a51, a61, b51⟩, ⟨g111, a111, b111⟩, ⟨g171, a171, b171⟩⟩, ⟨g71, g81, g91, g101, g121, g131, g141, g181, g191, g201, g211, a71, a81, a91, a101, a121, a131, a141, a181, a191, a201, a211⟩, ⟨g151, g161, a151, a161, b151⟩⟩ := id hM1
      refine g_callV (pc := 20) [.int x, .int y] dX12_level_20 cv_X12_346.1 cv_X12_346.2.1 cv_X12_346.2.2.1 cv_X12_346.2.2.2 cY1 rfl rfl (Nat.le_of_ble_eq_true rfl) (by decide) (by decide) (mq_hasLevel _ hM1) ?_
      rintro _ w9 (⟨rfl, ⟨i, k, rfl, hi, rfl, hk, htl, T, hT6, hkT, ⟨_, _, _, _, _, _, _, _, _, _, cY⟩, l, c12, hll⟩, hM2, hF2⟩ | ⟨rfl, hno, hM2, hF2⟩)
      · refine n_if_eq (pc := 23) 40 dX12_level_23 (by decide) (by omega) (fun hd9 => ?_) (fun hd9 => ?_)
        · exact absurd hd9 (by decide)
        · obtain ⟨⟨th2, dg2, dd2, ld2, be2, ib2, re2, ig2, hY2⟩, ⟨⟨g12, a12, b12⟩, ⟨g22, a22, b22⟩, ⟨g32, g42, a32, a42, b32, b42⟩, ⟨g52, g62, a52, a62, b52⟩, ⟨g112, a112, b112⟩, ⟨g172, a172, b172⟩⟩, ⟨g72, g82, g92, g102, g122, g132, g142, g182, g192, g202, g212, a72, a82, a92, a102, a122, a132, a142, a182, a192, a202, a212⟩, ⟨g152, g162, a152, a162, b152⟩⟩ := id hM2
          have hv := hll k hkT j (by omega)
          refine g_aload_n (pc := 26) 0 dX12_level_26 rfl rfl ?_
          refine g_get (pc := 27) dX12_level_27 fk_X12_45 hY2 rfl ?_
          refine g_bipush (pc := 30) (v := nI 13) dX12_level_30 (by decide) ?_
          refine g_iload_n (pc := 32) 2 dX12_level_32 rfl rfl ?_
          refine n_imul (pc := 33) dX12_level_33 ?_
          refine g_iload_n (pc := 34) 3 dX12_level_34 rfl rfl ?_
          refine n_iadd (pc := 35) dX12_level_35 ?_
          refine g_lald (pc := 36) ((13 * k) + j) dX12_level_36 c12 (IXn (by omega) (by omega)) ?_
          refine g_goto (pc := 37) 43 dX12_level_37 (by decide) ?_
          exact g_lret (pc := 43) dX12_level_43 (Or.inr ⟨i, k, j, _, rfl, hi, rfl, hk, rfl, hj, htl, rfl, hv, ⟨⟨_, _, _, _, _, _, _, _, hY2⟩, ⟨⟨_, a12, b12⟩, ⟨_, a22, b22⟩, ⟨_, _, a32, a42, b32, b42⟩, ⟨_, _, a52, a62, b52⟩, ⟨_, a112, b112⟩, ⟨_, a172, b172⟩⟩, ⟨_, _, _, _, _, _, _, _, _, _, _, a72, a82, a92, a102, c12, a132, a142, a182, a192, a202, a212⟩, ⟨_, _, a152, a162, b152⟩⟩, ((hF1.tr hF2).tr FR.rf)⟩)
      · refine n_if_eq (pc := 23) 40 dX12_level_23 (by decide) (by omega) (fun hd9 => ?_) (fun hd9 => ?_)
        · obtain ⟨⟨th2, dg2, dd2, ld2, be2, ib2, re2, ig2, hY2⟩, ⟨⟨g12, a12, b12⟩, ⟨g22, a22, b22⟩, ⟨g32, g42, a32, a42, b32, b42⟩, ⟨g52, g62, a52, a62, b52⟩, ⟨g112, a112, b112⟩, ⟨g172, a172, b172⟩⟩, ⟨g72, g82, g92, g102, g122, g132, g142, g182, g192, g202, g212, a72, a82, a92, a102, a122, a132, a142, a182, a192, a202, a212⟩, ⟨g152, g162, a152, a162, b152⟩⟩ := id hM2
          refine g_ldc2 (pc := 40) kc_X12_177 dX12_level_40 ?_
          exact g_lret (pc := 43) dX12_level_43 (Or.inl ⟨Or.inr hno, rfl, ⟨⟨_, _, _, _, _, _, _, _, hY2⟩, ⟨⟨_, a12, b12⟩, ⟨_, a22, b22⟩, ⟨_, _, a32, a42, b32, b42⟩, ⟨_, _, a52, a62, b52⟩, ⟨_, a112, b112⟩, ⟨_, a172, b172⟩⟩, ⟨_, _, _, _, _, _, _, _, _, _, _, a72, a82, a92, a102, a122, a132, a142, a182, a192, a202, a212⟩, ⟨_, _, a152, a162, b152⟩⟩, ((hF1.tr hF2).tr FR.rf)⟩)
        · exact absurd rfl hd9
  · refine GP.weq _ e9 ?_
    rw [IL, L12, L00] at hz
    refine n_if_eq (pc := 14) 40 dX12_level_14 (by decide) (by omega) (fun hd9 => ?_) (fun hd9 => ?_)
    · refine g_ldc2 (pc := 40) kc_X12_177 dX12_level_40 ?_
      exact g_lret (pc := 43) dX12_level_43 (Or.inl ⟨Or.inl hz, rfl, ⟨⟨_, _, _, _, _, _, _, _, (lk_eq hY)⟩, ⟨⟨_, (lk_ne (show Y ≠ (Y + 1) by omega) a1), b1⟩, ⟨_, (lk_ne (show Y ≠ (Y + 2) by omega) a2), b2⟩, ⟨_, _, (lk_ne (show Y ≠ (Y + 3) by omega) a3), (lk_ne (show Y ≠ (Y + 4) by omega) a4), b3, b4⟩, ⟨_, _, (lk_ne (show Y ≠ (Y + 5) by omega) a5), (lk_ne (show Y ≠ (Y + 6) by omega) a6), b5⟩, ⟨_, (lk_ne (show Y ≠ (Y + 11) by omega) a11), b11⟩, ⟨_, (lk_ne (show Y ≠ (Y + 17) by omega) a17), b17⟩⟩, ⟨_, _, _, _, _, _, _, _, _, _, _, (lk_ne (show Y ≠ (Y + 7) by omega) a7), (lk_ne (show Y ≠ (Y + 8) by omega) a8), (lk_ne (show Y ≠ (Y + 9) by omega) a9), (lk_ne (show Y ≠ (Y + 10) by omega) a10), (lk_ne (show Y ≠ (Y + 12) by omega) a12), (lk_ne (show Y ≠ (Y + 13) by omega) a13), (lk_ne (show Y ≠ (Y + 14) by omega) a14), (lk_ne (show Y ≠ (Y + 18) by omega) a18), (lk_ne (show Y ≠ (Y + 19) by omega) a19), (lk_ne (show Y ≠ (Y + 20) by omega) a20), (lk_ne (show Y ≠ (Y + 21) by omega) a21)⟩, ⟨_, _, (lk_ne (show Y ≠ (Y + 15) by omega) a15), (lk_ne (show Y ≠ (Y + 16) by omega) a16), b15⟩⟩, (FR.st (c' := .inr (11, .int (nI 0) :: .int st :: .ref (Y + 1) :: .ref (Y + 2) :: .ref (Y + 3) :: .ref (Y + 4) :: .int (nI pn) :: .ref (Y + 5) :: .ref (Y + 6) :: .ref (Y + 7) :: .int dg :: .ref (Y + 8) :: .int dd :: .ref (Y + 9) :: .ref (Y + 10) :: .ref (Y + 11) :: .ref (Y + 12) :: .int ld :: .int be :: .int ib :: .ref (Y + 13) :: .ref (Y + 14) :: .ref (Y + 15) :: .ref (Y + 16) :: .ref (Y + 17) :: .int (nI tl) :: .int fa :: .int re :: .int ig :: .ref (Y + 18) :: .ref (Y + 19) :: .ref (Y + 20) :: .ref (Y + 21) :: [])) FR.rf hY rfl (by unfold modS; omega))⟩)
    · exact absurd rfl hd9
