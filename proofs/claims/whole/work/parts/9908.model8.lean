/-! the reference: plus, take, times -/
theorem pl_sum {g2 : Nat → Int32} {V : SV} {i p : Nat} (hV : rowR g2 V) (hi : i < 8) (hp : p < 13) : (g2 (14 * i + 1 + p)).toInt = (V.1 i).2 p ∧ -9999 ≤ (V.1 i).2 p ∧ (V.1 i).2 p ≤ 9999 := by
  obtain ⟨⟨a, b, c, d⟩, e, f⟩ := hV.1 i hi
  refine ⟨f p hp, ?_⟩
  by_cases h : p ≤ (V.1 i).1
  · exact b p h
  · rw [d p (by omega)]
    omega
abbrev BX12_plus_ (w0 : Wd) (Post : Option Value → Wd → Prop) (w : Wd) (pc : Nat) (ls : List (Nat × Value)) (st : List Value) : Prop := GP "plus" RX12 cX12_plus_ 6 (some .int) 3 117 none w0 Post w pc ls st
abbrev EX12_plus_ (As : List Value) (w : Wd) (Post : Option Value → Wd → Prop) : Prop := EP yX12_plus_ cX12_plus_ 6 (some .int) 3 As w Post
theorem plu_fill {w0 w : Wd} {Y : Nat} {h7 : Nat → Int64} {th st nu dg dd ld be ib ta fa re ig : Int32} {g2 : Nat → Int32} {V : SV} {i j k : Nat} {x : Int32} (hY : w[Y]? = some (oM Y th st nu dg dd ld be ib ta fa re ig)) (a2 : w[Y + 2]? = some (aI 0 626 g2)) (hV : rowR g2 V) (hi : i < 8) (hj : j < 8) (hx2 : x = nI 0 ∨ x = nI 1) (a7 : w[Y + 7]? = some (aL 60 h7)) {Q : Option Value → Wd → Prop} (K : ∀ h : Nat → Int64, (∀ q9, q9 < 60 → (h q9).toInt = if q9 < 13 then ((V.1 i).2 q9 + if x = nI 0 then (V.1 j).2 q9 else -(V.1 j).2 q9) else 0) → BX12_plus_ w0 Q (w.set (Y + 7) (aL 60 h)) 108 [(4, .int (nI k)), (3, .int (nI j)), (2, .int (nI i)), (1, .int x), (0, .ref Y)] []) : ∀ (z p : Nat) (h : Nat → Int64), 13 = p + z → (∀ q9, q9 < 60 → (h q9).toInt = if q9 < p then ((V.1 i).2 q9 + if x = nI 0 then (V.1 j).2 q9 else -(V.1 j).2 q9) else 0) → BX12_plus_ w0 Q (w.set (Y + 7) (aL 60 h)) 57 [(5, .int (nI p)), (4, .int (nI k)), (3, .int (nI j)), (2, .int (nI i)), (1, .int x), (0, .ref Y)] [] := by
  intro z
  induction z with
  | zero =>
    intro p h hz hh
    refine g_iload (pc := 57) 0 dX12_plus__57 rfl ?_
    refine g_bipush (pc := 59) (v := nI 12) dX12_plus__59 (by decide) ?_
    refine n_icmp_gt (pc := 61) 108 dX12_plus__61 (by decide) (by omega) (by omega) (fun hb9 => ?_) (fun hb9 => ?_)
    · have e9 : p = 13 := by omega
      subst e9
      exact GP.lsub _ (by simp) (K h hh)
    · exact absurd hb9 (by omega)
  | succ z ih =>
    intro p h hz hh
    refine g_iload (pc := 57) 0 dX12_plus__57 rfl ?_
    refine g_bipush (pc := 59) (v := nI 12) dX12_plus__59 (by decide) ?_
    refine n_icmp_gt (pc := 61) 108 dX12_plus__61 (by decide) (by omega) (by omega) (fun hb9 => ?_) (fun hb9 => ?_)
    · exact absurd hb9 (by omega)
    · refine g_aload_n (pc := 64) 5 dX12_plus__64 rfl rfl ?_
      refine g_get (pc := 65) dX12_plus__65 fk_X12_29 (lk_ne (show (Y + 7) ≠ Y by omega) hY) rfl ?_
      refine g_iload (pc := 68) 0 dX12_plus__68 rfl ?_
      refine g_aload_n (pc := 70) 5 dX12_plus__70 rfl rfl ?_
      refine g_iload_n (pc := 71) 3 dX12_plus__71 rfl rfl ?_
      refine g_iload (pc := 72) 0 dX12_plus__72 rfl ?_
      refine g_callV (pc := 74) [.int (nI i), .int (nI p)] dX12_plus__74 cv_X12_122.1 cv_X12_122.2.1 cv_X12_122.2.2.1 cv_X12_122.2.2.2 (lk_ne (show (Y + 7) ≠ Y by omega) hY) rfl rfl (Nat.le_of_ble_eq_true rfl) (by decide) (by decide) (mp_at _ (lk_ne (show (Y + 7) ≠ Y by omega) hY) (lk_ne (show (Y + 7) ≠ (Y + 2) by omega) a2) hi (show p < 13 by omega)) ?_
      rintro _ w9 ⟨rfl, e9⟩
      refine GP.weq _ e9 ?_
      have s1 := pl_sum hV hi (show p < 13 by omega)
      have s2 := pl_sum hV hj (show p < 13 by omega)
      rcases hx2 with rfl | rfl
      · ·
          refine g_iload_n (pc := 77) 4 dX12_plus__77 rfl rfl ?_
          refine n_if_ne (pc := 78) 91 dX12_plus__78 (by decide) (by omega) (fun hd9 => ?_) (fun hd9 => ?_)
          · exact absurd rfl hd9
          · refine g_aload_n (pc := 81) 5 dX12_plus__81 rfl rfl ?_
            refine g_iload_n (pc := 82) 2 dX12_plus__82 rfl rfl ?_
            refine g_iload (pc := 83) 0 dX12_plus__83 rfl ?_
            refine g_callV (pc := 85) [.int (nI j), .int (nI p)] dX12_plus__85 cv_X12_122.1 cv_X12_122.2.1 cv_X12_122.2.2.1 cv_X12_122.2.2.2 (lk_ne (show (Y + 7) ≠ Y by omega) hY) rfl rfl (Nat.le_of_ble_eq_true rfl) (by decide) (by decide) (mp_at _ (lk_ne (show (Y + 7) ≠ Y by omega) hY) (lk_ne (show (Y + 7) ≠ (Y + 2) by omega) a2) hj (show p < 13 by omega)) ?_
            rintro _ w9 ⟨rfl, e9⟩
            refine GP.weq _ e9 ?_
            refine g_goto (pc := 88) 99 dX12_plus__88 (by decide) ?_
            refine g_iadd (pc := 99) dX12_plus__99 ?_
            refine g_i2l (pc := 100) dX12_plus__100 ?_
            refine g_last (pc := 101) p dX12_plus__101 (lk_eq a7) (IXn (by omega) (by omega)) ?_
            refine GP.weq (w.set (Y + 7) (aL 60 (vp_updL h p (((g2 (14 * i + 1 + p)) + (g2 (14 * j + 1 + p))).toInt64)))) (by rw [List.set_set]) ?_
            refine n_iinc (pc := 102) (c := 1) [(5, .int (nI (p + 1))), (4, .int (nI k)), (3, .int (nI j)), (2, .int (nI i)), (1, .int (nI 0)), (0, .ref Y)] 0 dX12_plus__102 rfl (by decide) (by decide) rfl ?_
            refine g_goto (pc := 105) 57 dX12_plus__105 (by decide) ?_
            refine GP.lsub _ (by simp) (ih (p + 1) _ (by omega) (fun q9 hq9 => ?_))
            by_cases e : q9 = p
            · rw [e, upL_s, if_pos (show p < p + 1 by omega)]
              rw [if_pos rfl, IL, I_add (by omega) (by omega), s1.1, s2.1]
            · rw [upL_n e, hh q9 hq9]
              by_cases e2 : q9 < p
              · rw [if_pos e2, if_pos (show q9 < p + 1 by omega)]
              · rw [if_neg e2, if_neg (show ¬ q9 < p + 1 by omega)]
      · ·
          refine g_iload_n (pc := 77) 4 dX12_plus__77 rfl rfl ?_
          refine n_if_ne (pc := 78) 91 dX12_plus__78 (by decide) (by omega) (fun hd9 => ?_) (fun hd9 => ?_)
          · refine g_aload_n (pc := 91) 5 dX12_plus__91 rfl rfl ?_
            refine g_iload_n (pc := 92) 2 dX12_plus__92 rfl rfl ?_
            refine g_iload (pc := 93) 0 dX12_plus__93 rfl ?_
            refine g_callV (pc := 95) [.int (nI j), .int (nI p)] dX12_plus__95 cv_X12_122.1 cv_X12_122.2.1 cv_X12_122.2.2.1 cv_X12_122.2.2.2 (lk_ne (show (Y + 7) ≠ Y by omega) hY) rfl rfl (Nat.le_of_ble_eq_true rfl) (by decide) (by decide) (mp_at _ (lk_ne (show (Y + 7) ≠ Y by omega) hY) (lk_ne (show (Y + 7) ≠ (Y + 2) by omega) a2) hj (show p < 13 by omega)) ?_
            rintro _ w9 ⟨rfl, e9⟩
            refine GP.weq _ e9 ?_
            refine g_ineg (pc := 98) dX12_plus__98 ?_
            refine g_iadd (pc := 99) dX12_plus__99 ?_
            refine g_i2l (pc := 100) dX12_plus__100 ?_
            refine g_last (pc := 101) p dX12_plus__101 (lk_eq a7) (IXn (by omega) (by omega)) ?_
            refine GP.weq (w.set (Y + 7) (aL 60 (vp_updL h p (((g2 (14 * i + 1 + p)) + (-(g2 (14 * j + 1 + p)))).toInt64)))) (by rw [List.set_set]) ?_
            refine n_iinc (pc := 102) (c := 1) [(5, .int (nI (p + 1))), (4, .int (nI k)), (3, .int (nI j)), (2, .int (nI i)), (1, .int (nI 1)), (0, .ref Y)] 0 dX12_plus__102 rfl (by decide) (by decide) rfl ?_
            refine g_goto (pc := 105) 57 dX12_plus__105 (by decide) ?_
            refine GP.lsub _ (by simp) (ih (p + 1) _ (by omega) (fun q9 hq9 => ?_))
            by_cases e : q9 = p
            · rw [e, upL_s, if_pos (show p < p + 1 by omega)]
              rw [if_neg (by decide), IL, I_add (by rw [I_neg (by omega)]; omega) (by rw [I_neg (by omega)]; omega), I_neg (by omega), s1.1, s2.1]
            · rw [upL_n e, hh q9 hq9]
              by_cases e2 : q9 < p
              · rw [if_pos e2, if_pos (show q9 < p + 1 by omega)]
              · rw [if_neg e2, if_neg (show ¬ q9 < p + 1 by omega)]
          · exact absurd hd9 (by decide)
theorem ok_z {g : Nat → Int32} {V : SV} {i j : Nat} (hV : rowR g V) (hi : i < 8) (hj : 13 ≤ j) : (V.1 i).2 j = 0 := by
  obtain ⟨⟨a, b, c, d⟩, e, f⟩ := hV.1 i hi
  exact d j (by omega)
theorem pl_cut {g : Nat → Int32} {V : SV} {i j t : Nat} {x : Int32} (hV : rowR g V) (hi : i < 8) (hj : j < 8) : (if t < 13 then (V.1 i).2 t + (if x = nI 0 then (V.1 j).2 t else -(V.1 j).2 t) else 0) = (V.1 i).2 t + (if x = nI 0 then (V.1 j).2 t else -(V.1 j).2 t) := by
  by_cases e : t < 13
  · rw [if_pos e]
  · rw [if_neg e, ok_z hV hi (by omega), ok_z hV hj (by omega)]
    split <;> rfl
theorem pl_zz {g : Nat → Int32} {V : SV} {i j t : Nat} {x : Int32} (hV : rowR g V) (hi : i < 8) (hj : j < 8) (ht : 13 ≤ t) : (V.1 i).2 t + (if x = nI 0 then (V.1 j).2 t else -(V.1 j).2 t) = 0 := by
  rw [ok_z hV hi ht, ok_z hV hj ht]
  split <;> rfl
theorem two_or {x : Int32} (h : 0 ≤ x.toInt ∧ x.toInt ≤ 1) : x = nI 0 ∨ x = nI 1 := by
  obtain ⟨k, rfl, hk⟩ := two_of h
  have : k = 0 ∨ k = 1 := by omega
  rcases this with rfl | rfl
  · exact Or.inl rfl
  · exact Or.inr rfl
theorem mq_plus (w : Wd) {Y tl : Nat} {tb : Nat → Int32} {fa st : Int32} {rf : Nat → Nat} {sh : SV} {pn : Nat} {pk : Nat → Nat} {ps : Nat → SV} {im : Nat → Option SV} (hM : mdC w Y tl tb fa st rf sh pn pk ps im) {x y z u : Int32} : EX12_plus_ [.ref Y, .int x, .int y, .int z, .int u] w (fun r w' => (¬ (0 ≤ x.toInt ∧ x.toInt ≤ 1) ∧ rfM (-1) 0 w Y tl tb fa rf sh pn pk ps im r w') ∨ ((x = nI 0 ∨ x = nI 1) ∧ ¬ (isPl y ∧ isPl z ∧ isPl u) ∧ rfM (-2) 1 w Y tl tb fa rf sh pn pk ps im r w') ∨ (∃ i j k, (x = nI 0 ∨ x = nI 1) ∧ y = nI i ∧ i < 8 ∧ z = nI j ∧ j < 8 ∧ u = nI k ∧ k < 8 ∧ putM (fun t => (sh.1 i).2 t + if x = nI 0 then (sh.1 j).2 t else -(sh.1 j).2 t) 3 k w Y tl tb fa rf sh pn pk ps im r w')) := by
  refine EP.of (plainFor_of_name (by decide)) [(0, .ref Y), (1, .int x), (2, .int y), (3, .int z), (4, .int u)] rfl (Nat.le_of_ble_eq_true rfl) (fun r wf h => by rcases h with ⟨-, rfl, -⟩ | ⟨-, -, rfl, -⟩ | ⟨i, j, k, -, -, -, -, -, -, -, h⟩; trivial; trivial; obtain ⟨v, rfl⟩ := putM_int h; trivial) ?_
  show BX12_plus_ w _ w 0 [(0, .ref Y), (1, .int x), (2, .int y), (3, .int z), (4, .int u)] []
  obtain ⟨⟨th, dg, dd, ld, be, ib, re, ig, hY⟩, ⟨⟨g1, a1, b1⟩, ⟨g2, a2, b2⟩, ⟨g3, g4, a3, a4, b3, b4⟩, ⟨g5, g6, a5, a6, b5⟩, ⟨g11, a11, b11⟩, ⟨g17, a17, b17⟩⟩, ⟨g7, g8, g9, g10, g12, g13, g14, g18, g19, g20, g21, a7, a8, a9, a10, a12, a13, a14, a18, a19, a20, a21⟩, ⟨g15, g16, a15, a16, b15⟩⟩ := id hM
  refine g_aload_n (pc := 0) 0 dX12_plus__0 rfl rfl ?_
  refine g_iconst (pc := 1) (v := nI 0) dX12_plus__1 (by decide) ?_
  refine g_put (pc := 2) (.int (nI 0) :: .int st :: .ref (Y + 1) :: .ref (Y + 2) :: .ref (Y + 3) :: .ref (Y + 4) :: .int (nI pn) :: .ref (Y + 5) :: .ref (Y + 6) :: .ref (Y + 7) :: .int dg :: .ref (Y + 8) :: .int dd :: .ref (Y + 9) :: .ref (Y + 10) :: .ref (Y + 11) :: .ref (Y + 12) :: .int ld :: .int be :: .int ib :: .ref (Y + 13) :: .ref (Y + 14) :: .ref (Y + 15) :: .ref (Y + 16) :: .ref (Y + 17) :: .int (nI tl) :: .int fa :: .int re :: .int ig :: .ref (Y + 18) :: .ref (Y + 19) :: .ref (Y + 20) :: .ref (Y + 21) :: []) dX12_plus__2 fk_X12_83 hY (Nat.le_of_ble_eq_true rfl) rfl rfl ?_
  refine g_iload_n (pc := 5) 1 dX12_plus__5 rfl rfl ?_
  refine g_i2l (pc := 6) dX12_plus__6 ?_
  refine g_lconst (pc := 7) (v := 0) dX12_plus__7 (by decide) ?_
  refine g_lconst (pc := 8) (v := 1) dX12_plus__8 (by decide) ?_
  refine g_callS (pc := 9) [.long x.toInt64, .long 0, .long 1] dX12_plus__9 cs_X12_103.1 cs_X12_103.2 rfl rfl (Nat.le_of_ble_eq_true rfl) (by decide) (by decide) (mp_in _) ?_
  rintro _ w9 (⟨rfl, hx, e9⟩ | ⟨rfl, hx, e9⟩)
  · refine GP.weq _ e9 ?_
    rw [IL, L1, L00] at hx
    have hx2 := two_or hx
    refine n_if_ne (pc := 12) 21 dX12_plus__12 (by decide) (by omega) (fun hd9 => ?_) (fun hd9 => ?_)
    · refine g_iload_n (pc := 21) 2 dX12_plus__21 rfl rfl ?_
      refine g_callS (pc := 22) [.int y] dX12_plus__22 cs_X12_277.1 cs_X12_277.2 rfl rfl (Nat.le_of_ble_eq_true rfl) (by decide) (by decide) (mp_isStore _) ?_
      rintro _ w9 (⟨rfl, hpi, e9⟩ | ⟨rfl, hpi, e9⟩)
      · refine GP.weq _ e9 ?_
        obtain ⟨i, rfl, hi⟩ := pl_of hpi
        refine n_if_eq (pc := 25) 43 dX12_plus__25 (by decide) (by omega) (fun hd9 => ?_) (fun hd9 => ?_)
        · exact absurd hd9 (by decide)
        · refine g_iload_n (pc := 28) 3 dX12_plus__28 rfl rfl ?_
          refine g_callS (pc := 29) [.int z] dX12_plus__29 cs_X12_277.1 cs_X12_277.2 rfl rfl (Nat.le_of_ble_eq_true rfl) (by decide) (by decide) (mp_isStore _) ?_
          rintro _ w9 (⟨rfl, hpj, e9⟩ | ⟨rfl, hpj, e9⟩)
          · refine GP.weq _ e9 ?_
            obtain ⟨j, rfl, hj⟩ := pl_of hpj
            refine n_if_eq (pc := 32) 43 dX12_plus__32 (by decide) (by omega) (fun hd9 => ?_) (fun hd9 => ?_)
            · exact absurd hd9 (by decide)
            · refine g_iload (pc := 35) 4 dX12_plus__35 rfl ?_
              refine g_callS (pc := 37) [.int u] dX12_plus__37 cs_X12_277.1 cs_X12_277.2 rfl rfl (Nat.le_of_ble_eq_true rfl) (by decide) (by decide) (mp_isStore _) ?_
              rintro _ w9 (⟨rfl, hpk, e9⟩ | ⟨rfl, hpk, e9⟩)
              · refine GP.weq _ e9 ?_
                obtain ⟨k, rfl, hk⟩ := pl_of hpk
                refine n_if_ne (pc := 40) 50 dX12_plus__40 (by decide) (by omega) (fun hd9 => ?_) (fun hd9 => ?_)
                · refine g_aload_n (pc := 50) 0 dX12_plus__50 rfl rfl ?_
                  refine g_callV (pc := 51) [] dX12_plus__51 cv_X12_116.1 cv_X12_116.2.1 cv_X12_116.2.2.1 cv_X12_116.2.2.2 (lk_eq hY) rfl rfl (Nat.le_of_ble_eq_true rfl) (by decide) (by decide) (mp_empty _ (lk_eq hY) (lk_ne (show Y ≠ (Y + 7) by omega) a7)) ?_
                  rintro _ w9 ⟨rfl, e9⟩
                  refine GP.weq _ e9 ?_
                  refine GP.weq ((w.set Y (.inr (11, .int (nI 0) :: .int st :: .ref (Y + 1) :: .ref (Y + 2) :: .ref (Y + 3) :: .ref (Y + 4) :: .int (nI pn) :: .ref (Y + 5) :: .ref (Y + 6) :: .ref (Y + 7) :: .int (-1) :: .ref (Y + 8) :: .int dd :: .ref (Y + 9) :: .ref (Y + 10) :: .ref (Y + 11) :: .ref (Y + 12) :: .int ld :: .int be :: .int ib :: .ref (Y + 13) :: .ref (Y + 14) :: .ref (Y + 15) :: .ref (Y + 16) :: .ref (Y + 17) :: .int (nI tl) :: .int fa :: .int re :: .int ig :: .ref (Y + 18) :: .ref (Y + 19) :: .ref (Y + 20) :: .ref (Y + 21) :: []))).set (Y + 7) (aL 60 (zrF g7 60))) (by rw [List.set_comm _ _ (show (Y + 7) ≠ Y by omega), List.set_set]) ?_
                  obtain ⟨w1, ew1⟩ : ∃ wy : Wd, wy = ((w.set Y (.inr (11, .int (nI 0) :: .int st :: .ref (Y + 1) :: .ref (Y + 2) :: .ref (Y + 3) :: .ref (Y + 4) :: .int (nI pn) :: .ref (Y + 5) :: .ref (Y + 6) :: .ref (Y + 7) :: .int (-1) :: .ref (Y + 8) :: .int dd :: .ref (Y + 9) :: .ref (Y + 10) :: .ref (Y + 11) :: .ref (Y + 12) :: .int ld :: .int be :: .int ib :: .ref (Y + 13) :: .ref (Y + 14) :: .ref (Y + 15) :: .ref (Y + 16) :: .ref (Y + 17) :: .int (nI tl) :: .int fa :: .int re :: .int ig :: .ref (Y + 18) :: .ref (Y + 19) :: .ref (Y + 20) :: .ref (Y + 21) :: []))).set (Y + 7) (aL 60 (zrF g7 60))) := ⟨_, rfl⟩
                  refine GP.weq w1 ew1.symm ?_
                  have hM1 : mdC w1 Y tl tb fa st rf sh pn pk ps im := by rw [ew1]; exact ⟨⟨_, _, _, _, _, _, _, _, (lk_ne (show (Y + 7) ≠ Y by omega) (lk_eq hY))⟩, ⟨⟨_, (lk_ne (show (Y + 7) ≠ (Y + 1) by omega) (lk_ne (show Y ≠ (Y + 1) by omega) a1)), b1⟩, ⟨_, (lk_ne (show (Y + 7) ≠ (Y + 2) by omega) (lk_ne (show Y ≠ (Y + 2) by omega) a2)), b2⟩, ⟨_, _, (lk_ne (show (Y + 7) ≠ (Y + 3) by omega) (lk_ne (show Y ≠ (Y + 3) by omega) a3)), (lk_ne (show (Y + 7) ≠ (Y + 4) by omega) (lk_ne (show Y ≠ (Y + 4) by omega) a4)), b3, b4⟩, ⟨_, _, (lk_ne (show (Y + 7) ≠ (Y + 5) by omega) (lk_ne (show Y ≠ (Y + 5) by omega) a5)), (lk_ne (show (Y + 7) ≠ (Y + 6) by omega) (lk_ne (show Y ≠ (Y + 6) by omega) a6)), b5⟩, ⟨_, (lk_ne (show (Y + 7) ≠ (Y + 11) by omega) (lk_ne (show Y ≠ (Y + 11) by omega) a11)), b11⟩, ⟨_, (lk_ne (show (Y + 7) ≠ (Y + 17) by omega) (lk_ne (show Y ≠ (Y + 17) by omega) a17)), b17⟩⟩, ⟨_, _, _, _, _, _, _, _, _, _, _, (lk_eq (lk_ne (show Y ≠ (Y + 7) by omega) a7)), (lk_ne (show (Y + 7) ≠ (Y + 8) by omega) (lk_ne (show Y ≠ (Y + 8) by omega) a8)), (lk_ne (show (Y + 7) ≠ (Y + 9) by omega) (lk_ne (show Y ≠ (Y + 9) by omega) a9)), (lk_ne (show (Y + 7) ≠ (Y + 10) by omega) (lk_ne (show Y ≠ (Y + 10) by omega) a10)), (lk_ne (show (Y + 7) ≠ (Y + 12) by omega) (lk_ne (show Y ≠ (Y + 12) by omega) a12)), (lk_ne (show (Y + 7) ≠ (Y + 13) by omega) (lk_ne (show Y ≠ (Y + 13) by omega) a13)), (lk_ne (show (Y + 7) ≠ (Y + 14) by omega) (lk_ne (show Y ≠ (Y + 14) by omega) a14)), (lk_ne (show (Y + 7) ≠ (Y + 18) by omega) (lk_ne (show Y ≠ (Y + 18) by omega) a18)), (lk_ne (show (Y + 7) ≠ (Y + 19) by omega) (lk_ne (show Y ≠ (Y + 19) by omega) a19)), (lk_ne (show (Y + 7) ≠ (Y + 20) by omega) (lk_ne (show Y ≠ (Y + 20) by omega) a20)), (lk_ne (show (Y + 7) ≠ (Y + 21) by omega) (lk_ne (show Y ≠ (Y + 21) by omega) a21))⟩, ⟨_, _, (lk_ne (show (Y + 7) ≠ (Y + 15) by omega) (lk_ne (show Y ≠ (Y + 15) by omega) a15)), (lk_ne (show (Y + 7) ≠ (Y + 16) by omega) (lk_ne (show Y ≠ (Y + 16) by omega) a16)), b15⟩⟩
                  have hF1 : FR (modS Y) w w1 := by rw [ew1]; exact (FR.st (c' := aL 60 (zrF g7 60)) (FR.st (c' := .inr (11, .int (nI 0) :: .int st :: .ref (Y + 1) :: .ref (Y + 2) :: .ref (Y + 3) :: .ref (Y + 4) :: .int (nI pn) :: .ref (Y + 5) :: .ref (Y + 6) :: .ref (Y + 7) :: .int (-1) :: .ref (Y + 8) :: .int dd :: .ref (Y + 9) :: .ref (Y + 10) :: .ref (Y + 11) :: .ref (Y + 12) :: .int ld :: .int be :: .int ib :: .ref (Y + 13) :: .ref (Y + 14) :: .ref (Y + 15) :: .ref (Y + 16) :: .ref (Y + 17) :: .int (nI tl) :: .int fa :: .int re :: .int ig :: .ref (Y + 18) :: .ref (Y + 19) :: .ref (Y + 20) :: .ref (Y + 21) :: [])) FR.rf hY rfl (by unfold modS; omega)) (lk_ne (show Y ≠ (Y + 7) by omega) a7) rfl (by unfold modS; omega))
                  have c71 : w1[Y + 7]? = some (aL 60 (zrF g7 60)) := by rw [ew1]; exact (lk_eq (lk_ne (show Y ≠ (Y + 7) by omega) a7))
                  have cY1 : w1[Y]? = some (.inr (11, .int (nI 0) :: .int st :: .ref (Y + 1) :: .ref (Y + 2) :: .ref (Y + 3) :: .ref (Y + 4) :: .int (nI pn) :: .ref (Y + 5) :: .ref (Y + 6) :: .ref (Y + 7) :: .int (-1) :: .ref (Y + 8) :: .int dd :: .ref (Y + 9) :: .ref (Y + 10) :: .ref (Y + 11) :: .ref (Y + 12) :: .int ld :: .int be :: .int ib :: .ref (Y + 13) :: .ref (Y + 14) :: .ref (Y + 15) :: .ref (Y + 16) :: .ref (Y + 17) :: .int (nI tl) :: .int fa :: .int re :: .int ig :: .ref (Y + 18) :: .ref (Y + 19) :: .ref (Y + 20) :: .ref (Y + 21) :: [])) := by rw [ew1]; exact (lk_ne (show (Y + 7) ≠ Y by omega) (lk_eq hY))
                  obtain ⟨⟨th1, dg1, dd1, ld1, be1, ib1, re1, ig1, hY1⟩, ⟨⟨g11, a11, b11⟩, ⟨g21, a21, b21⟩, ⟨g31, g41, a31, a41, b31, b41⟩, ⟨g51, g61, a51, a61, b51⟩, ⟨g111, a111, b111⟩, ⟨g171, a171, b171⟩⟩, ⟨g71, g81, g91, g101, g121, g131, g141, g181, g191, g201, g211, a71, a81, a91, a101, a121, a131, a141, a181, a191, a201, a211⟩, ⟨g151, g161, a151, a161, b151⟩⟩ := id hM1
                  refine g_iconst (pc := 54) (v := nI 0) dX12_plus__54 (by decide) ?_
                  refine g_istore (pc := 55) [(5, .int (nI 0)), (0, .ref Y), (1, .int x), (2, .int (nI i)), (3, .int (nI j)), (4, .int (nI k))] dX12_plus__55 (by decide) rfl ?_
                  refine GP.weq (w1.set (Y + 7) (aL 60 (zrF g7 60))) (set_same c71).symm ?_
                  refine GP.lsub _ (by simp) (plu_fill (k := k) cY1 a21 b21 hi hj hx2 c71 (fun h hh => ?_) 13 0 _ rfl (fun j hj => by rw [zrF_t hj, if_neg (Nat.not_lt_zero _)]; rfl))
                  refine g_aload_n (pc := 108) 4 dX12_plus__108 rfl rfl ?_
                  refine g_iload (pc := 109) 0 dX12_plus__109 rfl ?_
                  refine g_iconst (pc := 111) (v := nI 3) dX12_plus__111 (by decide) ?_
                  obtain ⟨wp, ewp⟩ : ∃ wy : Wd, wy = (w1.set (Y + 7) (aL 60 h)) := ⟨_, rfl⟩
                  refine GP.weq wp ewp.symm ?_
                  have hMp : mdC wp Y tl tb fa st rf sh pn pk ps im := by rw [ewp]; exact ⟨⟨_, _, _, _, _, _, _, _, (lk_ne (show (Y + 7) ≠ Y by omega) cY1)⟩, ⟨⟨_, (lk_ne (show (Y + 7) ≠ (Y + 1) by omega) a11), b11⟩, ⟨_, (lk_ne (show (Y + 7) ≠ (Y + 2) by omega) a21), b21⟩, ⟨_, _, (lk_ne (show (Y + 7) ≠ (Y + 3) by omega) a31), (lk_ne (show (Y + 7) ≠ (Y + 4) by omega) a41), b31, b41⟩, ⟨_, _, (lk_ne (show (Y + 7) ≠ (Y + 5) by omega) a51), (lk_ne (show (Y + 7) ≠ (Y + 6) by omega) a61), b51⟩, ⟨_, (lk_ne (show (Y + 7) ≠ (Y + 11) by omega) a111), b111⟩, ⟨_, (lk_ne (show (Y + 7) ≠ (Y + 17) by omega) a171), b171⟩⟩, ⟨_, _, _, _, _, _, _, _, _, _, _, (lk_eq c71), (lk_ne (show (Y + 7) ≠ (Y + 8) by omega) a81), (lk_ne (show (Y + 7) ≠ (Y + 9) by omega) a91), (lk_ne (show (Y + 7) ≠ (Y + 10) by omega) a101), (lk_ne (show (Y + 7) ≠ (Y + 12) by omega) a121), (lk_ne (show (Y + 7) ≠ (Y + 13) by omega) a131), (lk_ne (show (Y + 7) ≠ (Y + 14) by omega) a141), (lk_ne (show (Y + 7) ≠ (Y + 18) by omega) a181), (lk_ne (show (Y + 7) ≠ (Y + 19) by omega) a191), (lk_ne (show (Y + 7) ≠ (Y + 20) by omega) a201), (lk_ne (show (Y + 7) ≠ (Y + 21) by omega) a211)⟩, ⟨_, _, (lk_ne (show (Y + 7) ≠ (Y + 15) by omega) a151), (lk_ne (show (Y + 7) ≠ (Y + 16) by omega) a161), b151⟩⟩
                  have hFp : FR (modS Y) w1 wp := by rw [ewp]; exact (FR.st (c' := aL 60 h) FR.rf c71 rfl (by unfold modS; omega))
                  have c7p : wp[Y + 7]? = some (aL 60 h) := by rw [ewp]; exact (lk_eq c71)
                  have cYp : wp[Y]? = some (.inr (11, .int (nI 0) :: .int st :: .ref (Y + 1) :: .ref (Y + 2) :: .ref (Y + 3) :: .ref (Y + 4) :: .int (nI pn) :: .ref (Y + 5) :: .ref (Y + 6) :: .ref (Y + 7) :: .int (-1) :: .ref (Y + 8) :: .int dd :: .ref (Y + 9) :: .ref (Y + 10) :: .ref (Y + 11) :: .ref (Y + 12) :: .int ld :: .int be :: .int ib :: .ref (Y + 13) :: .ref (Y + 14) :: .ref (Y + 15) :: .ref (Y + 16) :: .ref (Y + 17) :: .int (nI tl) :: .int fa :: .int re :: .int ig :: .ref (Y + 18) :: .ref (Y + 19) :: .ref (Y + 20) :: .ref (Y + 21) :: [])) := by rw [ewp]; exact (lk_ne (show (Y + 7) ≠ Y by omega) cY1)
                  refine g_callV (pc := 112) [.int (nI k), .int (nI 3)] dX12_plus__112 cv_X12_286.1 cv_X12_286.2.1 cv_X12_286.2.2.1 cv_X12_286.2.2.2 cYp rfl rfl (Nat.le_of_ble_eq_true rfl) (by decide) (by decide) (mq_put _ hMp (kd := 3) (k := k) (F := fun t => (sh.1 i).2 t + if x = nI 0 then (sh.1 j).2 t else -(sh.1 j).2 t) c7p (fun t ht => by rw [hh t ht]; exact pl_cut b2 hi hj) (fun t a _ => pl_zz b2 hi hj (by omega)) hk) ?_
                  rintro rz wq hR
                  obtain ⟨vz, rfl⟩ : ∃ vz, rz = some (.int vz) := putM_int hR
                  exact g_iret (pc := 115) dX12_plus__115 (Or.inr (Or.inr ⟨i, j, k, hx2, rfl, hi, rfl, hj, rfl, hk, (putM.fr hR (hF1.tr hFp))⟩))
                · exact absurd hd9 (by decide)
              · refine GP.weq _ e9 ?_
                refine n_if_ne (pc := 40) 50 dX12_plus__40 (by decide) (by omega) (fun hd9 => ?_) (fun hd9 => ?_)
                · exact absurd rfl hd9
                · refine g_aload_n (pc := 43) 0 dX12_plus__43 rfl rfl ?_
                  refine g_bipush (pc := 44) (v := -2) dX12_plus__44 (by decide) ?_
                  obtain ⟨wr, ewr⟩ : ∃ wy : Wd, wy = (w.set Y (.inr (11, .int (nI 0) :: .int st :: .ref (Y + 1) :: .ref (Y + 2) :: .ref (Y + 3) :: .ref (Y + 4) :: .int (nI pn) :: .ref (Y + 5) :: .ref (Y + 6) :: .ref (Y + 7) :: .int dg :: .ref (Y + 8) :: .int dd :: .ref (Y + 9) :: .ref (Y + 10) :: .ref (Y + 11) :: .ref (Y + 12) :: .int ld :: .int be :: .int ib :: .ref (Y + 13) :: .ref (Y + 14) :: .ref (Y + 15) :: .ref (Y + 16) :: .ref (Y + 17) :: .int (nI tl) :: .int fa :: .int re :: .int ig :: .ref (Y + 18) :: .ref (Y + 19) :: .ref (Y + 20) :: .ref (Y + 21) :: []))) := ⟨_, rfl⟩
                  refine GP.weq wr ewr.symm ?_
                  have hMr : mdC wr Y tl tb fa st rf sh pn pk ps im := by rw [ewr]; exact ⟨⟨_, _, _, _, _, _, _, _, (lk_eq hY)⟩, ⟨⟨_, (lk_ne (show Y ≠ (Y + 1) by omega) a1), b1⟩, ⟨_, (lk_ne (show Y ≠ (Y + 2) by omega) a2), b2⟩, ⟨_, _, (lk_ne (show Y ≠ (Y + 3) by omega) a3), (lk_ne (show Y ≠ (Y + 4) by omega) a4), b3, b4⟩, ⟨_, _, (lk_ne (show Y ≠ (Y + 5) by omega) a5), (lk_ne (show Y ≠ (Y + 6) by omega) a6), b5⟩, ⟨_, (lk_ne (show Y ≠ (Y + 11) by omega) a11), b11⟩, ⟨_, (lk_ne (show Y ≠ (Y + 17) by omega) a17), b17⟩⟩, ⟨_, _, _, _, _, _, _, _, _, _, _, (lk_ne (show Y ≠ (Y + 7) by omega) a7), (lk_ne (show Y ≠ (Y + 8) by omega) a8), (lk_ne (show Y ≠ (Y + 9) by omega) a9), (lk_ne (show Y ≠ (Y + 10) by omega) a10), (lk_ne (show Y ≠ (Y + 12) by omega) a12), (lk_ne (show Y ≠ (Y + 13) by omega) a13), (lk_ne (show Y ≠ (Y + 14) by omega) a14), (lk_ne (show Y ≠ (Y + 18) by omega) a18), (lk_ne (show Y ≠ (Y + 19) by omega) a19), (lk_ne (show Y ≠ (Y + 20) by omega) a20), (lk_ne (show Y ≠ (Y + 21) by omega) a21)⟩, ⟨_, _, (lk_ne (show Y ≠ (Y + 15) by omega) a15), (lk_ne (show Y ≠ (Y + 16) by omega) a16), b15⟩⟩
                  have hFr : FR (modS Y) w wr := by rw [ewr]; exact (FR.st (c' := .inr (11, .int (nI 0) :: .int st :: .ref (Y + 1) :: .ref (Y + 2) :: .ref (Y + 3) :: .ref (Y + 4) :: .int (nI pn) :: .ref (Y + 5) :: .ref (Y + 6) :: .ref (Y + 7) :: .int dg :: .ref (Y + 8) :: .int dd :: .ref (Y + 9) :: .ref (Y + 10) :: .ref (Y + 11) :: .ref (Y + 12) :: .int ld :: .int be :: .int ib :: .ref (Y + 13) :: .ref (Y + 14) :: .ref (Y + 15) :: .ref (Y + 16) :: .ref (Y + 17) :: .int (nI tl) :: .int fa :: .int re :: .int ig :: .ref (Y + 18) :: .ref (Y + 19) :: .ref (Y + 20) :: .ref (Y + 21) :: [])) FR.rf hY rfl (by unfold modS; omega))
                  refine g_callV (pc := 46) [.int (-2)] dX12_plus__46 cv_X12_96.1 cv_X12_96.2.1 cv_X12_96.2.2.1 cv_X12_96.2.2.2 (by rw [ewr]; exact (lk_eq hY)) rfl rfl (Nat.le_of_ble_eq_true rfl) (by decide) (by decide) (mq_refuse2 _ hMr) ?_
                  rintro _ wq ⟨rfl, hR⟩
                  exact g_iret (pc := 49) dX12_plus__49 (Or.inr (Or.inl ⟨hx2, fun g => hpk g.2.2, ⟨rfl, hR.1, hFr.tr hR.2⟩⟩))
          · refine GP.weq _ e9 ?_
            refine n_if_eq (pc := 32) 43 dX12_plus__32 (by decide) (by omega) (fun hd9 => ?_) (fun hd9 => ?_)
            · refine g_aload_n (pc := 43) 0 dX12_plus__43 rfl rfl ?_
              refine g_bipush (pc := 44) (v := -2) dX12_plus__44 (by decide) ?_
              obtain ⟨wr, ewr⟩ : ∃ wy : Wd, wy = (w.set Y (.inr (11, .int (nI 0) :: .int st :: .ref (Y + 1) :: .ref (Y + 2) :: .ref (Y + 3) :: .ref (Y + 4) :: .int (nI pn) :: .ref (Y + 5) :: .ref (Y + 6) :: .ref (Y + 7) :: .int dg :: .ref (Y + 8) :: .int dd :: .ref (Y + 9) :: .ref (Y + 10) :: .ref (Y + 11) :: .ref (Y + 12) :: .int ld :: .int be :: .int ib :: .ref (Y + 13) :: .ref (Y + 14) :: .ref (Y + 15) :: .ref (Y + 16) :: .ref (Y + 17) :: .int (nI tl) :: .int fa :: .int re :: .int ig :: .ref (Y + 18) :: .ref (Y + 19) :: .ref (Y + 20) :: .ref (Y + 21) :: []))) := ⟨_, rfl⟩
              refine GP.weq wr ewr.symm ?_
              have hMr : mdC wr Y tl tb fa st rf sh pn pk ps im := by rw [ewr]; exact ⟨⟨_, _, _, _, _, _, _, _, (lk_eq hY)⟩, ⟨⟨_, (lk_ne (show Y ≠ (Y + 1) by omega) a1), b1⟩, ⟨_, (lk_ne (show Y ≠ (Y + 2) by omega) a2), b2⟩, ⟨_, _, (lk_ne (show Y ≠ (Y + 3) by omega) a3), (lk_ne (show Y ≠ (Y + 4) by omega) a4), b3, b4⟩, ⟨_, _, (lk_ne (show Y ≠ (Y + 5) by omega) a5), (lk_ne (show Y ≠ (Y + 6) by omega) a6), b5⟩, ⟨_, (lk_ne (show Y ≠ (Y + 11) by omega) a11), b11⟩, ⟨_, (lk_ne (show Y ≠ (Y + 17) by omega) a17), b17⟩⟩, ⟨_, _, _, _, _, _, _, _, _, _, _, (lk_ne (show Y ≠ (Y + 7) by omega) a7), (lk_ne (show Y ≠ (Y + 8) by omega) a8), (lk_ne (show Y ≠ (Y + 9) by omega) a9), (lk_ne (show Y ≠ (Y + 10) by omega) a10), (lk_ne (show Y ≠ (Y + 12) by omega) a12), (lk_ne (show Y ≠ (Y + 13) by omega) a13), (lk_ne (show Y ≠ (Y + 14) by omega) a14), (lk_ne (show Y ≠ (Y + 18) by omega) a18), (lk_ne (show Y ≠ (Y + 19) by omega) a19), (lk_ne (show Y ≠ (Y + 20) by omega) a20), (lk_ne (show Y ≠ (Y + 21) by omega) a21)⟩, ⟨_, _, (lk_ne (show Y ≠ (Y + 15) by omega) a15), (lk_ne (show Y ≠ (Y + 16) by omega) a16), b15⟩⟩
              have hFr : FR (modS Y) w wr := by rw [ewr]; exact (FR.st (c' := .inr (11, .int (nI 0) :: .int st :: .ref (Y + 1) :: .ref (Y + 2) :: .ref (Y + 3) :: .ref (Y + 4) :: .int (nI pn) :: .ref (Y + 5) :: .ref (Y + 6) :: .ref (Y + 7) :: .int dg :: .ref (Y + 8) :: .int dd :: .ref (Y + 9) :: .ref (Y + 10) :: .ref (Y + 11) :: .ref (Y + 12) :: .int ld :: .int be :: .int ib :: .ref (Y + 13) :: .ref (Y + 14) :: .ref (Y + 15) :: .ref (Y + 16) :: .ref (Y + 17) :: .int (nI tl) :: .int fa :: .int re :: .int ig :: .ref (Y + 18) :: .ref (Y + 19) :: .ref (Y + 20) :: .ref (Y + 21) :: [])) FR.rf hY rfl (by unfold modS; omega))
              refine g_callV (pc := 46) [.int (-2)] dX12_plus__46 cv_X12_96.1 cv_X12_96.2.1 cv_X12_96.2.2.1 cv_X12_96.2.2.2 (by rw [ewr]; exact (lk_eq hY)) rfl rfl (Nat.le_of_ble_eq_true rfl) (by decide) (by decide) (mq_refuse2 _ hMr) ?_
              rintro _ wq ⟨rfl, hR⟩
              exact g_iret (pc := 49) dX12_plus__49 (Or.inr (Or.inl ⟨hx2, fun g => hpj g.2.1, ⟨rfl, hR.1, hFr.tr hR.2⟩⟩))
            · exact absurd rfl hd9
      · refine GP.weq _ e9 ?_
        refine n_if_eq (pc := 25) 43 dX12_plus__25 (by decide) (by omega) (fun hd9 => ?_) (fun hd9 => ?_)
        · refine g_aload_n (pc := 43) 0 dX12_plus__43 rfl rfl ?_
          refine g_bipush (pc := 44) (v := -2) dX12_plus__44 (by decide) ?_
          obtain ⟨wr, ewr⟩ : ∃ wy : Wd, wy = (w.set Y (.inr (11, .int (nI 0) :: .int st :: .ref (Y + 1) :: .ref (Y + 2) :: .ref (Y + 3) :: .ref (Y + 4) :: .int (nI pn) :: .ref (Y + 5) :: .ref (Y + 6) :: .ref (Y + 7) :: .int dg :: .ref (Y + 8) :: .int dd :: .ref (Y + 9) :: .ref (Y + 10) :: .ref (Y + 11) :: .ref (Y + 12) :: .int ld :: .int be :: .int ib :: .ref (Y + 13) :: .ref (Y + 14) :: .ref (Y + 15) :: .ref (Y + 16) :: .ref (Y + 17) :: .int (nI tl) :: .int fa :: .int re :: .int ig :: .ref (Y + 18) :: .ref (Y + 19) :: .ref (Y + 20) :: .ref (Y + 21) :: []))) := ⟨_, rfl⟩
          refine GP.weq wr ewr.symm ?_
          have hMr : mdC wr Y tl tb fa st rf sh pn pk ps im := by rw [ewr]; exact ⟨⟨_, _, _, _, _, _, _, _, (lk_eq hY)⟩, ⟨⟨_, (lk_ne (show Y ≠ (Y + 1) by omega) a1), b1⟩, ⟨_, (lk_ne (show Y ≠ (Y + 2) by omega) a2), b2⟩, ⟨_, _, (lk_ne (show Y ≠ (Y + 3) by omega) a3), (lk_ne (show Y ≠ (Y + 4) by omega) a4), b3, b4⟩, ⟨_, _, (lk_ne (show Y ≠ (Y + 5) by omega) a5), (lk_ne (show Y ≠ (Y + 6) by omega) a6), b5⟩, ⟨_, (lk_ne (show Y ≠ (Y + 11) by omega) a11), b11⟩, ⟨_, (lk_ne (show Y ≠ (Y + 17) by omega) a17), b17⟩⟩, ⟨_, _, _, _, _, _, _, _, _, _, _, (lk_ne (show Y ≠ (Y + 7) by omega) a7), (lk_ne (show Y ≠ (Y + 8) by omega) a8), (lk_ne (show Y ≠ (Y + 9) by omega) a9), (lk_ne (show Y ≠ (Y + 10) by omega) a10), (lk_ne (show Y ≠ (Y + 12) by omega) a12), (lk_ne (show Y ≠ (Y + 13) by omega) a13), (lk_ne (show Y ≠ (Y + 14) by omega) a14), (lk_ne (show Y ≠ (Y + 18) by omega) a18), (lk_ne (show Y ≠ (Y + 19) by omega) a19), (lk_ne (show Y ≠ (Y + 20) by omega) a20), (lk_ne (show Y ≠ (Y + 21) by omega) a21)⟩, ⟨_, _, (lk_ne (show Y ≠ (Y + 15) by omega) a15), (lk_ne (show Y ≠ (Y + 16) by omega) a16), b15⟩⟩
          have hFr : FR (modS Y) w wr := by rw [ewr]; exact (FR.st (c' := .inr (11, .int (nI 0) :: .int st :: .ref (Y + 1) :: .ref (Y + 2) :: .ref (Y + 3) :: .ref (Y + 4) :: .int (nI pn) :: .ref (Y + 5) :: .ref (Y + 6) :: .ref (Y + 7) :: .int dg :: .ref (Y + 8) :: .int dd :: .ref (Y + 9) :: .ref (Y + 10) :: .ref (Y + 11) :: .ref (Y + 12) :: .int ld :: .int be :: .int ib :: .ref (Y + 13) :: .ref (Y + 14) :: .ref (Y + 15) :: .ref (Y + 16) :: .ref (Y + 17) :: .int (nI tl) :: .int fa :: .int re :: .int ig :: .ref (Y + 18) :: .ref (Y + 19) :: .ref (Y + 20) :: .ref (Y + 21) :: [])) FR.rf hY rfl (by unfold modS; omega))
          refine g_callV (pc := 46) [.int (-2)] dX12_plus__46 cv_X12_96.1 cv_X12_96.2.1 cv_X12_96.2.2.1 cv_X12_96.2.2.2 (by rw [ewr]; exact (lk_eq hY)) rfl rfl (Nat.le_of_ble_eq_true rfl) (by decide) (by decide) (mq_refuse2 _ hMr) ?_
          rintro _ wq ⟨rfl, hR⟩
          exact g_iret (pc := 49) dX12_plus__49 (Or.inr (Or.inl ⟨hx2, fun g => hpi g.1, ⟨rfl, hR.1, hFr.tr hR.2⟩⟩))
        · exact absurd rfl hd9
    · exact absurd hd9 (by decide)
  · refine GP.weq _ e9 ?_
    rw [IL, L1, L00] at hx
    refine n_if_ne (pc := 12) 21 dX12_plus__12 (by decide) (by omega) (fun hd9 => ?_) (fun hd9 => ?_)
    · exact absurd rfl hd9
    · refine g_aload_n (pc := 15) 0 dX12_plus__15 rfl rfl ?_
      refine g_iconst (pc := 16) (v := -1) dX12_plus__16 (by decide) ?_
      obtain ⟨wr, ewr⟩ : ∃ wy : Wd, wy = (w.set Y (.inr (11, .int (nI 0) :: .int st :: .ref (Y + 1) :: .ref (Y + 2) :: .ref (Y + 3) :: .ref (Y + 4) :: .int (nI pn) :: .ref (Y + 5) :: .ref (Y + 6) :: .ref (Y + 7) :: .int dg :: .ref (Y + 8) :: .int dd :: .ref (Y + 9) :: .ref (Y + 10) :: .ref (Y + 11) :: .ref (Y + 12) :: .int ld :: .int be :: .int ib :: .ref (Y + 13) :: .ref (Y + 14) :: .ref (Y + 15) :: .ref (Y + 16) :: .ref (Y + 17) :: .int (nI tl) :: .int fa :: .int re :: .int ig :: .ref (Y + 18) :: .ref (Y + 19) :: .ref (Y + 20) :: .ref (Y + 21) :: []))) := ⟨_, rfl⟩
      refine GP.weq wr ewr.symm ?_
      have hMr : mdC wr Y tl tb fa st rf sh pn pk ps im := by rw [ewr]; exact ⟨⟨_, _, _, _, _, _, _, _, (lk_eq hY)⟩, ⟨⟨_, (lk_ne (show Y ≠ (Y + 1) by omega) a1), b1⟩, ⟨_, (lk_ne (show Y ≠ (Y + 2) by omega) a2), b2⟩, ⟨_, _, (lk_ne (show Y ≠ (Y + 3) by omega) a3), (lk_ne (show Y ≠ (Y + 4) by omega) a4), b3, b4⟩, ⟨_, _, (lk_ne (show Y ≠ (Y + 5) by omega) a5), (lk_ne (show Y ≠ (Y + 6) by omega) a6), b5⟩, ⟨_, (lk_ne (show Y ≠ (Y + 11) by omega) a11), b11⟩, ⟨_, (lk_ne (show Y ≠ (Y + 17) by omega) a17), b17⟩⟩, ⟨_, _, _, _, _, _, _, _, _, _, _, (lk_ne (show Y ≠ (Y + 7) by omega) a7), (lk_ne (show Y ≠ (Y + 8) by omega) a8), (lk_ne (show Y ≠ (Y + 9) by omega) a9), (lk_ne (show Y ≠ (Y + 10) by omega) a10), (lk_ne (show Y ≠ (Y + 12) by omega) a12), (lk_ne (show Y ≠ (Y + 13) by omega) a13), (lk_ne (show Y ≠ (Y + 14) by omega) a14), (lk_ne (show Y ≠ (Y + 18) by omega) a18), (lk_ne (show Y ≠ (Y + 19) by omega) a19), (lk_ne (show Y ≠ (Y + 20) by omega) a20), (lk_ne (show Y ≠ (Y + 21) by omega) a21)⟩, ⟨_, _, (lk_ne (show Y ≠ (Y + 15) by omega) a15), (lk_ne (show Y ≠ (Y + 16) by omega) a16), b15⟩⟩
      have hFr : FR (modS Y) w wr := by rw [ewr]; exact (FR.st (c' := .inr (11, .int (nI 0) :: .int st :: .ref (Y + 1) :: .ref (Y + 2) :: .ref (Y + 3) :: .ref (Y + 4) :: .int (nI pn) :: .ref (Y + 5) :: .ref (Y + 6) :: .ref (Y + 7) :: .int dg :: .ref (Y + 8) :: .int dd :: .ref (Y + 9) :: .ref (Y + 10) :: .ref (Y + 11) :: .ref (Y + 12) :: .int ld :: .int be :: .int ib :: .ref (Y + 13) :: .ref (Y + 14) :: .ref (Y + 15) :: .ref (Y + 16) :: .ref (Y + 17) :: .int (nI tl) :: .int fa :: .int re :: .int ig :: .ref (Y + 18) :: .ref (Y + 19) :: .ref (Y + 20) :: .ref (Y + 21) :: [])) FR.rf hY rfl (by unfold modS; omega))
      refine g_callV (pc := 17) [.int (-1)] dX12_plus__17 cv_X12_96.1 cv_X12_96.2.1 cv_X12_96.2.2.1 cv_X12_96.2.2.2 (by rw [ewr]; exact (lk_eq hY)) rfl rfl (Nat.le_of_ble_eq_true rfl) (by decide) (by decide) (mq_refuse1 _ hMr) ?_
      rintro _ wq ⟨rfl, hR⟩
      exact g_iret (pc := 20) dX12_plus__20 (Or.inl ⟨hx, ⟨rfl, hR.1, hFr.tr hR.2⟩⟩)
abbrev BX12_take_ (w0 : Wd) (Post : Option Value → Wd → Prop) (w : Wd) (pc : Nat) (ls : List (Nat × Value)) (st : List Value) : Prop := GP "take" RX12 cX12_take_ 4 (some .int) 3 117 none w0 Post w pc ls st
abbrev EX12_take_ (As : List Value) (w : Wd) (Post : Option Value → Wd → Prop) : Prop := EP yX12_take_ cX12_take_ 4 (some .int) 3 As w Post
theorem tak_fill {w0 w : Wd} {Y : Nat} {h7 : Nat → Int64} {th st nu dg dd ld be ib ta fa re ig : Int32} {g2 : Nat → Int32} {V : SV} {i k : Nat} (hY : w[Y]? = some (oM Y th st nu dg dd ld be ib ta fa re ig)) (a2 : w[Y + 2]? = some (aI 0 626 g2)) (hV : rowR g2 V) (hi : i < V.2.2.2.2.2.1) (hi30 : i < 30) (a7 : w[Y + 7]? = some (aL 60 h7)) {Q : Option Value → Wd → Prop} (K : ∀ h : Nat → Int64, (∀ q9, q9 < 60 → (h q9).toInt = if q9 < 13 then V.2.2.2.2.2.2 (i * 16 + q9) else 0) → BX12_take_ w0 Q (w.set (Y + 7) (aL 60 h)) 68 [(2, .int (nI k)), (1, .int (nI i)), (0, .ref Y)] []) : ∀ (z p : Nat) (h : Nat → Int64), 13 = p + z → (∀ q9, q9 < 60 → (h q9).toInt = if q9 < p then V.2.2.2.2.2.2 (i * 16 + q9) else 0) → BX12_take_ w0 Q (w.set (Y + 7) (aL 60 h)) 33 [(3, .int (nI p)), (2, .int (nI k)), (1, .int (nI i)), (0, .ref Y)] [] := by
  intro z
  induction z with
  | zero =>
    intro p h hz hh
    refine g_iload_n (pc := 33) 0 dX12_take__33 rfl rfl ?_
    refine g_bipush (pc := 34) (v := nI 12) dX12_take__34 (by decide) ?_
    refine n_icmp_gt (pc := 36) 68 dX12_take__36 (by decide) (by omega) (by omega) (fun hb9 => ?_) (fun hb9 => ?_)
    · have e9 : p = 13 := by omega
      subst e9
      exact GP.lsub _ (by simp) (K h hh)
    · exact absurd hb9 (by omega)
  | succ z ih =>
    intro p h hz hh
    refine g_iload_n (pc := 33) 0 dX12_take__33 rfl rfl ?_
    refine g_bipush (pc := 34) (v := nI 12) dX12_take__34 (by decide) ?_
    refine n_icmp_gt (pc := 36) 68 dX12_take__36 (by decide) (by omega) (by omega) (fun hb9 => ?_) (fun hb9 => ?_)
    · exact absurd hb9 (by omega)
    · refine g_aload_n (pc := 39) 3 dX12_take__39 rfl rfl ?_
      refine g_get (pc := 40) dX12_take__40 fk_X12_29 (lk_ne (show (Y + 7) ≠ Y by omega) hY) rfl ?_
      refine g_iload_n (pc := 43) 0 dX12_take__43 rfl rfl ?_
      refine g_aload_n (pc := 44) 3 dX12_take__44 rfl rfl ?_
      refine g_get (pc := 45) dX12_take__45 fk_X12_13 (lk_ne (show (Y + 7) ≠ Y by omega) hY) rfl ?_
      refine g_bipush (pc := 48) (v := nI 116) dX12_take__48 (by decide) ?_
      refine g_bipush (pc := 50) (v := nI 17) dX12_take__50 (by decide) ?_
      refine g_iload_n (pc := 52) 2 dX12_take__52 rfl rfl ?_
      refine n_imul (pc := 53) dX12_take__53 ?_
      refine n_iadd (pc := 54) dX12_take__54 ?_
      refine g_iconst (pc := 55) (v := nI 1) dX12_take__55 (by decide) ?_
      refine n_iadd (pc := 56) dX12_take__56 ?_
      refine g_iload_n (pc := 57) 0 dX12_take__57 rfl rfl ?_
      refine n_iadd (pc := 58) dX12_take__58 ?_
      refine g_iald (pc := 59) (((116 + (17 * i)) + 1) + p) dX12_take__59 (lk_ne (show (Y + 7) ≠ (Y + 2) by omega) a2) (IXn (by omega) (by omega)) ?_
      refine g_i2l (pc := 60) dX12_take__60 ?_
      refine g_last (pc := 61) p dX12_take__61 (lk_eq a7) (IXn (by omega) (by omega)) ?_
      refine GP.weq (w.set (Y + 7) (aL 60 (vp_updL h p ((g2 (((116 + (17 * i)) + 1) + p)).toInt64)))) (by rw [List.set_set]) ?_
      refine n_iinc (pc := 62) (c := 1) [(3, .int (nI (p + 1))), (2, .int (nI k)), (1, .int (nI i)), (0, .ref Y)] 0 dX12_take__62 rfl (by decide) (by decide) rfl ?_
      refine g_goto (pc := 65) 33 dX12_take__65 (by decide) ?_
      refine GP.lsub _ (by simp) (ih (p + 1) _ (by omega) (fun q9 hq9 => ?_))
      by_cases e : q9 = p
      · rw [e, upL_s, if_pos (show p < p + 1 by omega)]
        rw [IL]; exact (hV.2.2.2 i hi).2.1 p (by omega)
      · rw [upL_n e, hh q9 hq9]
        by_cases e2 : q9 < p
        · rw [if_pos e2, if_pos (show q9 < p + 1 by omega)]
        · rw [if_neg e2, if_neg (show ¬ q9 < p + 1 by omega)]
theorem tk_cut {g : Nat → Int32} {V : SV} {i t : Nat} (hV : rowR g V) (hi : i < V.2.2.2.2.2.1) : (if t < 13 then V.2.2.2.2.2.2 (i * 16 + t) else 0) = if t ≤ V.2.1 then V.2.2.2.2.2.2 (i * 16 + t) else 0 := by
  obtain ⟨-, -, ⟨h12, -⟩, h⟩ := hV
  by_cases e : t ≤ V.2.1
  · rw [if_pos (by omega), if_pos e]
  · rw [if_neg e]
    by_cases e2 : t < 13
    · rw [if_pos e2]
      exact (h i hi).2.2 t (by omega) e2
    · rw [if_neg e2]
theorem mq_take (w : Wd) {Y tl : Nat} {tb : Nat → Int32} {fa st : Int32} {rf : Nat → Nat} {sh : SV} {pn : Nat} {pk : Nat → Nat} {ps : Nat → SV} {im : Nat → Option SV} (hM : mdC w Y tl tb fa st rf sh pn pk ps im) {x z : Int32} : EX12_take_ [.ref Y, .int x, .int z] w (fun r w' => (¬ (0 ≤ x.toInt ∧ x.toInt < sh.2.2.2.2.2.1 ∧ isPl z) ∧ rfM (-2) 1 w Y tl tb fa rf sh pn pk ps im r w') ∨ (∃ i k, x = nI i ∧ i < sh.2.2.2.2.2.1 ∧ z = nI k ∧ k < 8 ∧ putM (fun t => if t ≤ sh.2.1 then sh.2.2.2.2.2.2 (i * 16 + t) else 0) 8 k w Y tl tb fa rf sh pn pk ps im r w')) := by
  refine EP.of (plainFor_of_name (by decide)) [(0, .ref Y), (1, .int x), (2, .int z)] rfl (Nat.le_of_ble_eq_true rfl) (fun r wf h => by rcases h with ⟨-, rfl, -⟩ | ⟨i, k, -, -, -, -, h⟩; trivial; obtain ⟨v, rfl⟩ := putM_int h; trivial) ?_
  show BX12_take_ w _ w 0 [(0, .ref Y), (1, .int x), (2, .int z)] []
  obtain ⟨⟨th, dg, dd, ld, be, ib, re, ig, hY⟩, ⟨⟨g1, a1, b1⟩, ⟨g2, a2, b2⟩, ⟨g3, g4, a3, a4, b3, b4⟩, ⟨g5, g6, a5, a6, b5⟩, ⟨g11, a11, b11⟩, ⟨g17, a17, b17⟩⟩, ⟨g7, g8, g9, g10, g12, g13, g14, g18, g19, g20, g21, a7, a8, a9, a10, a12, a13, a14, a18, a19, a20, a21⟩, ⟨g15, g16, a15, a16, b15⟩⟩ := id hM
  refine g_aload_n (pc := 0) 0 dX12_take__0 rfl rfl ?_
  refine g_iconst (pc := 1) (v := nI 0) dX12_take__1 (by decide) ?_
  refine g_put (pc := 2) (.int (nI 0) :: .int st :: .ref (Y + 1) :: .ref (Y + 2) :: .ref (Y + 3) :: .ref (Y + 4) :: .int (nI pn) :: .ref (Y + 5) :: .ref (Y + 6) :: .ref (Y + 7) :: .int dg :: .ref (Y + 8) :: .int dd :: .ref (Y + 9) :: .ref (Y + 10) :: .ref (Y + 11) :: .ref (Y + 12) :: .int ld :: .int be :: .int ib :: .ref (Y + 13) :: .ref (Y + 14) :: .ref (Y + 15) :: .ref (Y + 16) :: .ref (Y + 17) :: .int (nI tl) :: .int fa :: .int re :: .int ig :: .ref (Y + 18) :: .ref (Y + 19) :: .ref (Y + 20) :: .ref (Y + 21) :: []) dX12_take__2 fk_X12_83 hY (Nat.le_of_ble_eq_true rfl) rfl rfl ?_
  refine g_aload_n (pc := 5) 0 dX12_take__5 rfl rfl ?_
  refine g_iload_n (pc := 6) 1 dX12_take__6 rfl rfl ?_
  obtain ⟨-, -, ⟨hd12, hk30, -⟩, hfo⟩ := id b2
  refine g_callV (pc := 7) [.int x] dX12_take__7 cv_X12_332.1 cv_X12_332.2.1 cv_X12_332.2.2.1 cv_X12_332.2.2.2 (lk_eq hY) rfl rfl (Nat.le_of_ble_eq_true rfl) (by decide) (by decide) (mp_isFound _ (lk_eq hY) (lk_ne (show Y ≠ (Y + 2) by omega) a2) b2) ?_
  rintro _ w9 (⟨rfl, hx, e9⟩ | ⟨rfl, hx, e9⟩)
  · refine GP.weq _ e9 ?_
    obtain ⟨i, rfl, hi⟩ : ∃ i, x = nI i ∧ i < sh.2.2.2.2.2.1 := ⟨x.toInt.toNat, nI_toNat hx.1, by omega⟩
    refine n_if_eq (pc := 10) 20 dX12_take__10 (by decide) (by omega) (fun hd9 => ?_) (fun hd9 => ?_)
    · exact absurd hd9 (by decide)
    · refine g_iload_n (pc := 13) 2 dX12_take__13 rfl rfl ?_
      refine g_callS (pc := 14) [.int z] dX12_take__14 cs_X12_277.1 cs_X12_277.2 rfl rfl (Nat.le_of_ble_eq_true rfl) (by decide) (by decide) (mp_isStore _) ?_
      rintro _ w9 (⟨rfl, hpk, e9⟩ | ⟨rfl, hpk, e9⟩)
      · refine GP.weq _ e9 ?_
        obtain ⟨k, rfl, hk⟩ := pl_of hpk
        refine n_if_ne (pc := 17) 27 dX12_take__17 (by decide) (by omega) (fun hd9 => ?_) (fun hd9 => ?_)
        · refine g_aload_n (pc := 27) 0 dX12_take__27 rfl rfl ?_
          refine g_callV (pc := 28) [] dX12_take__28 cv_X12_116.1 cv_X12_116.2.1 cv_X12_116.2.2.1 cv_X12_116.2.2.2 (lk_eq hY) rfl rfl (Nat.le_of_ble_eq_true rfl) (by decide) (by decide) (mp_empty _ (lk_eq hY) (lk_ne (show Y ≠ (Y + 7) by omega) a7)) ?_
          rintro _ w9 ⟨rfl, e9⟩
          refine GP.weq _ e9 ?_
          refine GP.weq ((w.set Y (.inr (11, .int (nI 0) :: .int st :: .ref (Y + 1) :: .ref (Y + 2) :: .ref (Y + 3) :: .ref (Y + 4) :: .int (nI pn) :: .ref (Y + 5) :: .ref (Y + 6) :: .ref (Y + 7) :: .int (-1) :: .ref (Y + 8) :: .int dd :: .ref (Y + 9) :: .ref (Y + 10) :: .ref (Y + 11) :: .ref (Y + 12) :: .int ld :: .int be :: .int ib :: .ref (Y + 13) :: .ref (Y + 14) :: .ref (Y + 15) :: .ref (Y + 16) :: .ref (Y + 17) :: .int (nI tl) :: .int fa :: .int re :: .int ig :: .ref (Y + 18) :: .ref (Y + 19) :: .ref (Y + 20) :: .ref (Y + 21) :: []))).set (Y + 7) (aL 60 (zrF g7 60))) (by rw [List.set_comm _ _ (show (Y + 7) ≠ Y by omega), List.set_set]) ?_
          obtain ⟨w1, ew1⟩ : ∃ wy : Wd, wy = ((w.set Y (.inr (11, .int (nI 0) :: .int st :: .ref (Y + 1) :: .ref (Y + 2) :: .ref (Y + 3) :: .ref (Y + 4) :: .int (nI pn) :: .ref (Y + 5) :: .ref (Y + 6) :: .ref (Y + 7) :: .int (-1) :: .ref (Y + 8) :: .int dd :: .ref (Y + 9) :: .ref (Y + 10) :: .ref (Y + 11) :: .ref (Y + 12) :: .int ld :: .int be :: .int ib :: .ref (Y + 13) :: .ref (Y + 14) :: .ref (Y + 15) :: .ref (Y + 16) :: .ref (Y + 17) :: .int (nI tl) :: .int fa :: .int re :: .int ig :: .ref (Y + 18) :: .ref (Y + 19) :: .ref (Y + 20) :: .ref (Y + 21) :: []))).set (Y + 7) (aL 60 (zrF g7 60))) := ⟨_, rfl⟩
          refine GP.weq w1 ew1.symm ?_
          have hM1 : mdC w1 Y tl tb fa st rf sh pn pk ps im := by rw [ew1]; exact ⟨⟨_, _, _, _, _, _, _, _, (lk_ne (show (Y + 7) ≠ Y by omega) (lk_eq hY))⟩, ⟨⟨_, (lk_ne (show (Y + 7) ≠ (Y + 1) by omega) (lk_ne (show Y ≠ (Y + 1) by omega) a1)), b1⟩, ⟨_, (lk_ne (show (Y + 7) ≠ (Y + 2) by omega) (lk_ne (show Y ≠ (Y + 2) by omega) a2)), b2⟩, ⟨_, _, (lk_ne (show (Y + 7) ≠ (Y + 3) by omega) (lk_ne (show Y ≠ (Y + 3) by omega) a3)), (lk_ne (show (Y + 7) ≠ (Y + 4) by omega) (lk_ne (show Y ≠ (Y + 4) by omega) a4)), b3, b4⟩, ⟨_, _, (lk_ne (show (Y + 7) ≠ (Y + 5) by omega) (lk_ne (show Y ≠ (Y + 5) by omega) a5)), (lk_ne (show (Y + 7) ≠ (Y + 6) by omega) (lk_ne (show Y ≠ (Y + 6) by omega) a6)), b5⟩, ⟨_, (lk_ne (show (Y + 7) ≠ (Y + 11) by omega) (lk_ne (show Y ≠ (Y + 11) by omega) a11)), b11⟩, ⟨_, (lk_ne (show (Y + 7) ≠ (Y + 17) by omega) (lk_ne (show Y ≠ (Y + 17) by omega) a17)), b17⟩⟩, ⟨_, _, _, _, _, _, _, _, _, _, _, (lk_eq (lk_ne (show Y ≠ (Y + 7) by omega) a7)), (lk_ne (show (Y + 7) ≠ (Y + 8) by omega) (lk_ne (show Y ≠ (Y + 8) by omega) a8)), (lk_ne (show (Y + 7) ≠ (Y + 9) by omega) (lk_ne (show Y ≠ (Y + 9) by omega) a9)), (lk_ne (show (Y + 7) ≠ (Y + 10) by omega) (lk_ne (show Y ≠ (Y + 10) by omega) a10)), (lk_ne (show (Y + 7) ≠ (Y + 12) by omega) (lk_ne (show Y ≠ (Y + 12) by omega) a12)), (lk_ne (show (Y + 7) ≠ (Y + 13) by omega) (lk_ne (show Y ≠ (Y + 13) by omega) a13)), (lk_ne (show (Y + 7) ≠ (Y + 14) by omega) (lk_ne (show Y ≠ (Y + 14) by omega) a14)), (lk_ne (show (Y + 7) ≠ (Y + 18) by omega) (lk_ne (show Y ≠ (Y + 18) by omega) a18)), (lk_ne (show (Y + 7) ≠ (Y + 19) by omega) (lk_ne (show Y ≠ (Y + 19) by omega) a19)), (lk_ne (show (Y + 7) ≠ (Y + 20) by omega) (lk_ne (show Y ≠ (Y + 20) by omega) a20)), (lk_ne (show (Y + 7) ≠ (Y + 21) by omega) (lk_ne (show Y ≠ (Y + 21) by omega) a21))⟩, ⟨_, _, (lk_ne (show (Y + 7) ≠ (Y + 15) by omega) (lk_ne (show Y ≠ (Y + 15) by omega) a15)), (lk_ne (show (Y + 7) ≠ (Y + 16) by omega) (lk_ne (show Y ≠ (Y + 16) by omega) a16)), b15⟩⟩
          have hF1 : FR (modS Y) w w1 := by rw [ew1]; exact (FR.st (c' := aL 60 (zrF g7 60)) (FR.st (c' := .inr (11, .int (nI 0) :: .int st :: .ref (Y + 1) :: .ref (Y + 2) :: .ref (Y + 3) :: .ref (Y + 4) :: .int (nI pn) :: .ref (Y + 5) :: .ref (Y + 6) :: .ref (Y + 7) :: .int (-1) :: .ref (Y + 8) :: .int dd :: .ref (Y + 9) :: .ref (Y + 10) :: .ref (Y + 11) :: .ref (Y + 12) :: .int ld :: .int be :: .int ib :: .ref (Y + 13) :: .ref (Y + 14) :: .ref (Y + 15) :: .ref (Y + 16) :: .ref (Y + 17) :: .int (nI tl) :: .int fa :: .int re :: .int ig :: .ref (Y + 18) :: .ref (Y + 19) :: .ref (Y + 20) :: .ref (Y + 21) :: [])) FR.rf hY rfl (by unfold modS; omega)) (lk_ne (show Y ≠ (Y + 7) by omega) a7) rfl (by unfold modS; omega))
          have c71 : w1[Y + 7]? = some (aL 60 (zrF g7 60)) := by rw [ew1]; exact (lk_eq (lk_ne (show Y ≠ (Y + 7) by omega) a7))
          have cY1 : w1[Y]? = some (.inr (11, .int (nI 0) :: .int st :: .ref (Y + 1) :: .ref (Y + 2) :: .ref (Y + 3) :: .ref (Y + 4) :: .int (nI pn) :: .ref (Y + 5) :: .ref (Y + 6) :: .ref (Y + 7) :: .int (-1) :: .ref (Y + 8) :: .int dd :: .ref (Y + 9) :: .ref (Y + 10) :: .ref (Y + 11) :: .ref (Y + 12) :: .int ld :: .int be :: .int ib :: .ref (Y + 13) :: .ref (Y + 14) :: .ref (Y + 15) :: .ref (Y + 16) :: .ref (Y + 17) :: .int (nI tl) :: .int fa :: .int re :: .int ig :: .ref (Y + 18) :: .ref (Y + 19) :: .ref (Y + 20) :: .ref (Y + 21) :: [])) := by rw [ew1]; exact (lk_ne (show (Y + 7) ≠ Y by omega) (lk_eq hY))
          obtain ⟨⟨th1, dg1, dd1, ld1, be1, ib1, re1, ig1, hY1⟩, ⟨⟨g11, a11, b11⟩, ⟨g21, a21, b21⟩, ⟨g31, g41, a31, a41, b31, b41⟩, ⟨g51, g61, a51, a61, b51⟩, ⟨g111, a111, b111⟩, ⟨g171, a171, b171⟩⟩, ⟨g71, g81, g91, g101, g121, g131, g141, g181, g191, g201, g211, a71, a81, a91, a101, a121, a131, a141, a181, a191, a201, a211⟩, ⟨g151, g161, a151, a161, b151⟩⟩ := id hM1
          refine g_iconst (pc := 31) (v := nI 0) dX12_take__31 (by decide) ?_
          refine g_istore_n (pc := 32) [(3, .int (nI 0)), (0, .ref Y), (1, .int (nI i)), (2, .int (nI k))] dX12_take__32 rfl (by decide) rfl ?_
          refine GP.weq (w1.set (Y + 7) (aL 60 (zrF g7 60))) (set_same c71).symm ?_
          refine GP.lsub _ (by simp) (tak_fill (k := k) cY1 a21 b21 hi (by omega) c71 (fun h hh => ?_) 13 0 _ rfl (fun j hj => by rw [zrF_t hj, if_neg (Nat.not_lt_zero _)]; rfl))
          refine g_aload_n (pc := 68) 2 dX12_take__68 rfl rfl ?_
          refine g_iload_n (pc := 69) 0 dX12_take__69 rfl rfl ?_
          refine g_bipush (pc := 70) (v := nI 8) dX12_take__70 (by decide) ?_
          obtain ⟨wp, ewp⟩ : ∃ wy : Wd, wy = (w1.set (Y + 7) (aL 60 h)) := ⟨_, rfl⟩
          refine GP.weq wp ewp.symm ?_
          have hMp : mdC wp Y tl tb fa st rf sh pn pk ps im := by rw [ewp]; exact ⟨⟨_, _, _, _, _, _, _, _, (lk_ne (show (Y + 7) ≠ Y by omega) cY1)⟩, ⟨⟨_, (lk_ne (show (Y + 7) ≠ (Y + 1) by omega) a11), b11⟩, ⟨_, (lk_ne (show (Y + 7) ≠ (Y + 2) by omega) a21), b21⟩, ⟨_, _, (lk_ne (show (Y + 7) ≠ (Y + 3) by omega) a31), (lk_ne (show (Y + 7) ≠ (Y + 4) by omega) a41), b31, b41⟩, ⟨_, _, (lk_ne (show (Y + 7) ≠ (Y + 5) by omega) a51), (lk_ne (show (Y + 7) ≠ (Y + 6) by omega) a61), b51⟩, ⟨_, (lk_ne (show (Y + 7) ≠ (Y + 11) by omega) a111), b111⟩, ⟨_, (lk_ne (show (Y + 7) ≠ (Y + 17) by omega) a171), b171⟩⟩, ⟨_, _, _, _, _, _, _, _, _, _, _, (lk_eq c71), (lk_ne (show (Y + 7) ≠ (Y + 8) by omega) a81), (lk_ne (show (Y + 7) ≠ (Y + 9) by omega) a91), (lk_ne (show (Y + 7) ≠ (Y + 10) by omega) a101), (lk_ne (show (Y + 7) ≠ (Y + 12) by omega) a121), (lk_ne (show (Y + 7) ≠ (Y + 13) by omega) a131), (lk_ne (show (Y + 7) ≠ (Y + 14) by omega) a141), (lk_ne (show (Y + 7) ≠ (Y + 18) by omega) a181), (lk_ne (show (Y + 7) ≠ (Y + 19) by omega) a191), (lk_ne (show (Y + 7) ≠ (Y + 20) by omega) a201), (lk_ne (show (Y + 7) ≠ (Y + 21) by omega) a211)⟩, ⟨_, _, (lk_ne (show (Y + 7) ≠ (Y + 15) by omega) a151), (lk_ne (show (Y + 7) ≠ (Y + 16) by omega) a161), b151⟩⟩
          have hFp : FR (modS Y) w1 wp := by rw [ewp]; exact (FR.st (c' := aL 60 h) FR.rf c71 rfl (by unfold modS; omega))
          have c7p : wp[Y + 7]? = some (aL 60 h) := by rw [ewp]; exact (lk_eq c71)
          have cYp : wp[Y]? = some (.inr (11, .int (nI 0) :: .int st :: .ref (Y + 1) :: .ref (Y + 2) :: .ref (Y + 3) :: .ref (Y + 4) :: .int (nI pn) :: .ref (Y + 5) :: .ref (Y + 6) :: .ref (Y + 7) :: .int (-1) :: .ref (Y + 8) :: .int dd :: .ref (Y + 9) :: .ref (Y + 10) :: .ref (Y + 11) :: .ref (Y + 12) :: .int ld :: .int be :: .int ib :: .ref (Y + 13) :: .ref (Y + 14) :: .ref (Y + 15) :: .ref (Y + 16) :: .ref (Y + 17) :: .int (nI tl) :: .int fa :: .int re :: .int ig :: .ref (Y + 18) :: .ref (Y + 19) :: .ref (Y + 20) :: .ref (Y + 21) :: [])) := by rw [ewp]; exact (lk_ne (show (Y + 7) ≠ Y by omega) cY1)
          refine g_callV (pc := 72) [.int (nI k), .int (nI 8)] dX12_take__72 cv_X12_286.1 cv_X12_286.2.1 cv_X12_286.2.2.1 cv_X12_286.2.2.2 cYp rfl rfl (Nat.le_of_ble_eq_true rfl) (by decide) (by decide) (mq_put _ hMp (kd := 8) (k := k) (F := fun t => if t ≤ sh.2.1 then sh.2.2.2.2.2.2 (i * 16 + t) else 0) c7p (fun t ht => by rw [hh t ht]; exact tk_cut b2 hi) (fun t a _ => by rw [if_neg (by omega)]) hk) ?_
          rintro rz wq hR
          obtain ⟨vz, rfl⟩ : ∃ vz, rz = some (.int vz) := putM_int hR
          exact g_iret (pc := 75) dX12_take__75 (Or.inr ⟨i, k, rfl, hi, rfl, hk, (putM.fr hR (hF1.tr hFp))⟩)
        · exact absurd hd9 (by decide)
      · refine GP.weq _ e9 ?_
        refine n_if_ne (pc := 17) 27 dX12_take__17 (by decide) (by omega) (fun hd9 => ?_) (fun hd9 => ?_)
        · exact absurd rfl hd9
        · refine g_aload_n (pc := 20) 0 dX12_take__20 rfl rfl ?_
          refine g_bipush (pc := 21) (v := -2) dX12_take__21 (by decide) ?_
          obtain ⟨wr, ewr⟩ : ∃ wy : Wd, wy = (w.set Y (.inr (11, .int (nI 0) :: .int st :: .ref (Y + 1) :: .ref (Y + 2) :: .ref (Y + 3) :: .ref (Y + 4) :: .int (nI pn) :: .ref (Y + 5) :: .ref (Y + 6) :: .ref (Y + 7) :: .int dg :: .ref (Y + 8) :: .int dd :: .ref (Y + 9) :: .ref (Y + 10) :: .ref (Y + 11) :: .ref (Y + 12) :: .int ld :: .int be :: .int ib :: .ref (Y + 13) :: .ref (Y + 14) :: .ref (Y + 15) :: .ref (Y + 16) :: .ref (Y + 17) :: .int (nI tl) :: .int fa :: .int re :: .int ig :: .ref (Y + 18) :: .ref (Y + 19) :: .ref (Y + 20) :: .ref (Y + 21) :: []))) := ⟨_, rfl⟩
          refine GP.weq wr ewr.symm ?_
          have hMr : mdC wr Y tl tb fa st rf sh pn pk ps im := by rw [ewr]; exact ⟨⟨_, _, _, _, _, _, _, _, (lk_eq hY)⟩, ⟨⟨_, (lk_ne (show Y ≠ (Y + 1) by omega) a1), b1⟩, ⟨_, (lk_ne (show Y ≠ (Y + 2) by omega) a2), b2⟩, ⟨_, _, (lk_ne (show Y ≠ (Y + 3) by omega) a3), (lk_ne (show Y ≠ (Y + 4) by omega) a4), b3, b4⟩, ⟨_, _, (lk_ne (show Y ≠ (Y + 5) by omega) a5), (lk_ne (show Y ≠ (Y + 6) by omega) a6), b5⟩, ⟨_, (lk_ne (show Y ≠ (Y + 11) by omega) a11), b11⟩, ⟨_, (lk_ne (show Y ≠ (Y + 17) by omega) a17), b17⟩⟩, ⟨_, _, _, _, _, _, _, _, _, _, _, (lk_ne (show Y ≠ (Y + 7) by omega) a7), (lk_ne (show Y ≠ (Y + 8) by omega) a8), (lk_ne (show Y ≠ (Y + 9) by omega) a9), (lk_ne (show Y ≠ (Y + 10) by omega) a10), (lk_ne (show Y ≠ (Y + 12) by omega) a12), (lk_ne (show Y ≠ (Y + 13) by omega) a13), (lk_ne (show Y ≠ (Y + 14) by omega) a14), (lk_ne (show Y ≠ (Y + 18) by omega) a18), (lk_ne (show Y ≠ (Y + 19) by omega) a19), (lk_ne (show Y ≠ (Y + 20) by omega) a20), (lk_ne (show Y ≠ (Y + 21) by omega) a21)⟩, ⟨_, _, (lk_ne (show Y ≠ (Y + 15) by omega) a15), (lk_ne (show Y ≠ (Y + 16) by omega) a16), b15⟩⟩
          have hFr : FR (modS Y) w wr := by rw [ewr]; exact (FR.st (c' := .inr (11, .int (nI 0) :: .int st :: .ref (Y + 1) :: .ref (Y + 2) :: .ref (Y + 3) :: .ref (Y + 4) :: .int (nI pn) :: .ref (Y + 5) :: .ref (Y + 6) :: .ref (Y + 7) :: .int dg :: .ref (Y + 8) :: .int dd :: .ref (Y + 9) :: .ref (Y + 10) :: .ref (Y + 11) :: .ref (Y + 12) :: .int ld :: .int be :: .int ib :: .ref (Y + 13) :: .ref (Y + 14) :: .ref (Y + 15) :: .ref (Y + 16) :: .ref (Y + 17) :: .int (nI tl) :: .int fa :: .int re :: .int ig :: .ref (Y + 18) :: .ref (Y + 19) :: .ref (Y + 20) :: .ref (Y + 21) :: [])) FR.rf hY rfl (by unfold modS; omega))
          refine g_callV (pc := 23) [.int (-2)] dX12_take__23 cv_X12_96.1 cv_X12_96.2.1 cv_X12_96.2.2.1 cv_X12_96.2.2.2 (by rw [ewr]; exact (lk_eq hY)) rfl rfl (Nat.le_of_ble_eq_true rfl) (by decide) (by decide) (mq_refuse2 _ hMr) ?_
          rintro _ wq ⟨rfl, hR⟩
          exact g_iret (pc := 26) dX12_take__26 (Or.inl ⟨fun g => hpk g.2.2, ⟨rfl, hR.1, hFr.tr hR.2⟩⟩)
  · refine GP.weq _ e9 ?_
    refine n_if_eq (pc := 10) 20 dX12_take__10 (by decide) (by omega) (fun hd9 => ?_) (fun hd9 => ?_)
    · refine g_aload_n (pc := 20) 0 dX12_take__20 rfl rfl ?_
      refine g_bipush (pc := 21) (v := -2) dX12_take__21 (by decide) ?_
      obtain ⟨wr, ewr⟩ : ∃ wy : Wd, wy = (w.set Y (.inr (11, .int (nI 0) :: .int st :: .ref (Y + 1) :: .ref (Y + 2) :: .ref (Y + 3) :: .ref (Y + 4) :: .int (nI pn) :: .ref (Y + 5) :: .ref (Y + 6) :: .ref (Y + 7) :: .int dg :: .ref (Y + 8) :: .int dd :: .ref (Y + 9) :: .ref (Y + 10) :: .ref (Y + 11) :: .ref (Y + 12) :: .int ld :: .int be :: .int ib :: .ref (Y + 13) :: .ref (Y + 14) :: .ref (Y + 15) :: .ref (Y + 16) :: .ref (Y + 17) :: .int (nI tl) :: .int fa :: .int re :: .int ig :: .ref (Y + 18) :: .ref (Y + 19) :: .ref (Y + 20) :: .ref (Y + 21) :: []))) := ⟨_, rfl⟩
      refine GP.weq wr ewr.symm ?_
      have hMr : mdC wr Y tl tb fa st rf sh pn pk ps im := by rw [ewr]; exact ⟨⟨_, _, _, _, _, _, _, _, (lk_eq hY)⟩, ⟨⟨_, (lk_ne (show Y ≠ (Y + 1) by omega) a1), b1⟩, ⟨_, (lk_ne (show Y ≠ (Y + 2) by omega) a2), b2⟩, ⟨_, _, (lk_ne (show Y ≠ (Y + 3) by omega) a3), (lk_ne (show Y ≠ (Y + 4) by omega) a4), b3, b4⟩, ⟨_, _, (lk_ne (show Y ≠ (Y + 5) by omega) a5), (lk_ne (show Y ≠ (Y + 6) by omega) a6), b5⟩, ⟨_, (lk_ne (show Y ≠ (Y + 11) by omega) a11), b11⟩, ⟨_, (lk_ne (show Y ≠ (Y + 17) by omega) a17), b17⟩⟩, ⟨_, _, _, _, _, _, _, _, _, _, _, (lk_ne (show Y ≠ (Y + 7) by omega) a7), (lk_ne (show Y ≠ (Y + 8) by omega) a8), (lk_ne (show Y ≠ (Y + 9) by omega) a9), (lk_ne (show Y ≠ (Y + 10) by omega) a10), (lk_ne (show Y ≠ (Y + 12) by omega) a12), (lk_ne (show Y ≠ (Y + 13) by omega) a13), (lk_ne (show Y ≠ (Y + 14) by omega) a14), (lk_ne (show Y ≠ (Y + 18) by omega) a18), (lk_ne (show Y ≠ (Y + 19) by omega) a19), (lk_ne (show Y ≠ (Y + 20) by omega) a20), (lk_ne (show Y ≠ (Y + 21) by omega) a21)⟩, ⟨_, _, (lk_ne (show Y ≠ (Y + 15) by omega) a15), (lk_ne (show Y ≠ (Y + 16) by omega) a16), b15⟩⟩
      have hFr : FR (modS Y) w wr := by rw [ewr]; exact (FR.st (c' := .inr (11, .int (nI 0) :: .int st :: .ref (Y + 1) :: .ref (Y + 2) :: .ref (Y + 3) :: .ref (Y + 4) :: .int (nI pn) :: .ref (Y + 5) :: .ref (Y + 6) :: .ref (Y + 7) :: .int dg :: .ref (Y + 8) :: .int dd :: .ref (Y + 9) :: .ref (Y + 10) :: .ref (Y + 11) :: .ref (Y + 12) :: .int ld :: .int be :: .int ib :: .ref (Y + 13) :: .ref (Y + 14) :: .ref (Y + 15) :: .ref (Y + 16) :: .ref (Y + 17) :: .int (nI tl) :: .int fa :: .int re :: .int ig :: .ref (Y + 18) :: .ref (Y + 19) :: .ref (Y + 20) :: .ref (Y + 21) :: [])) FR.rf hY rfl (by unfold modS; omega))
      refine g_callV (pc := 23) [.int (-2)] dX12_take__23 cv_X12_96.1 cv_X12_96.2.1 cv_X12_96.2.2.1 cv_X12_96.2.2.2 (by rw [ewr]; exact (lk_eq hY)) rfl rfl (Nat.le_of_ble_eq_true rfl) (by decide) (by decide) (mq_refuse2 _ hMr) ?_
      rintro _ wq ⟨rfl, hR⟩
      exact g_iret (pc := 26) dX12_take__26 (Or.inl ⟨fun g => hx ⟨g.1, g.2.1⟩, ⟨rfl, hR.1, hFr.tr hR.2⟩⟩)
    · exact absurd rfl hd9
abbrev BX12_times_ (w0 : Wd) (Post : Option Value → Wd → Prop) (w : Wd) (pc : Nat) (ls : List (Nat × Value)) (st : List Value) : Prop := GP "times" RX12 cX12_times_ 6 (some .int) 3 117 none w0 Post w pc ls st
abbrev EX12_times_ (As : List Value) (w : Wd) (Post : Option Value → Wd → Prop) : Prop := EP yX12_times_ cX12_times_ 6 (some .int) 3 As w Post
theorem tm_in {w0 w : Wd} {Y I : Nat} {th st nu dg dd ld be ib ta fa re ig : Int32} {g2 : Nat → Int32} {h7 : Nat → Int64} {V : SV} {i j k : Nat} (hY : w[Y]? = some (oM Y th st nu dg dd ld be ib ta fa re ig)) (a2 : w[Y + 2]? = some (aI 0 626 g2)) (a7 : w[Y + 7]? = some (aL 60 h7)) (hV : rowR g2 V) (hi : i < 8) (hj : j < 8) {Q : Option Value → Wd → Prop} (hI : I ≤ (V.1 i).1) (K : ∀ cur : Nat → Int64, (wpI (toJ (fun t => g2 (14 * i + 1 + t))) (toJ (fun t => g2 (14 * j + 1 + t))) (V.1 j).1 (I + 1) 0 cur ∧ ∀ t, 25 ≤ t → t < 60 → cur t = 0) → BX12_times_ w0 Q (w.set (Y + 7) (aL 60 cur)) 99 [(4, .int (nI I)), (3, .int (nI k)), (2, .int (nI j)), (1, .int (nI i)), (0, .ref Y)] []) : ∀ (z J : Nat) (cur : Nat → Int64), (V.1 j).1 + 1 = J + z → (wpI (toJ (fun t => g2 (14 * i + 1 + t))) (toJ (fun t => g2 (14 * j + 1 + t))) (V.1 j).1 I J cur ∧ ∀ t, 25 ≤ t → t < 60 → cur t = 0) → BX12_times_ w0 Q (w.set (Y + 7) (aL 60 cur)) 53 [(5, .int (nI J)), (4, .int (nI I)), (3, .int (nI k)), (2, .int (nI j)), (1, .int (nI i)), (0, .ref Y)] [] := by
  obtain ⟨⟨i1, i2, i3, i4⟩, i5, i6⟩ := hV.1 i hi
  obtain ⟨⟨j1, j2, j3, j4⟩, j5, j6⟩ := hV.1 j hj
  intro z
  induction z with
  | zero =>
    intro J cur hJ h
    refine g_iload (pc := 53) 0 dX12_times__53 rfl ?_
    refine g_aload_n (pc := 55) 5 dX12_times__55 rfl rfl ?_
    refine g_iload_n (pc := 56) 3 dX12_times__56 rfl rfl ?_
    refine g_callV (pc := 57) [.int (nI j)] dX12_times__57 cv_X12_119.1 cv_X12_119.2.1 cv_X12_119.2.2.1 cv_X12_119.2.2.2 (lk_ne (show (Y + 7) ≠ Y by omega) hY) rfl rfl (Nat.le_of_ble_eq_true rfl) (by decide) (by decide) (mp_degreeOf _ (lk_ne (show (Y + 7) ≠ Y by omega) hY) (lk_ne (show (Y + 7) ≠ (Y + 2) by omega) a2) hj) ?_
    rintro _ w9 ⟨rfl, e9⟩
    refine GP.weq _ e9 ?_
    refine GP.ti (nI (V.1 j).1) (row_dg hV j hj) ?_
    refine n_icmp_gt (pc := 60) 99 dX12_times__60 (by decide) (by omega) (by omega) (fun hb9 => ?_) (fun hb9 => ?_)
    · refine GP.lsub _ (by simp) (K cur ⟨wpI_end ?_, h.2⟩)
      rw [show (V.1 j).1 + 1 = J by omega]
      exact h.1
    · exact absurd hb9 (by omega)
  | succ z ih =>
    intro J cur hJ h
    refine g_iload (pc := 53) 0 dX12_times__53 rfl ?_
    refine g_aload_n (pc := 55) 5 dX12_times__55 rfl rfl ?_
    refine g_iload_n (pc := 56) 3 dX12_times__56 rfl rfl ?_
    refine g_callV (pc := 57) [.int (nI j)] dX12_times__57 cv_X12_119.1 cv_X12_119.2.1 cv_X12_119.2.2.1 cv_X12_119.2.2.2 (lk_ne (show (Y + 7) ≠ Y by omega) hY) rfl rfl (Nat.le_of_ble_eq_true rfl) (by decide) (by decide) (mp_degreeOf _ (lk_ne (show (Y + 7) ≠ Y by omega) hY) (lk_ne (show (Y + 7) ≠ (Y + 2) by omega) a2) hj) ?_
    rintro _ w9 ⟨rfl, e9⟩
    refine GP.weq _ e9 ?_
    refine GP.ti (nI (V.1 j).1) (row_dg hV j hj) ?_
    refine n_icmp_gt (pc := 60) 99 dX12_times__60 (by decide) (by omega) (by omega) (fun hb9 => ?_) (fun hb9 => ?_)
    · exact absurd hb9 (by omega)
    · refine g_aload_n (pc := 63) 5 dX12_times__63 rfl rfl ?_
      refine g_get (pc := 64) dX12_times__64 fk_X12_29 (lk_ne (show (Y + 7) ≠ Y by omega) hY) rfl ?_
      refine g_iload (pc := 67) 1 dX12_times__67 rfl ?_
      refine g_iload (pc := 69) 0 dX12_times__69 rfl ?_
      refine n_iadd (pc := 71) dX12_times__71 ?_
      refine g_dup2 (pc := 72) dX12_times__72 rfl rfl ?_
      refine g_lald (pc := 73) (I + J) dX12_times__73 (lk_eq a7) (IXn (by omega) (by omega)) ?_
      refine g_aload_n (pc := 74) 5 dX12_times__74 rfl rfl ?_
      refine g_iload_n (pc := 75) 4 dX12_times__75 rfl rfl ?_
      refine g_iload (pc := 76) 1 dX12_times__76 rfl ?_
      refine g_callV (pc := 78) [.int (nI i), .int (nI I)] dX12_times__78 cv_X12_122.1 cv_X12_122.2.1 cv_X12_122.2.2.1 cv_X12_122.2.2.2 (lk_ne (show (Y + 7) ≠ Y by omega) hY) rfl rfl (Nat.le_of_ble_eq_true rfl) (by decide) (by decide) (mp_at _ (lk_ne (show (Y + 7) ≠ Y by omega) hY) (lk_ne (show (Y + 7) ≠ (Y + 2) by omega) a2) hi (show I < 13 by omega)) ?_
      rintro _ w9 ⟨rfl, e9⟩
      refine GP.weq _ e9 ?_
      refine g_i2l (pc := 81) dX12_times__81 ?_
      refine g_aload_n (pc := 82) 5 dX12_times__82 rfl rfl ?_
      refine g_iload_n (pc := 83) 3 dX12_times__83 rfl rfl ?_
      refine g_iload (pc := 84) 0 dX12_times__84 rfl ?_
      refine g_callV (pc := 86) [.int (nI j), .int (nI J)] dX12_times__86 cv_X12_122.1 cv_X12_122.2.1 cv_X12_122.2.2.1 cv_X12_122.2.2.2 (lk_ne (show (Y + 7) ≠ Y by omega) hY) rfl rfl (Nat.le_of_ble_eq_true rfl) (by decide) (by decide) (mp_at _ (lk_ne (show (Y + 7) ≠ Y by omega) hY) (lk_ne (show (Y + 7) ≠ (Y + 2) by omega) a2) hj (show J < 13 by omega)) ?_
      rintro _ w9 ⟨rfl, e9⟩
      refine GP.weq _ e9 ?_
      refine g_i2l (pc := 89) dX12_times__89 ?_
      refine g_lmul (pc := 90) dX12_times__90 ?_
      refine g_ladd (pc := 91) dX12_times__91 ?_
      refine g_last (pc := 92) (I + J) dX12_times__92 (lk_eq a7) (IXn (by omega) (by omega)) ?_
      refine GP.weq (w.set (Y + 7) (aL 60 (vp_updL cur (I + J) ((cur (I + J)) + (((g2 (14 * i + 1 + I)).toInt64) * ((g2 (14 * j + 1 + J)).toInt64)))))) (by rw [List.set_set]) ?_
      refine n_iinc (pc := 93) (c := 1) [(5, .int (nI (J + 1))), (4, .int (nI I)), (3, .int (nI k)), (2, .int (nI j)), (1, .int (nI i)), (0, .ref Y)] 0 dX12_times__93 rfl (by decide) (by decide) rfl ?_
      refine g_goto (pc := 96) 53 dX12_times__96 (by decide) ?_
      have hs := wpI_s (f := (fun t => g2 (14 * i + 1 + t))) (g := (fun t => g2 (14 * j + 1 + t))) (n1 := (V.1 i).1) hI (show J ≤ (V.1 j).1 by omega) i1 j1 (fun t ht => by show -9999 ≤ (g2 (14 * i + 1 + t)).toInt ∧ _; rw [i6 t (by omega)]; exact i2 t ht) (fun t ht => by show -9999 ≤ (g2 (14 * j + 1 + t)).toInt ∧ _; rw [j6 t (by omega)]; exact j2 t ht) h.1
      exact GP.lsub _ (by simp) (ih (J + 1) _ (by omega) ⟨hs, fun t a b => by rw [upL_n (by omega)]; exact h.2 t a b⟩)
theorem tm_out {w0 w : Wd} {Y : Nat} {th st nu dg dd ld be ib ta fa re ig : Int32} {g2 : Nat → Int32} {h7 : Nat → Int64} {V : SV} {i j k : Nat} (hY : w[Y]? = some (oM Y th st nu dg dd ld be ib ta fa re ig)) (a2 : w[Y + 2]? = some (aI 0 626 g2)) (a7 : w[Y + 7]? = some (aL 60 h7)) (hV : rowR g2 V) (hi : i < 8) (hj : j < 8) {Q : Option Value → Wd → Prop} (K : ∀ cur : Nat → Int64, (wpI (toJ (fun t => g2 (14 * i + 1 + t))) (toJ (fun t => g2 (14 * j + 1 + t))) (V.1 j).1 ((V.1 i).1 + 1) 0 cur ∧ ∀ t, 25 ≤ t → t < 60 → cur t = 0) → BX12_times_ w0 Q (w.set (Y + 7) (aL 60 cur)) 105 [(3, .int (nI k)), (2, .int (nI j)), (1, .int (nI i)), (0, .ref Y)] []) : ∀ (z I : Nat) (cur : Nat → Int64), (V.1 i).1 + 1 = I + z → (wpI (toJ (fun t => g2 (14 * i + 1 + t))) (toJ (fun t => g2 (14 * j + 1 + t))) (V.1 j).1 I 0 cur ∧ ∀ t, 25 ≤ t → t < 60 → cur t = 0) → BX12_times_ w0 Q (w.set (Y + 7) (aL 60 cur)) 40 [(4, .int (nI I)), (3, .int (nI k)), (2, .int (nI j)), (1, .int (nI i)), (0, .ref Y)] [] := by
  obtain ⟨⟨i1, i2, i3, i4⟩, i5, i6⟩ := hV.1 i hi
  obtain ⟨⟨j1, j2, j3, j4⟩, j5, j6⟩ := hV.1 j hj
  intro z
  induction z with
  | zero =>
    intro I cur hI h
    refine g_iload (pc := 40) 0 dX12_times__40 rfl ?_
    refine g_aload_n (pc := 42) 4 dX12_times__42 rfl rfl ?_
    refine g_iload_n (pc := 43) 3 dX12_times__43 rfl rfl ?_
    refine g_callV (pc := 44) [.int (nI i)] dX12_times__44 cv_X12_119.1 cv_X12_119.2.1 cv_X12_119.2.2.1 cv_X12_119.2.2.2 (lk_ne (show (Y + 7) ≠ Y by omega) hY) rfl rfl (Nat.le_of_ble_eq_true rfl) (by decide) (by decide) (mp_degreeOf _ (lk_ne (show (Y + 7) ≠ Y by omega) hY) (lk_ne (show (Y + 7) ≠ (Y + 2) by omega) a2) hi) ?_
    rintro _ w9 ⟨rfl, e9⟩
    refine GP.weq _ e9 ?_
    refine GP.ti (nI (V.1 i).1) (row_dg hV i hi) ?_
    refine n_icmp_gt (pc := 47) 105 dX12_times__47 (by decide) (by omega) (by omega) (fun hb9 => ?_) (fun hb9 => ?_)
    · refine GP.lsub _ (by simp) (K cur ?_)
      rw [show (V.1 i).1 + 1 = I by omega]
      exact h
    · exact absurd hb9 (by omega)
  | succ z ih =>
    intro I cur hI h
    refine g_iload (pc := 40) 0 dX12_times__40 rfl ?_
    refine g_aload_n (pc := 42) 4 dX12_times__42 rfl rfl ?_
    refine g_iload_n (pc := 43) 3 dX12_times__43 rfl rfl ?_
    refine g_callV (pc := 44) [.int (nI i)] dX12_times__44 cv_X12_119.1 cv_X12_119.2.1 cv_X12_119.2.2.1 cv_X12_119.2.2.2 (lk_ne (show (Y + 7) ≠ Y by omega) hY) rfl rfl (Nat.le_of_ble_eq_true rfl) (by decide) (by decide) (mp_degreeOf _ (lk_ne (show (Y + 7) ≠ Y by omega) hY) (lk_ne (show (Y + 7) ≠ (Y + 2) by omega) a2) hi) ?_
    rintro _ w9 ⟨rfl, e9⟩
    refine GP.weq _ e9 ?_
    refine GP.ti (nI (V.1 i).1) (row_dg hV i hi) ?_
    refine n_icmp_gt (pc := 47) 105 dX12_times__47 (by decide) (by omega) (by omega) (fun hb9 => ?_) (fun hb9 => ?_)
    · exact absurd hb9 (by omega)
    · refine g_iconst (pc := 50) (v := nI 0) dX12_times__50 (by decide) ?_
      refine g_istore (pc := 51) [(5, .int (nI 0)), (4, .int (nI I)), (3, .int (nI k)), (2, .int (nI j)), (1, .int (nI i)), (0, .ref Y)] dX12_times__51 (by decide) rfl ?_
      refine GP.lsub _ (by simp) (tm_in (k := k) hY a2 a7 hV hi hj (show I ≤ (V.1 i).1 by omega) (fun cur h => ?_) ((V.1 j).1 + 1) 0 cur (by omega) h)
      refine n_iinc (pc := 99) (c := 1) [(4, .int (nI (I + 1))), (3, .int (nI k)), (2, .int (nI j)), (1, .int (nI i)), (0, .ref Y)] 0 dX12_times__99 rfl (by decide) (by decide) rfl ?_
      refine g_goto (pc := 102) 40 dX12_times__102 (by decide) ?_
      exact GP.lsub _ (by simp) (ih (I + 1) cur (by omega) h)
theorem mulP_hi {f g : Nat → Int} {n2 : Nat} : ∀ (k j : Nat), k + n2 ≤ j → mulP f g n2 k j = 0
  | 0, _, _ => rfl
  | k + 1, j, h => by
    show mulP f g n2 k j + _ = 0
    rw [mulP_hi k j (by omega), if_neg (by omega)]
    rfl
theorem tm_hand {g2 : Nat → Int32} {V : SV} {i j t : Nat} {cur : Nat → Int64} (hV : rowR g2 V) (hi : i < 8) (hj : j < 8) (h : (wpI (toJ (fun t => g2 (14 * i + 1 + t))) (toJ (fun t => g2 (14 * j + 1 + t))) (V.1 j).1 ((V.1 i).1 + 1) 0 cur ∧ ∀ t, 25 ≤ t → t < 60 → cur t = 0)) (ht : t < 60) : (cur t).toInt = mulP (V.1 i).2 (V.1 j).2 (V.1 j).1 ((V.1 i).1 + 1) t := by
  obtain ⟨⟨i1, i2, i3, i4⟩, i5, i6⟩ := hV.1 i hi
  obtain ⟨⟨j1, j2, j3, j4⟩, j5, j6⟩ := hV.1 j hj
  by_cases e : t < 25
  · rw [(h.1 t e).1, if_neg (by omega), mulP_cg (F := toJ (fun t => g2 (14 * i + 1 + t))) (G := toJ (fun t => g2 (14 * j + 1 + t))) (F' := (V.1 i).2) (G' := (V.1 j).2) (fun q hq => j6 q (by omega)) _ (fun q hq => i6 q (by omega))]
    omega
  · rw [h.2 t (by omega) ht, mulP_hi _ _ (by omega)]
    rfl
theorem mq_times (w : Wd) {Y tl : Nat} {tb : Nat → Int32} {fa st : Int32} {rf : Nat → Nat} {sh : SV} {pn : Nat} {pk : Nat → Nat} {ps : Nat → SV} {im : Nat → Option SV} (hM : mdC w Y tl tb fa st rf sh pn pk ps im) {x y z : Int32} : EX12_times_ [.ref Y, .int x, .int y, .int z] w (fun r w' => (¬ (isPl x ∧ isPl y ∧ isPl z) ∧ rfM (-2) 1 w Y tl tb fa rf sh pn pk ps im r w') ∨ (∃ i j k, x = nI i ∧ i < 8 ∧ y = nI j ∧ j < 8 ∧ z = nI k ∧ k < 8 ∧ putM (mulP (sh.1 i).2 (sh.1 j).2 (sh.1 j).1 ((sh.1 i).1 + 1)) 1 k w Y tl tb fa rf sh pn pk ps im r w')) := by
  refine EP.of (plainFor_of_name (by decide)) [(0, .ref Y), (1, .int x), (2, .int y), (3, .int z)] rfl (Nat.le_of_ble_eq_true rfl) (fun r wf h => by rcases h with ⟨-, rfl, -⟩ | ⟨i, j, k, -, -, -, -, -, -, h⟩; trivial; obtain ⟨v, rfl⟩ := putM_int h; trivial) ?_
  show BX12_times_ w _ w 0 [(0, .ref Y), (1, .int x), (2, .int y), (3, .int z)] []
  obtain ⟨⟨th, dg, dd, ld, be, ib, re, ig, hY⟩, ⟨⟨g1, a1, b1⟩, ⟨g2, a2, b2⟩, ⟨g3, g4, a3, a4, b3, b4⟩, ⟨g5, g6, a5, a6, b5⟩, ⟨g11, a11, b11⟩, ⟨g17, a17, b17⟩⟩, ⟨g7, g8, g9, g10, g12, g13, g14, g18, g19, g20, g21, a7, a8, a9, a10, a12, a13, a14, a18, a19, a20, a21⟩, ⟨g15, g16, a15, a16, b15⟩⟩ := id hM
  refine g_aload_n (pc := 0) 0 dX12_times__0 rfl rfl ?_
  refine g_iconst (pc := 1) (v := nI 0) dX12_times__1 (by decide) ?_
  refine g_put (pc := 2) (.int (nI 0) :: .int st :: .ref (Y + 1) :: .ref (Y + 2) :: .ref (Y + 3) :: .ref (Y + 4) :: .int (nI pn) :: .ref (Y + 5) :: .ref (Y + 6) :: .ref (Y + 7) :: .int dg :: .ref (Y + 8) :: .int dd :: .ref (Y + 9) :: .ref (Y + 10) :: .ref (Y + 11) :: .ref (Y + 12) :: .int ld :: .int be :: .int ib :: .ref (Y + 13) :: .ref (Y + 14) :: .ref (Y + 15) :: .ref (Y + 16) :: .ref (Y + 17) :: .int (nI tl) :: .int fa :: .int re :: .int ig :: .ref (Y + 18) :: .ref (Y + 19) :: .ref (Y + 20) :: .ref (Y + 21) :: []) dX12_times__2 fk_X12_83 hY (Nat.le_of_ble_eq_true rfl) rfl rfl ?_
  refine g_iload_n (pc := 5) 1 dX12_times__5 rfl rfl ?_
  refine g_callS (pc := 6) [.int x] dX12_times__6 cs_X12_277.1 cs_X12_277.2 rfl rfl (Nat.le_of_ble_eq_true rfl) (by decide) (by decide) (mp_isStore _) ?_
  rintro _ w9 (⟨rfl, hpi, e9⟩ | ⟨rfl, hpi, e9⟩)
  · refine GP.weq _ e9 ?_
    obtain ⟨i, rfl, hi⟩ := pl_of hpi
    refine n_if_eq (pc := 9) 26 dX12_times__9 (by decide) (by omega) (fun hd9 => ?_) (fun hd9 => ?_)
    · exact absurd hd9 (by decide)
    · refine g_iload_n (pc := 12) 2 dX12_times__12 rfl rfl ?_
      refine g_callS (pc := 13) [.int y] dX12_times__13 cs_X12_277.1 cs_X12_277.2 rfl rfl (Nat.le_of_ble_eq_true rfl) (by decide) (by decide) (mp_isStore _) ?_
      rintro _ w9 (⟨rfl, hpj, e9⟩ | ⟨rfl, hpj, e9⟩)
      · refine GP.weq _ e9 ?_
        obtain ⟨j, rfl, hj⟩ := pl_of hpj
        refine n_if_eq (pc := 16) 26 dX12_times__16 (by decide) (by omega) (fun hd9 => ?_) (fun hd9 => ?_)
        · exact absurd hd9 (by decide)
        · refine g_iload_n (pc := 19) 3 dX12_times__19 rfl rfl ?_
          refine g_callS (pc := 20) [.int z] dX12_times__20 cs_X12_277.1 cs_X12_277.2 rfl rfl (Nat.le_of_ble_eq_true rfl) (by decide) (by decide) (mp_isStore _) ?_
          rintro _ w9 (⟨rfl, hpk, e9⟩ | ⟨rfl, hpk, e9⟩)
          · refine GP.weq _ e9 ?_
            obtain ⟨k, rfl, hk⟩ := pl_of hpk
            refine n_if_ne (pc := 23) 33 dX12_times__23 (by decide) (by omega) (fun hd9 => ?_) (fun hd9 => ?_)
            · refine g_aload_n (pc := 33) 0 dX12_times__33 rfl rfl ?_
              refine g_callV (pc := 34) [] dX12_times__34 cv_X12_116.1 cv_X12_116.2.1 cv_X12_116.2.2.1 cv_X12_116.2.2.2 (lk_eq hY) rfl rfl (Nat.le_of_ble_eq_true rfl) (by decide) (by decide) (mp_empty _ (lk_eq hY) (lk_ne (show Y ≠ (Y + 7) by omega) a7)) ?_
              rintro _ w9 ⟨rfl, e9⟩
              refine GP.weq _ e9 ?_
              refine GP.weq ((w.set Y (.inr (11, .int (nI 0) :: .int st :: .ref (Y + 1) :: .ref (Y + 2) :: .ref (Y + 3) :: .ref (Y + 4) :: .int (nI pn) :: .ref (Y + 5) :: .ref (Y + 6) :: .ref (Y + 7) :: .int (-1) :: .ref (Y + 8) :: .int dd :: .ref (Y + 9) :: .ref (Y + 10) :: .ref (Y + 11) :: .ref (Y + 12) :: .int ld :: .int be :: .int ib :: .ref (Y + 13) :: .ref (Y + 14) :: .ref (Y + 15) :: .ref (Y + 16) :: .ref (Y + 17) :: .int (nI tl) :: .int fa :: .int re :: .int ig :: .ref (Y + 18) :: .ref (Y + 19) :: .ref (Y + 20) :: .ref (Y + 21) :: []))).set (Y + 7) (aL 60 (zrF g7 60))) (by rw [List.set_comm _ _ (show (Y + 7) ≠ Y by omega), List.set_set]) ?_
              obtain ⟨w1, ew1⟩ : ∃ wy : Wd, wy = ((w.set Y (.inr (11, .int (nI 0) :: .int st :: .ref (Y + 1) :: .ref (Y + 2) :: .ref (Y + 3) :: .ref (Y + 4) :: .int (nI pn) :: .ref (Y + 5) :: .ref (Y + 6) :: .ref (Y + 7) :: .int (-1) :: .ref (Y + 8) :: .int dd :: .ref (Y + 9) :: .ref (Y + 10) :: .ref (Y + 11) :: .ref (Y + 12) :: .int ld :: .int be :: .int ib :: .ref (Y + 13) :: .ref (Y + 14) :: .ref (Y + 15) :: .ref (Y + 16) :: .ref (Y + 17) :: .int (nI tl) :: .int fa :: .int re :: .int ig :: .ref (Y + 18) :: .ref (Y + 19) :: .ref (Y + 20) :: .ref (Y + 21) :: []))).set (Y + 7) (aL 60 (zrF g7 60))) := ⟨_, rfl⟩
              refine GP.weq w1 ew1.symm ?_
              have hM1 : mdC w1 Y tl tb fa st rf sh pn pk ps im := by rw [ew1]; exact ⟨⟨_, _, _, _, _, _, _, _, (lk_ne (show (Y + 7) ≠ Y by omega) (lk_eq hY))⟩, ⟨⟨_, (lk_ne (show (Y + 7) ≠ (Y + 1) by omega) (lk_ne (show Y ≠ (Y + 1) by omega) a1)), b1⟩, ⟨_, (lk_ne (show (Y + 7) ≠ (Y + 2) by omega) (lk_ne (show Y ≠ (Y + 2) by omega) a2)), b2⟩, ⟨_, _, (lk_ne (show (Y + 7) ≠ (Y + 3) by omega) (lk_ne (show Y ≠ (Y + 3) by omega) a3)), (lk_ne (show (Y + 7) ≠ (Y + 4) by omega) (lk_ne (show Y ≠ (Y + 4) by omega) a4)), b3, b4⟩, ⟨_, _, (lk_ne (show (Y + 7) ≠ (Y + 5) by omega) (lk_ne (show Y ≠ (Y + 5) by omega) a5)), (lk_ne (show (Y + 7) ≠ (Y + 6) by omega) (lk_ne (show Y ≠ (Y + 6) by omega) a6)), b5⟩, ⟨_, (lk_ne (show (Y + 7) ≠ (Y + 11) by omega) (lk_ne (show Y ≠ (Y + 11) by omega) a11)), b11⟩, ⟨_, (lk_ne (show (Y + 7) ≠ (Y + 17) by omega) (lk_ne (show Y ≠ (Y + 17) by omega) a17)), b17⟩⟩, ⟨_, _, _, _, _, _, _, _, _, _, _, (lk_eq (lk_ne (show Y ≠ (Y + 7) by omega) a7)), (lk_ne (show (Y + 7) ≠ (Y + 8) by omega) (lk_ne (show Y ≠ (Y + 8) by omega) a8)), (lk_ne (show (Y + 7) ≠ (Y + 9) by omega) (lk_ne (show Y ≠ (Y + 9) by omega) a9)), (lk_ne (show (Y + 7) ≠ (Y + 10) by omega) (lk_ne (show Y ≠ (Y + 10) by omega) a10)), (lk_ne (show (Y + 7) ≠ (Y + 12) by omega) (lk_ne (show Y ≠ (Y + 12) by omega) a12)), (lk_ne (show (Y + 7) ≠ (Y + 13) by omega) (lk_ne (show Y ≠ (Y + 13) by omega) a13)), (lk_ne (show (Y + 7) ≠ (Y + 14) by omega) (lk_ne (show Y ≠ (Y + 14) by omega) a14)), (lk_ne (show (Y + 7) ≠ (Y + 18) by omega) (lk_ne (show Y ≠ (Y + 18) by omega) a18)), (lk_ne (show (Y + 7) ≠ (Y + 19) by omega) (lk_ne (show Y ≠ (Y + 19) by omega) a19)), (lk_ne (show (Y + 7) ≠ (Y + 20) by omega) (lk_ne (show Y ≠ (Y + 20) by omega) a20)), (lk_ne (show (Y + 7) ≠ (Y + 21) by omega) (lk_ne (show Y ≠ (Y + 21) by omega) a21))⟩, ⟨_, _, (lk_ne (show (Y + 7) ≠ (Y + 15) by omega) (lk_ne (show Y ≠ (Y + 15) by omega) a15)), (lk_ne (show (Y + 7) ≠ (Y + 16) by omega) (lk_ne (show Y ≠ (Y + 16) by omega) a16)), b15⟩⟩
              have hF1 : FR (modS Y) w w1 := by rw [ew1]; exact (FR.st (c' := aL 60 (zrF g7 60)) (FR.st (c' := .inr (11, .int (nI 0) :: .int st :: .ref (Y + 1) :: .ref (Y + 2) :: .ref (Y + 3) :: .ref (Y + 4) :: .int (nI pn) :: .ref (Y + 5) :: .ref (Y + 6) :: .ref (Y + 7) :: .int (-1) :: .ref (Y + 8) :: .int dd :: .ref (Y + 9) :: .ref (Y + 10) :: .ref (Y + 11) :: .ref (Y + 12) :: .int ld :: .int be :: .int ib :: .ref (Y + 13) :: .ref (Y + 14) :: .ref (Y + 15) :: .ref (Y + 16) :: .ref (Y + 17) :: .int (nI tl) :: .int fa :: .int re :: .int ig :: .ref (Y + 18) :: .ref (Y + 19) :: .ref (Y + 20) :: .ref (Y + 21) :: [])) FR.rf hY rfl (by unfold modS; omega)) (lk_ne (show Y ≠ (Y + 7) by omega) a7) rfl (by unfold modS; omega))
              have c71 : w1[Y + 7]? = some (aL 60 (zrF g7 60)) := by rw [ew1]; exact (lk_eq (lk_ne (show Y ≠ (Y + 7) by omega) a7))
              have cY1 : w1[Y]? = some (.inr (11, .int (nI 0) :: .int st :: .ref (Y + 1) :: .ref (Y + 2) :: .ref (Y + 3) :: .ref (Y + 4) :: .int (nI pn) :: .ref (Y + 5) :: .ref (Y + 6) :: .ref (Y + 7) :: .int (-1) :: .ref (Y + 8) :: .int dd :: .ref (Y + 9) :: .ref (Y + 10) :: .ref (Y + 11) :: .ref (Y + 12) :: .int ld :: .int be :: .int ib :: .ref (Y + 13) :: .ref (Y + 14) :: .ref (Y + 15) :: .ref (Y + 16) :: .ref (Y + 17) :: .int (nI tl) :: .int fa :: .int re :: .int ig :: .ref (Y + 18) :: .ref (Y + 19) :: .ref (Y + 20) :: .ref (Y + 21) :: [])) := by rw [ew1]; exact (lk_ne (show (Y + 7) ≠ Y by omega) (lk_eq hY))
              obtain ⟨⟨th1, dg1, dd1, ld1, be1, ib1, re1, ig1, hY1⟩, ⟨⟨g11, a11, b11⟩, ⟨g21, a21, b21⟩, ⟨g31, g41, a31, a41, b31, b41⟩, ⟨g51, g61, a51, a61, b51⟩, ⟨g111, a111, b111⟩, ⟨g171, a171, b171⟩⟩, ⟨g71, g81, g91, g101, g121, g131, g141, g181, g191, g201, g211, a71, a81, a91, a101, a121, a131, a141, a181, a191, a201, a211⟩, ⟨g151, g161, a151, a161, b151⟩⟩ := id hM1
              refine g_iconst (pc := 37) (v := nI 0) dX12_times__37 (by decide) ?_
              refine g_istore (pc := 38) [(4, .int (nI 0)), (0, .ref Y), (1, .int (nI i)), (2, .int (nI j)), (3, .int (nI k))] dX12_times__38 (by decide) rfl ?_
              obtain ⟨⟨i1, i2, i3, i4⟩, i5, i6⟩ := b2.1 i hi
              obtain ⟨⟨j1, j2, j3, j4⟩, j5, j6⟩ := b2.1 j hj
              obtain ⟨⟨-, -, -, -⟩, -, i61⟩ := b21.1 i hi
              obtain ⟨⟨-, -, -, -⟩, -, j61⟩ := b21.1 j hj
              refine GP.weq (w1.set (Y + 7) (aL 60 (zrF g7 60))) (set_same c71).symm ?_
              refine GP.lsub _ (by simp) (tm_out (k := k) cY1 a21 c71 b21 hi hj (fun h hh => ?_) ((sh.1 i).1 + 1) 0 _ (Nat.zero_add _).symm ⟨fun t ht => ?_, fun t a b => zrF_t b⟩)
              rotate_left
              · rw [zrF_t (by omega), if_neg (by omega)]
                exact ⟨by show (0 : Int) = 0 + 0; rfl, by show _ ≤ (0 : Int); omega, by show (0 : Int) ≤ _; omega, fun _ => ⟨by show _ ≤ (0 : Int); omega, by show (0 : Int) ≤ _; omega⟩⟩
              refine g_aload_n (pc := 105) 3 dX12_times__105 rfl rfl ?_
              refine g_iload_n (pc := 106) 0 dX12_times__106 rfl rfl ?_
              refine g_iconst (pc := 107) (v := nI 1) dX12_times__107 (by decide) ?_
              obtain ⟨wp, ewp⟩ : ∃ wy : Wd, wy = (w1.set (Y + 7) (aL 60 h)) := ⟨_, rfl⟩
              refine GP.weq wp ewp.symm ?_
              have hMp : mdC wp Y tl tb fa st rf sh pn pk ps im := by rw [ewp]; exact ⟨⟨_, _, _, _, _, _, _, _, (lk_ne (show (Y + 7) ≠ Y by omega) cY1)⟩, ⟨⟨_, (lk_ne (show (Y + 7) ≠ (Y + 1) by omega) a11), b11⟩, ⟨_, (lk_ne (show (Y + 7) ≠ (Y + 2) by omega) a21), b21⟩, ⟨_, _, (lk_ne (show (Y + 7) ≠ (Y + 3) by omega) a31), (lk_ne (show (Y + 7) ≠ (Y + 4) by omega) a41), b31, b41⟩, ⟨_, _, (lk_ne (show (Y + 7) ≠ (Y + 5) by omega) a51), (lk_ne (show (Y + 7) ≠ (Y + 6) by omega) a61), b51⟩, ⟨_, (lk_ne (show (Y + 7) ≠ (Y + 11) by omega) a111), b111⟩, ⟨_, (lk_ne (show (Y + 7) ≠ (Y + 17) by omega) a171), b171⟩⟩, ⟨_, _, _, _, _, _, _, _, _, _, _, (lk_eq c71), (lk_ne (show (Y + 7) ≠ (Y + 8) by omega) a81), (lk_ne (show (Y + 7) ≠ (Y + 9) by omega) a91), (lk_ne (show (Y + 7) ≠ (Y + 10) by omega) a101), (lk_ne (show (Y + 7) ≠ (Y + 12) by omega) a121), (lk_ne (show (Y + 7) ≠ (Y + 13) by omega) a131), (lk_ne (show (Y + 7) ≠ (Y + 14) by omega) a141), (lk_ne (show (Y + 7) ≠ (Y + 18) by omega) a181), (lk_ne (show (Y + 7) ≠ (Y + 19) by omega) a191), (lk_ne (show (Y + 7) ≠ (Y + 20) by omega) a201), (lk_ne (show (Y + 7) ≠ (Y + 21) by omega) a211)⟩, ⟨_, _, (lk_ne (show (Y + 7) ≠ (Y + 15) by omega) a151), (lk_ne (show (Y + 7) ≠ (Y + 16) by omega) a161), b151⟩⟩
              have hFp : FR (modS Y) w1 wp := by rw [ewp]; exact (FR.st (c' := aL 60 h) FR.rf c71 rfl (by unfold modS; omega))
              have c7p : wp[Y + 7]? = some (aL 60 h) := by rw [ewp]; exact (lk_eq c71)
              have cYp : wp[Y]? = some (.inr (11, .int (nI 0) :: .int st :: .ref (Y + 1) :: .ref (Y + 2) :: .ref (Y + 3) :: .ref (Y + 4) :: .int (nI pn) :: .ref (Y + 5) :: .ref (Y + 6) :: .ref (Y + 7) :: .int (-1) :: .ref (Y + 8) :: .int dd :: .ref (Y + 9) :: .ref (Y + 10) :: .ref (Y + 11) :: .ref (Y + 12) :: .int ld :: .int be :: .int ib :: .ref (Y + 13) :: .ref (Y + 14) :: .ref (Y + 15) :: .ref (Y + 16) :: .ref (Y + 17) :: .int (nI tl) :: .int fa :: .int re :: .int ig :: .ref (Y + 18) :: .ref (Y + 19) :: .ref (Y + 20) :: .ref (Y + 21) :: [])) := by rw [ewp]; exact (lk_ne (show (Y + 7) ≠ Y by omega) cY1)
              refine g_callV (pc := 108) [.int (nI k), .int (nI 1)] dX12_times__108 cv_X12_286.1 cv_X12_286.2.1 cv_X12_286.2.2.1 cv_X12_286.2.2.2 cYp rfl rfl (Nat.le_of_ble_eq_true rfl) (by decide) (by decide) (mq_put _ hMp (kd := 1) (k := k) (F := mulP (sh.1 i).2 (sh.1 j).2 (sh.1 j).1 ((sh.1 i).1 + 1)) c7p (fun t ht => tm_hand b21 hi hj hh ht) (fun t a _ => mulP_hi _ _ (by omega)) hk) ?_
              rintro rz wq hR
              obtain ⟨vz, rfl⟩ : ∃ vz, rz = some (.int vz) := putM_int hR
              exact g_iret (pc := 111) dX12_times__111 (Or.inr ⟨i, j, k, rfl, hi, rfl, hj, rfl, hk, (putM.fr hR (hF1.tr hFp))⟩)
            · exact absurd hd9 (by decide)
          · refine GP.weq _ e9 ?_
            refine n_if_ne (pc := 23) 33 dX12_times__23 (by decide) (by omega) (fun hd9 => ?_) (fun hd9 => ?_)
            · exact absurd rfl hd9
            · refine g_aload_n (pc := 26) 0 dX12_times__26 rfl rfl ?_
              refine g_bipush (pc := 27) (v := -2) dX12_times__27 (by decide) ?_
              obtain ⟨wr, ewr⟩ : ∃ wy : Wd, wy = (w.set Y (.inr (11, .int (nI 0) :: .int st :: .ref (Y + 1) :: .ref (Y + 2) :: .ref (Y + 3) :: .ref (Y + 4) :: .int (nI pn) :: .ref (Y + 5) :: .ref (Y + 6) :: .ref (Y + 7) :: .int dg :: .ref (Y + 8) :: .int dd :: .ref (Y + 9) :: .ref (Y + 10) :: .ref (Y + 11) :: .ref (Y + 12) :: .int ld :: .int be :: .int ib :: .ref (Y + 13) :: .ref (Y + 14) :: .ref (Y + 15) :: .ref (Y + 16) :: .ref (Y + 17) :: .int (nI tl) :: .int fa :: .int re :: .int ig :: .ref (Y + 18) :: .ref (Y + 19) :: .ref (Y + 20) :: .ref (Y + 21) :: []))) := ⟨_, rfl⟩
              refine GP.weq wr ewr.symm ?_
              have hMr : mdC wr Y tl tb fa st rf sh pn pk ps im := by rw [ewr]; exact ⟨⟨_, _, _, _, _, _, _, _, (lk_eq hY)⟩, ⟨⟨_, (lk_ne (show Y ≠ (Y + 1) by omega) a1), b1⟩, ⟨_, (lk_ne (show Y ≠ (Y + 2) by omega) a2), b2⟩, ⟨_, _, (lk_ne (show Y ≠ (Y + 3) by omega) a3), (lk_ne (show Y ≠ (Y + 4) by omega) a4), b3, b4⟩, ⟨_, _, (lk_ne (show Y ≠ (Y + 5) by omega) a5), (lk_ne (show Y ≠ (Y + 6) by omega) a6), b5⟩, ⟨_, (lk_ne (show Y ≠ (Y + 11) by omega) a11), b11⟩, ⟨_, (lk_ne (show Y ≠ (Y + 17) by omega) a17), b17⟩⟩, ⟨_, _, _, _, _, _, _, _, _, _, _, (lk_ne (show Y ≠ (Y + 7) by omega) a7), (lk_ne (show Y ≠ (Y + 8) by omega) a8), (lk_ne (show Y ≠ (Y + 9) by omega) a9), (lk_ne (show Y ≠ (Y + 10) by omega) a10), (lk_ne (show Y ≠ (Y + 12) by omega) a12), (lk_ne (show Y ≠ (Y + 13) by omega) a13), (lk_ne (show Y ≠ (Y + 14) by omega) a14), (lk_ne (show Y ≠ (Y + 18) by omega) a18), (lk_ne (show Y ≠ (Y + 19) by omega) a19), (lk_ne (show Y ≠ (Y + 20) by omega) a20), (lk_ne (show Y ≠ (Y + 21) by omega) a21)⟩, ⟨_, _, (lk_ne (show Y ≠ (Y + 15) by omega) a15), (lk_ne (show Y ≠ (Y + 16) by omega) a16), b15⟩⟩
              have hFr : FR (modS Y) w wr := by rw [ewr]; exact (FR.st (c' := .inr (11, .int (nI 0) :: .int st :: .ref (Y + 1) :: .ref (Y + 2) :: .ref (Y + 3) :: .ref (Y + 4) :: .int (nI pn) :: .ref (Y + 5) :: .ref (Y + 6) :: .ref (Y + 7) :: .int dg :: .ref (Y + 8) :: .int dd :: .ref (Y + 9) :: .ref (Y + 10) :: .ref (Y + 11) :: .ref (Y + 12) :: .int ld :: .int be :: .int ib :: .ref (Y + 13) :: .ref (Y + 14) :: .ref (Y + 15) :: .ref (Y + 16) :: .ref (Y + 17) :: .int (nI tl) :: .int fa :: .int re :: .int ig :: .ref (Y + 18) :: .ref (Y + 19) :: .ref (Y + 20) :: .ref (Y + 21) :: [])) FR.rf hY rfl (by unfold modS; omega))
              refine g_callV (pc := 29) [.int (-2)] dX12_times__29 cv_X12_96.1 cv_X12_96.2.1 cv_X12_96.2.2.1 cv_X12_96.2.2.2 (by rw [ewr]; exact (lk_eq hY)) rfl rfl (Nat.le_of_ble_eq_true rfl) (by decide) (by decide) (mq_refuse2 _ hMr) ?_
              rintro _ wq ⟨rfl, hR⟩
              exact g_iret (pc := 32) dX12_times__32 (Or.inl ⟨fun g => hpk g.2.2, ⟨rfl, hR.1, hFr.tr hR.2⟩⟩)
      · refine GP.weq _ e9 ?_
        refine n_if_eq (pc := 16) 26 dX12_times__16 (by decide) (by omega) (fun hd9 => ?_) (fun hd9 => ?_)
        · refine g_aload_n (pc := 26) 0 dX12_times__26 rfl rfl ?_
          refine g_bipush (pc := 27) (v := -2) dX12_times__27 (by decide) ?_
          obtain ⟨wr, ewr⟩ : ∃ wy : Wd, wy = (w.set Y (.inr (11, .int (nI 0) :: .int st :: .ref (Y + 1) :: .ref (Y + 2) :: .ref (Y + 3) :: .ref (Y + 4) :: .int (nI pn) :: .ref (Y + 5) :: .ref (Y + 6) :: .ref (Y + 7) :: .int dg :: .ref (Y + 8) :: .int dd :: .ref (Y + 9) :: .ref (Y + 10) :: .ref (Y + 11) :: .ref (Y + 12) :: .int ld :: .int be :: .int ib :: .ref (Y + 13) :: .ref (Y + 14) :: .ref (Y + 15) :: .ref (Y + 16) :: .ref (Y + 17) :: .int (nI tl) :: .int fa :: .int re :: .int ig :: .ref (Y + 18) :: .ref (Y + 19) :: .ref (Y + 20) :: .ref (Y + 21) :: []))) := ⟨_, rfl⟩
          refine GP.weq wr ewr.symm ?_
          have hMr : mdC wr Y tl tb fa st rf sh pn pk ps im := by rw [ewr]; exact ⟨⟨_, _, _, _, _, _, _, _, (lk_eq hY)⟩, ⟨⟨_, (lk_ne (show Y ≠ (Y + 1) by omega) a1), b1⟩, ⟨_, (lk_ne (show Y ≠ (Y + 2) by omega) a2), b2⟩, ⟨_, _, (lk_ne (show Y ≠ (Y + 3) by omega) a3), (lk_ne (show Y ≠ (Y + 4) by omega) a4), b3, b4⟩, ⟨_, _, (lk_ne (show Y ≠ (Y + 5) by omega) a5), (lk_ne (show Y ≠ (Y + 6) by omega) a6), b5⟩, ⟨_, (lk_ne (show Y ≠ (Y + 11) by omega) a11), b11⟩, ⟨_, (lk_ne (show Y ≠ (Y + 17) by omega) a17), b17⟩⟩, ⟨_, _, _, _, _, _, _, _, _, _, _, (lk_ne (show Y ≠ (Y + 7) by omega) a7), (lk_ne (show Y ≠ (Y + 8) by omega) a8), (lk_ne (show Y ≠ (Y + 9) by omega) a9), (lk_ne (show Y ≠ (Y + 10) by omega) a10), (lk_ne (show Y ≠ (Y + 12) by omega) a12), (lk_ne (show Y ≠ (Y + 13) by omega) a13), (lk_ne (show Y ≠ (Y + 14) by omega) a14), (lk_ne (show Y ≠ (Y + 18) by omega) a18), (lk_ne (show Y ≠ (Y + 19) by omega) a19), (lk_ne (show Y ≠ (Y + 20) by omega) a20), (lk_ne (show Y ≠ (Y + 21) by omega) a21)⟩, ⟨_, _, (lk_ne (show Y ≠ (Y + 15) by omega) a15), (lk_ne (show Y ≠ (Y + 16) by omega) a16), b15⟩⟩
          have hFr : FR (modS Y) w wr := by rw [ewr]; exact (FR.st (c' := .inr (11, .int (nI 0) :: .int st :: .ref (Y + 1) :: .ref (Y + 2) :: .ref (Y + 3) :: .ref (Y + 4) :: .int (nI pn) :: .ref (Y + 5) :: .ref (Y + 6) :: .ref (Y + 7) :: .int dg :: .ref (Y + 8) :: .int dd :: .ref (Y + 9) :: .ref (Y + 10) :: .ref (Y + 11) :: .ref (Y + 12) :: .int ld :: .int be :: .int ib :: .ref (Y + 13) :: .ref (Y + 14) :: .ref (Y + 15) :: .ref (Y + 16) :: .ref (Y + 17) :: .int (nI tl) :: .int fa :: .int re :: .int ig :: .ref (Y + 18) :: .ref (Y + 19) :: .ref (Y + 20) :: .ref (Y + 21) :: [])) FR.rf hY rfl (by unfold modS; omega))
          refine g_callV (pc := 29) [.int (-2)] dX12_times__29 cv_X12_96.1 cv_X12_96.2.1 cv_X12_96.2.2.1 cv_X12_96.2.2.2 (by rw [ewr]; exact (lk_eq hY)) rfl rfl (Nat.le_of_ble_eq_true rfl) (by decide) (by decide) (mq_refuse2 _ hMr) ?_
          rintro _ wq ⟨rfl, hR⟩
          exact g_iret (pc := 32) dX12_times__32 (Or.inl ⟨fun g => hpj g.2.1, ⟨rfl, hR.1, hFr.tr hR.2⟩⟩)
        · exact absurd rfl hd9
  · refine GP.weq _ e9 ?_
    refine n_if_eq (pc := 9) 26 dX12_times__9 (by decide) (by omega) (fun hd9 => ?_) (fun hd9 => ?_)
    · refine g_aload_n (pc := 26) 0 dX12_times__26 rfl rfl ?_
      refine g_bipush (pc := 27) (v := -2) dX12_times__27 (by decide) ?_
      obtain ⟨wr, ewr⟩ : ∃ wy : Wd, wy = (w.set Y (.inr (11, .int (nI 0) :: .int st :: .ref (Y + 1) :: .ref (Y + 2) :: .ref (Y + 3) :: .ref (Y + 4) :: .int (nI pn) :: .ref (Y + 5) :: .ref (Y + 6) :: .ref (Y + 7) :: .int dg :: .ref (Y + 8) :: .int dd :: .ref (Y + 9) :: .ref (Y + 10) :: .ref (Y + 11) :: .ref (Y + 12) :: .int ld :: .int be :: .int ib :: .ref (Y + 13) :: .ref (Y + 14) :: .ref (Y + 15) :: .ref (Y + 16) :: .ref (Y + 17) :: .int (nI tl) :: .int fa :: .int re :: .int ig :: .ref (Y + 18) :: .ref (Y + 19) :: .ref (Y + 20) :: .ref (Y + 21) :: []))) := ⟨_, rfl⟩
      refine GP.weq wr ewr.symm ?_
      have hMr : mdC wr Y tl tb fa st rf sh pn pk ps im := by rw [ewr]; exact ⟨⟨_, _, _, _, _, _, _, _, (lk_eq hY)⟩, ⟨⟨_, (lk_ne (show Y ≠ (Y + 1) by omega) a1), b1⟩, ⟨_, (lk_ne (show Y ≠ (Y + 2) by omega) a2), b2⟩, ⟨_, _, (lk_ne (show Y ≠ (Y + 3) by omega) a3), (lk_ne (show Y ≠ (Y + 4) by omega) a4), b3, b4⟩, ⟨_, _, (lk_ne (show Y ≠ (Y + 5) by omega) a5), (lk_ne (show Y ≠ (Y + 6) by omega) a6), b5⟩, ⟨_, (lk_ne (show Y ≠ (Y + 11) by omega) a11), b11⟩, ⟨_, (lk_ne (show Y ≠ (Y + 17) by omega) a17), b17⟩⟩, ⟨_, _, _, _, _, _, _, _, _, _, _, (lk_ne (show Y ≠ (Y + 7) by omega) a7), (lk_ne (show Y ≠ (Y + 8) by omega) a8), (lk_ne (show Y ≠ (Y + 9) by omega) a9), (lk_ne (show Y ≠ (Y + 10) by omega) a10), (lk_ne (show Y ≠ (Y + 12) by omega) a12), (lk_ne (show Y ≠ (Y + 13) by omega) a13), (lk_ne (show Y ≠ (Y + 14) by omega) a14), (lk_ne (show Y ≠ (Y + 18) by omega) a18), (lk_ne (show Y ≠ (Y + 19) by omega) a19), (lk_ne (show Y ≠ (Y + 20) by omega) a20), (lk_ne (show Y ≠ (Y + 21) by omega) a21)⟩, ⟨_, _, (lk_ne (show Y ≠ (Y + 15) by omega) a15), (lk_ne (show Y ≠ (Y + 16) by omega) a16), b15⟩⟩
      have hFr : FR (modS Y) w wr := by rw [ewr]; exact (FR.st (c' := .inr (11, .int (nI 0) :: .int st :: .ref (Y + 1) :: .ref (Y + 2) :: .ref (Y + 3) :: .ref (Y + 4) :: .int (nI pn) :: .ref (Y + 5) :: .ref (Y + 6) :: .ref (Y + 7) :: .int dg :: .ref (Y + 8) :: .int dd :: .ref (Y + 9) :: .ref (Y + 10) :: .ref (Y + 11) :: .ref (Y + 12) :: .int ld :: .int be :: .int ib :: .ref (Y + 13) :: .ref (Y + 14) :: .ref (Y + 15) :: .ref (Y + 16) :: .ref (Y + 17) :: .int (nI tl) :: .int fa :: .int re :: .int ig :: .ref (Y + 18) :: .ref (Y + 19) :: .ref (Y + 20) :: .ref (Y + 21) :: [])) FR.rf hY rfl (by unfold modS; omega))
      refine g_callV (pc := 29) [.int (-2)] dX12_times__29 cv_X12_96.1 cv_X12_96.2.1 cv_X12_96.2.2.1 cv_X12_96.2.2.2 (by rw [ewr]; exact (lk_eq hY)) rfl rfl (Nat.le_of_ble_eq_true rfl) (by decide) (by decide) (mq_refuse2 _ hMr) ?_
      rintro _ wq ⟨rfl, hR⟩
      exact g_iret (pc := 32) dX12_times__32 (Or.inl ⟨fun g => hpi g.1, ⟨rfl, hR.1, hFr.tr hR.2⟩⟩)
    · exact absurd rfl hd9
