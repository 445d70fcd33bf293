/-! the reference: term -/
theorem hm_add {h : Nat → Int64} {pw n mi : Nat} {x : Int64} (hb : ∀ j, j < 60 → -1000000000 ≤ (h j).toInt ∧ (h j).toInt ≤ 1000000000) (hp : pw ≤ 12) (hn : n ≤ 9999) (hx : x.toInt = if mi = 0 then (n : Int) else -n) : ∀ j, j < 60 → (vp_updL h pw (h pw + x) j).toInt = addT (toI h) mi pw n j := fun j hj => by
  unfold addT
  by_cases e : j = pw
  · have := hb pw (by omega)
    rw [e, upL_s, if_pos rfl, ← hx]
    by_cases g : mi = 0
    · rw [if_pos g] at hx
      exact L_add (by omega) (by omega)
    · rw [if_neg g] at hx
      exact L_add (by omega) (by omega)
  · rw [upL_n e, if_neg e]
    show _ = (h j).toInt + 0
    omega
abbrev BX12_term (w0 : Wd) (Post : Option Value → Wd → Prop) (w : Wd) (pc : Nat) (ls : List (Nat × Value)) (st : List Value) : Prop := GP "term" RX12 cX12_term 5 none 3 117 none w0 Post w pc ls st
abbrev EX12_term (As : List Value) (w : Wd) (Post : Option Value → Wd → Prop) : Prop := EP yX12_term cX12_term 5 none 3 As w Post
theorem trm_0 {w0 w : Wd} {Y ln p : Nat} {th st nu dg dd ld be ib fa : Int32} {f : Nat → Int32} {h : Nat → Int64} (hY : w[Y]? = some (oM Y th st nu dg dd ld be ib (nI ln) fa (nI p) (nI 1))) (h7 : w[Y + 7]? = some (aL 60 h)) (h17 : w[Y + 17]? = some (aI 2 400 f)) (hs : sbT f ln) (hb : ∀ j, j < 60 → -1000000000 ≤ (h j).toInt ∧ (h j).toInt ≤ 1000000000) {num n e st9 : Nat} (hn : n ≤ 9999) (hnum : num ≤ 1) (he : e ≤ ln) : BX12_term w0 (fun r w' => r = none ∧ ((∃ e0 r1, pTn f ln num st9 n e = .inl e0 ∧ r1 ≤ ln ∧ w' = w.set Y (oM Y th st nu dg dd ld be ib (nI ln) (nI e0) (nI r1) (nI 0))) ∨ (∃ pw sz q r1, pTn f ln num st9 n e = .inr (pw, sz, q) ∧ r1 ≤ ln ∧ skB f ln r1 = q ∧ ∃ h' : Nat → Int64, (∀ j, j < 60 → (h' j).toInt = addT (toI h) 0 pw sz j) ∧ w' = (w.set Y (oM Y th st nu dg dd ld be ib (nI ln) fa (nI r1) (nI 1))).set (Y + 7) (aL 60 h')))) (w.set Y (.inr (11, .int th :: .int st :: .ref (Y + 1) :: .ref (Y + 2) :: .ref (Y + 3) :: .ref (Y + 4) :: .int nu :: .ref (Y + 5) :: .ref (Y + 6) :: .ref (Y + 7) :: .int dg :: .ref (Y + 8) :: .int dd :: .ref (Y + 9) :: .ref (Y + 10) :: .ref (Y + 11) :: .ref (Y + 12) :: .int ld :: .int be :: .int ib :: .ref (Y + 13) :: .ref (Y + 14) :: .ref (Y + 15) :: .ref (Y + 16) :: .ref (Y + 17) :: .int (nI ln) :: .int fa :: .int (nI e) :: .int (nI 1) :: .ref (Y + 18) :: .ref (Y + 19) :: .ref (Y + 20) :: .ref (Y + 21) :: []))) 22 [(3, .int (nI num)), (2, .int (nI n)), (1, .int (nI 1)), (0, .ref Y)] [] := by
  have hl := hs.1
  have hk1 := skB_le (f := f) he
  have eP : pTn f ln num st9 n e = if skB f ln e < ln ∧ ub (f (skB f ln e)) = 120 then pTx f ln n (skB f ln (skB f ln e + 1)) else if num = 0 then .inl (skB f ln e) else .inr (0, n, skB f ln e) := by
    show (if 9999 < n then _ else _) = _
    rw [if_neg (by omega)]
  have hsi : skB f ln (skB f ln e) = skB f ln e := skB_id
  rw [eP]
  obtain ⟨q2, hq2⟩ : ∃ q2, q2 = skB f ln e := ⟨_, rfl⟩
  rw [← hq2] at hk1 hsi ⊢
  have hx1 := chA_c (f := f) (q := q2) (c := 120) hs (by decide)
  refine g_iconst (pc := 22) (v := nI 0) dX12_term_22 (by decide) ?_
  refine g_istore (pc := 23) [(4, .int (nI 0)), (3, .int (nI num)), (2, .int (nI n)), (1, .int (nI 1)), (0, .ref Y)] dX12_term_23 (by decide) rfl ?_
  refine g_aload_n (pc := 25) 4 dX12_term_25 rfl rfl ?_
  refine g_get (pc := 26) dX12_term_26 fk_X12_262 (lk_eq hY) rfl ?_
  refine n_if_eq (pc := 29) 84 dX12_term_29 (by decide) (by omega) (fun hg => ?_) (fun hg => ?_)
  · exact absurd hg (by decide)
  · refine g_aload_n (pc := 32) 4 dX12_term_32 rfl rfl ?_
    refine g_callV (pc := 33) [] dX12_term_33 cv_X12_265.1 cv_X12_265.2.1 cv_X12_265.2.2.1 cv_X12_265.2.2.2 (lk_eq hY) rfl rfl (Nat.le_of_ble_eq_true rfl) (by decide) (by decide) (mp_sign _ (lk_eq hY) (lk_ne (show Y ≠ (Y + 17) by omega) h17) hs he) ?_
    rintro _ w9 ⟨rfl, e9⟩
    rw [← hq2] at e9 ⊢
    refine GP.weq _ e9 ?_
    refine GP.weq (w.set Y (.inr (11, .int th :: .int st :: .ref (Y + 1) :: .ref (Y + 2) :: .ref (Y + 3) :: .ref (Y + 4) :: .int nu :: .ref (Y + 5) :: .ref (Y + 6) :: .ref (Y + 7) :: .int dg :: .ref (Y + 8) :: .int dd :: .ref (Y + 9) :: .ref (Y + 10) :: .ref (Y + 11) :: .ref (Y + 12) :: .int ld :: .int be :: .int ib :: .ref (Y + 13) :: .ref (Y + 14) :: .ref (Y + 15) :: .ref (Y + 16) :: .ref (Y + 17) :: .int (nI ln) :: .int fa :: .int (nI q2) :: .int (nI 1) :: .ref (Y + 18) :: .ref (Y + 19) :: .ref (Y + 20) :: .ref (Y + 21) :: []))) (by rw [show ((w.set Y (.inr (11, .int th :: .int st :: .ref (Y + 1) :: .ref (Y + 2) :: .ref (Y + 3) :: .ref (Y + 4) :: .int nu :: .ref (Y + 5) :: .ref (Y + 6) :: .ref (Y + 7) :: .int dg :: .ref (Y + 8) :: .int dd :: .ref (Y + 9) :: .ref (Y + 10) :: .ref (Y + 11) :: .ref (Y + 12) :: .int ld :: .int be :: .int ib :: .ref (Y + 13) :: .ref (Y + 14) :: .ref (Y + 15) :: .ref (Y + 16) :: .ref (Y + 17) :: .int (nI ln) :: .int fa :: .int (nI e) :: .int (nI 1) :: .ref (Y + 18) :: .ref (Y + 19) :: .ref (Y + 20) :: .ref (Y + 21) :: []))).set Y (.inr (11, .int th :: .int st :: .ref (Y + 1) :: .ref (Y + 2) :: .ref (Y + 3) :: .ref (Y + 4) :: .int nu :: .ref (Y + 5) :: .ref (Y + 6) :: .ref (Y + 7) :: .int dg :: .ref (Y + 8) :: .int dd :: .ref (Y + 9) :: .ref (Y + 10) :: .ref (Y + 11) :: .ref (Y + 12) :: .int ld :: .int be :: .int ib :: .ref (Y + 13) :: .ref (Y + 14) :: .ref (Y + 15) :: .ref (Y + 16) :: .ref (Y + 17) :: .int (nI ln) :: .int fa :: .int (nI q2) :: .int (nI 1) :: .ref (Y + 18) :: .ref (Y + 19) :: .ref (Y + 20) :: .ref (Y + 21) :: []))) = (w.set Y (.inr (11, .int th :: .int st :: .ref (Y + 1) :: .ref (Y + 2) :: .ref (Y + 3) :: .ref (Y + 4) :: .int nu :: .ref (Y + 5) :: .ref (Y + 6) :: .ref (Y + 7) :: .int dg :: .ref (Y + 8) :: .int dd :: .ref (Y + 9) :: .ref (Y + 10) :: .ref (Y + 11) :: .ref (Y + 12) :: .int ld :: .int be :: .int ib :: .ref (Y + 13) :: .ref (Y + 14) :: .ref (Y + 15) :: .ref (Y + 16) :: .ref (Y + 17) :: .int (nI ln) :: .int fa :: .int (nI q2) :: .int (nI 1) :: .ref (Y + 18) :: .ref (Y + 19) :: .ref (Y + 20) :: .ref (Y + 21) :: []))) from by rw [List.set_set]]) ?_
    refine g_bipush (pc := 36) (v := nI 120) dX12_term_36 (by decide) ?_
    refine g_icmp_ne (pc := 38) 84 dX12_term_38 (by decide) (fun hx => ?_) (fun hx => ?_)
    · rw [hx1] at hx
      rw [if_neg hx]
      refine g_aload_n (pc := 84) 4 dX12_term_84 rfl rfl ?_
      refine g_get (pc := 85) dX12_term_85 fk_X12_262 (lk_eq hY) rfl ?_
      refine n_if_eq (pc := 88) 104 dX12_term_88 (by decide) (by omega) (fun hg2 => ?_) (fun hg2 => ?_)
      · exact absurd hg2 (by decide)
      · refine g_iload_n (pc := 91) 1 dX12_term_91 rfl rfl ?_
        refine n_if_ne (pc := 92) 104 dX12_term_92 (by decide) (by omega) (fun hn9 => ?_) (fun hn9 => ?_)
        · rw [if_neg hn9]
          refine g_aload_n (pc := 104) 4 dX12_term_104 rfl rfl ?_
          refine g_get (pc := 105) dX12_term_105 fk_X12_262 (lk_eq hY) rfl ?_
          refine n_if_eq (pc := 108) 125 dX12_term_108 (by decide) (by omega) (fun hg9 => ?_) (fun hg9 => ?_)
          · exact absurd hg9 (by decide)
          · refine g_aload_n (pc := 111) 4 dX12_term_111 rfl rfl ?_
            refine g_get (pc := 112) dX12_term_112 fk_X12_29 (lk_eq hY) rfl ?_
            refine g_iload (pc := 115) 0 dX12_term_115 rfl ?_
            refine g_dup2 (pc := 117) dX12_term_117 rfl rfl ?_
            refine g_lald (pc := 118) 0 dX12_term_118 (lk_ne (show Y ≠ (Y + 7) by omega) h7) (IXn (by omega) (by omega)) ?_
            refine g_iload_n (pc := 119) 3 dX12_term_119 rfl rfl ?_
            refine g_iload_n (pc := 120) 2 dX12_term_120 rfl rfl ?_
            refine n_imul (pc := 121) dX12_term_121 ?_
            refine GP.ti (nI n) (by rw [Nat.one_mul]) ?_
            refine g_i2l (pc := 122) dX12_term_122 ?_
            refine g_ladd (pc := 123) dX12_term_123 ?_
            refine g_last (pc := 124) 0 dX12_term_124 (lk_ne (show Y ≠ (Y + 7) by omega) h7) (IXn (by omega) (by omega)) ?_
            exact g_vret (pc := 125) dX12_term_125 ⟨rfl, Or.inr ⟨0, n, _, q2, rfl, by omega, hsi, _, hm_add (mi := 0) hb (by omega) (by omega) (by rw [IL, nI_toInt (by omega)]; rfl), rfl⟩⟩
        · have hn8 : num = 0 := by omega
          rw [if_pos hn8]
          refine g_aload_n (pc := 95) 4 dX12_term_95 rfl rfl ?_
          refine g_aload_n (pc := 96) 4 dX12_term_96 rfl rfl ?_
          refine g_get (pc := 97) dX12_term_97 fk_X12_255 (lk_eq hY) rfl ?_
          refine g_callV (pc := 100) [.int (nI q2)] dX12_term_100 cv_X12_271.1 cv_X12_271.2.1 cv_X12_271.2.2.1 cv_X12_271.2.2.2 (lk_eq hY) rfl rfl (Nat.le_of_ble_eq_true rfl) (by decide) (by decide) (mp_wrong _ (lk_eq hY)) ?_
          rintro _ w9 ⟨rfl, e9⟩
          refine GP.weq _ e9 ?_
          refine GP.weq (w.set Y (.inr (11, .int th :: .int st :: .ref (Y + 1) :: .ref (Y + 2) :: .ref (Y + 3) :: .ref (Y + 4) :: .int nu :: .ref (Y + 5) :: .ref (Y + 6) :: .ref (Y + 7) :: .int dg :: .ref (Y + 8) :: .int dd :: .ref (Y + 9) :: .ref (Y + 10) :: .ref (Y + 11) :: .ref (Y + 12) :: .int ld :: .int be :: .int ib :: .ref (Y + 13) :: .ref (Y + 14) :: .ref (Y + 15) :: .ref (Y + 16) :: .ref (Y + 17) :: .int (nI ln) :: .int (nI q2) :: .int (nI q2) :: .int (nI 0) :: .ref (Y + 18) :: .ref (Y + 19) :: .ref (Y + 20) :: .ref (Y + 21) :: []))) (by rw [show ((w.set Y (.inr (11, .int th :: .int st :: .ref (Y + 1) :: .ref (Y + 2) :: .ref (Y + 3) :: .ref (Y + 4) :: .int nu :: .ref (Y + 5) :: .ref (Y + 6) :: .ref (Y + 7) :: .int dg :: .ref (Y + 8) :: .int dd :: .ref (Y + 9) :: .ref (Y + 10) :: .ref (Y + 11) :: .ref (Y + 12) :: .int ld :: .int be :: .int ib :: .ref (Y + 13) :: .ref (Y + 14) :: .ref (Y + 15) :: .ref (Y + 16) :: .ref (Y + 17) :: .int (nI ln) :: .int fa :: .int (nI q2) :: .int (nI 1) :: .ref (Y + 18) :: .ref (Y + 19) :: .ref (Y + 20) :: .ref (Y + 21) :: []))).set Y (.inr (11, .int th :: .int st :: .ref (Y + 1) :: .ref (Y + 2) :: .ref (Y + 3) :: .ref (Y + 4) :: .int nu :: .ref (Y + 5) :: .ref (Y + 6) :: .ref (Y + 7) :: .int dg :: .ref (Y + 8) :: .int dd :: .ref (Y + 9) :: .ref (Y + 10) :: .ref (Y + 11) :: .ref (Y + 12) :: .int ld :: .int be :: .int ib :: .ref (Y + 13) :: .ref (Y + 14) :: .ref (Y + 15) :: .ref (Y + 16) :: .ref (Y + 17) :: .int (nI ln) :: .int (nI q2) :: .int (nI q2) :: .int (nI 0) :: .ref (Y + 18) :: .ref (Y + 19) :: .ref (Y + 20) :: .ref (Y + 21) :: []))) = (w.set Y (.inr (11, .int th :: .int st :: .ref (Y + 1) :: .ref (Y + 2) :: .ref (Y + 3) :: .ref (Y + 4) :: .int nu :: .ref (Y + 5) :: .ref (Y + 6) :: .ref (Y + 7) :: .int dg :: .ref (Y + 8) :: .int dd :: .ref (Y + 9) :: .ref (Y + 10) :: .ref (Y + 11) :: .ref (Y + 12) :: .int ld :: .int be :: .int ib :: .ref (Y + 13) :: .ref (Y + 14) :: .ref (Y + 15) :: .ref (Y + 16) :: .ref (Y + 17) :: .int (nI ln) :: .int (nI q2) :: .int (nI q2) :: .int (nI 0) :: .ref (Y + 18) :: .ref (Y + 19) :: .ref (Y + 20) :: .ref (Y + 21) :: []))) from by rw [List.set_set]]) ?_
          refine g_pop (pc := 103) dX12_term_103 rfl ?_
          refine g_aload_n (pc := 104) 4 dX12_term_104 rfl rfl ?_
          refine g_get (pc := 105) dX12_term_105 fk_X12_262 (lk_eq hY) rfl ?_
          refine n_if_eq (pc := 108) 125 dX12_term_108 (by decide) (by omega) (fun hg3 => ?_) (fun hg3 => ?_)
          · exact g_vret (pc := 125) dX12_term_125 ⟨rfl, Or.inl ⟨q2, q2, rfl, by omega, rfl⟩⟩
          · exact absurd rfl hg3
    · rw [Classical.not_not, hx1] at hx
      rw [if_pos hx]
      have hk2 := skB_le (f := f) (p := q2 + 1) (ln := ln) (by omega)
      have hsi2 : skB f ln (skB f ln (q2 + 1)) = skB f ln (q2 + 1) := skB_id
      obtain ⟨q3, hq3⟩ : ∃ q3, q3 = skB f ln (q2 + 1) := ⟨_, rfl⟩
      rw [← hq3] at hk2 hsi2 ⊢
      have hx3 := chA_c (f := f) (q := q3) (c := 94) hs (by decide)
      unfold pTx
      refine g_aload_n (pc := 41) 4 dX12_term_41 rfl rfl ?_
      refine g_dup (pc := 42) dX12_term_42 rfl ?_
      refine g_get (pc := 43) dX12_term_43 fk_X12_255 (lk_eq hY) rfl ?_
      refine g_iconst (pc := 46) (v := nI 1) dX12_term_46 (by decide) ?_
      refine n_iadd (pc := 47) dX12_term_47 ?_
      refine g_put (pc := 48) (.int th :: .int st :: .ref (Y + 1) :: .ref (Y + 2) :: .ref (Y + 3) :: .ref (Y + 4) :: .int nu :: .ref (Y + 5) :: .ref (Y + 6) :: .ref (Y + 7) :: .int dg :: .ref (Y + 8) :: .int dd :: .ref (Y + 9) :: .ref (Y + 10) :: .ref (Y + 11) :: .ref (Y + 12) :: .int ld :: .int be :: .int ib :: .ref (Y + 13) :: .ref (Y + 14) :: .ref (Y + 15) :: .ref (Y + 16) :: .ref (Y + 17) :: .int (nI ln) :: .int fa :: .int (nI (q2 + 1)) :: .int (nI 1) :: .ref (Y + 18) :: .ref (Y + 19) :: .ref (Y + 20) :: .ref (Y + 21) :: []) dX12_term_48 fk_X12_255 (lk_eq hY) (Nat.le_of_ble_eq_true rfl) rfl rfl ?_
      refine GP.weq (w.set Y (.inr (11, .int th :: .int st :: .ref (Y + 1) :: .ref (Y + 2) :: .ref (Y + 3) :: .ref (Y + 4) :: .int nu :: .ref (Y + 5) :: .ref (Y + 6) :: .ref (Y + 7) :: .int dg :: .ref (Y + 8) :: .int dd :: .ref (Y + 9) :: .ref (Y + 10) :: .ref (Y + 11) :: .ref (Y + 12) :: .int ld :: .int be :: .int ib :: .ref (Y + 13) :: .ref (Y + 14) :: .ref (Y + 15) :: .ref (Y + 16) :: .ref (Y + 17) :: .int (nI ln) :: .int fa :: .int (nI (q2 + 1)) :: .int (nI 1) :: .ref (Y + 18) :: .ref (Y + 19) :: .ref (Y + 20) :: .ref (Y + 21) :: []))) (by rw [List.set_set]) ?_
      refine g_iconst (pc := 51) (v := nI 1) dX12_term_51 (by decide) ?_
      refine g_istore (pc := 52) [(4, .int (nI 1)), (3, .int (nI num)), (2, .int (nI n)), (1, .int (nI 1)), (0, .ref Y)] dX12_term_52 (by decide) rfl ?_
      refine g_aload_n (pc := 54) 4 dX12_term_54 rfl rfl ?_
      refine g_callV (pc := 55) [] dX12_term_55 cv_X12_265.1 cv_X12_265.2.1 cv_X12_265.2.2.1 cv_X12_265.2.2.2 (lk_eq hY) rfl rfl (Nat.le_of_ble_eq_true rfl) (by decide) (by decide) (mp_sign _ (lk_eq hY) (lk_ne (show Y ≠ (Y + 17) by omega) h17) hs (p := q2 + 1) (by omega)) ?_
      rintro _ w9 ⟨rfl, e9⟩
      rw [← hq3] at e9 ⊢
      refine GP.weq _ e9 ?_
      refine GP.weq (w.set Y (.inr (11, .int th :: .int st :: .ref (Y + 1) :: .ref (Y + 2) :: .ref (Y + 3) :: .ref (Y + 4) :: .int nu :: .ref (Y + 5) :: .ref (Y + 6) :: .ref (Y + 7) :: .int dg :: .ref (Y + 8) :: .int dd :: .ref (Y + 9) :: .ref (Y + 10) :: .ref (Y + 11) :: .ref (Y + 12) :: .int ld :: .int be :: .int ib :: .ref (Y + 13) :: .ref (Y + 14) :: .ref (Y + 15) :: .ref (Y + 16) :: .ref (Y + 17) :: .int (nI ln) :: .int fa :: .int (nI q3) :: .int (nI 1) :: .ref (Y + 18) :: .ref (Y + 19) :: .ref (Y + 20) :: .ref (Y + 21) :: []))) (by rw [show ((w.set Y (.inr (11, .int th :: .int st :: .ref (Y + 1) :: .ref (Y + 2) :: .ref (Y + 3) :: .ref (Y + 4) :: .int nu :: .ref (Y + 5) :: .ref (Y + 6) :: .ref (Y + 7) :: .int dg :: .ref (Y + 8) :: .int dd :: .ref (Y + 9) :: .ref (Y + 10) :: .ref (Y + 11) :: .ref (Y + 12) :: .int ld :: .int be :: .int ib :: .ref (Y + 13) :: .ref (Y + 14) :: .ref (Y + 15) :: .ref (Y + 16) :: .ref (Y + 17) :: .int (nI ln) :: .int fa :: .int (nI (q2 + 1)) :: .int (nI 1) :: .ref (Y + 18) :: .ref (Y + 19) :: .ref (Y + 20) :: .ref (Y + 21) :: []))).set Y (.inr (11, .int th :: .int st :: .ref (Y + 1) :: .ref (Y + 2) :: .ref (Y + 3) :: .ref (Y + 4) :: .int nu :: .ref (Y + 5) :: .ref (Y + 6) :: .ref (Y + 7) :: .int dg :: .ref (Y + 8) :: .int dd :: .ref (Y + 9) :: .ref (Y + 10) :: .ref (Y + 11) :: .ref (Y + 12) :: .int ld :: .int be :: .int ib :: .ref (Y + 13) :: .ref (Y + 14) :: .ref (Y + 15) :: .ref (Y + 16) :: .ref (Y + 17) :: .int (nI ln) :: .int fa :: .int (nI q3) :: .int (nI 1) :: .ref (Y + 18) :: .ref (Y + 19) :: .ref (Y + 20) :: .ref (Y + 21) :: []))) = (w.set Y (.inr (11, .int th :: .int st :: .ref (Y + 1) :: .ref (Y + 2) :: .ref (Y + 3) :: .ref (Y + 4) :: .int nu :: .ref (Y + 5) :: .ref (Y + 6) :: .ref (Y + 7) :: .int dg :: .ref (Y + 8) :: .int dd :: .ref (Y + 9) :: .ref (Y + 10) :: .ref (Y + 11) :: .ref (Y + 12) :: .int ld :: .int be :: .int ib :: .ref (Y + 13) :: .ref (Y + 14) :: .ref (Y + 15) :: .ref (Y + 16) :: .ref (Y + 17) :: .int (nI ln) :: .int fa :: .int (nI q3) :: .int (nI 1) :: .ref (Y + 18) :: .ref (Y + 19) :: .ref (Y + 20) :: .ref (Y + 21) :: []))) from by rw [List.set_set]]) ?_
      refine g_bipush (pc := 58) (v := nI 94) dX12_term_58 (by decide) ?_
      refine g_icmp_ne (pc := 60) 104 dX12_term_60 (by decide) (fun hc => ?_) (fun hc => ?_)
      · rw [hx3] at hc
        rw [if_neg hc]
        refine g_aload_n (pc := 104) 4 dX12_term_104 rfl rfl ?_
        refine g_get (pc := 105) dX12_term_105 fk_X12_262 (lk_eq hY) rfl ?_
        refine n_if_eq (pc := 108) 125 dX12_term_108 (by decide) (by omega) (fun hg9 => ?_) (fun hg9 => ?_)
        · exact absurd hg9 (by decide)
        · refine g_aload_n (pc := 111) 4 dX12_term_111 rfl rfl ?_
          refine g_get (pc := 112) dX12_term_112 fk_X12_29 (lk_eq hY) rfl ?_
          refine g_iload (pc := 115) 0 dX12_term_115 rfl ?_
          refine g_dup2 (pc := 117) dX12_term_117 rfl rfl ?_
          refine g_lald (pc := 118) 1 dX12_term_118 (lk_ne (show Y ≠ (Y + 7) by omega) h7) (IXn (by omega) (by omega)) ?_
          refine g_iload_n (pc := 119) 3 dX12_term_119 rfl rfl ?_
          refine g_iload_n (pc := 120) 2 dX12_term_120 rfl rfl ?_
          refine n_imul (pc := 121) dX12_term_121 ?_
          refine GP.ti (nI n) (by rw [Nat.one_mul]) ?_
          refine g_i2l (pc := 122) dX12_term_122 ?_
          refine g_ladd (pc := 123) dX12_term_123 ?_
          refine g_last (pc := 124) 1 dX12_term_124 (lk_ne (show Y ≠ (Y + 7) by omega) h7) (IXn (by omega) (by omega)) ?_
          exact g_vret (pc := 125) dX12_term_125 ⟨rfl, Or.inr ⟨1, n, _, q3, rfl, by omega, hsi2, _, hm_add (mi := 0) hb (by omega) (by omega) (by rw [IL, nI_toInt (by omega)]; rfl), rfl⟩⟩
      · rw [Classical.not_not, hx3] at hc
        rw [if_pos hc]
        have hk4 := skB_le (f := f) (p := q3 + 1) (ln := ln) (by omega)
        obtain ⟨q4, hq4⟩ : ∃ q4, q4 = skB f ln (q3 + 1) := ⟨_, rfl⟩
        rw [← hq4] at hk4 ⊢
        have htk := tkN_le (f := f) (ln := ln) (p := q4) hk4.2
        refine g_aload_n (pc := 63) 4 dX12_term_63 rfl rfl ?_
        refine g_dup (pc := 64) dX12_term_64 rfl ?_
        refine g_get (pc := 65) dX12_term_65 fk_X12_255 (lk_eq hY) rfl ?_
        refine g_iconst (pc := 68) (v := nI 1) dX12_term_68 (by decide) ?_
        refine n_iadd (pc := 69) dX12_term_69 ?_
        refine g_put (pc := 70) (.int th :: .int st :: .ref (Y + 1) :: .ref (Y + 2) :: .ref (Y + 3) :: .ref (Y + 4) :: .int nu :: .ref (Y + 5) :: .ref (Y + 6) :: .ref (Y + 7) :: .int dg :: .ref (Y + 8) :: .int dd :: .ref (Y + 9) :: .ref (Y + 10) :: .ref (Y + 11) :: .ref (Y + 12) :: .int ld :: .int be :: .int ib :: .ref (Y + 13) :: .ref (Y + 14) :: .ref (Y + 15) :: .ref (Y + 16) :: .ref (Y + 17) :: .int (nI ln) :: .int fa :: .int (nI (q3 + 1)) :: .int (nI 1) :: .ref (Y + 18) :: .ref (Y + 19) :: .ref (Y + 20) :: .ref (Y + 21) :: []) dX12_term_70 fk_X12_255 (lk_eq hY) (Nat.le_of_ble_eq_true rfl) rfl rfl ?_
        refine GP.weq (w.set Y (.inr (11, .int th :: .int st :: .ref (Y + 1) :: .ref (Y + 2) :: .ref (Y + 3) :: .ref (Y + 4) :: .int nu :: .ref (Y + 5) :: .ref (Y + 6) :: .ref (Y + 7) :: .int dg :: .ref (Y + 8) :: .int dd :: .ref (Y + 9) :: .ref (Y + 10) :: .ref (Y + 11) :: .ref (Y + 12) :: .int ld :: .int be :: .int ib :: .ref (Y + 13) :: .ref (Y + 14) :: .ref (Y + 15) :: .ref (Y + 16) :: .ref (Y + 17) :: .int (nI ln) :: .int fa :: .int (nI (q3 + 1)) :: .int (nI 1) :: .ref (Y + 18) :: .ref (Y + 19) :: .ref (Y + 20) :: .ref (Y + 21) :: []))) (by rw [List.set_set]) ?_
        refine g_aload_n (pc := 73) 4 dX12_term_73 rfl rfl ?_
        refine g_bipush (pc := 74) (v := nI 12) dX12_term_74 (by decide) ?_
        refine g_callV (pc := 76) [.int (nI 12)] dX12_term_76 cv_X12_274.1 cv_X12_274.2.1 cv_X12_274.2.2.1 cv_X12_274.2.2.2 (lk_eq hY) rfl rfl (Nat.le_of_ble_eq_true rfl) (by decide) (by decide) (mp_number _ (lk_eq hY) (lk_ne (show Y ≠ (Y + 17) by omega) h17) hs (p := q3 + 1) (most := 12) (by omega) (by decide)) ?_
        rintro _ w9 (⟨hd, hle, rfl, e9⟩ | ⟨hd, e5, v5, he5, rfl, e9⟩)
        · rw [← hq4] at hd hle e9 ⊢
          refine GP.weq _ e9 ?_
          refine GP.weq (w.set Y (.inr (11, .int th :: .int st :: .ref (Y + 1) :: .ref (Y + 2) :: .ref (Y + 3) :: .ref (Y + 4) :: .int nu :: .ref (Y + 5) :: .ref (Y + 6) :: .ref (Y + 7) :: .int dg :: .ref (Y + 8) :: .int dd :: .ref (Y + 9) :: .ref (Y + 10) :: .ref (Y + 11) :: .ref (Y + 12) :: .int ld :: .int be :: .int ib :: .ref (Y + 13) :: .ref (Y + 14) :: .ref (Y + 15) :: .ref (Y + 16) :: .ref (Y + 17) :: .int (nI ln) :: .int fa :: .int (nI ((tkN f ln q4 0).2)) :: .int (nI 1) :: .ref (Y + 18) :: .ref (Y + 19) :: .ref (Y + 20) :: .ref (Y + 21) :: []))) (by rw [List.set_set]) ?_
          rw [if_pos hd, if_pos hle]
          obtain ⟨pw, hpw⟩ : ∃ pw, pw = (tkN f ln q4 0).1 := ⟨_, rfl⟩
          obtain ⟨e6, he6⟩ : ∃ e6, e6 = (tkN f ln q4 0).2 := ⟨_, rfl⟩
          rw [← hpw] at hle htk ⊢
          rw [← he6] at htk ⊢
          refine g_istore (pc := 79) [(4, .int (nI pw)), (3, .int (nI num)), (2, .int (nI n)), (1, .int (nI 1)), (0, .ref Y)] dX12_term_79 (by decide) rfl ?_
          refine g_goto (pc := 81) 104 dX12_term_81 (by decide) ?_
          refine g_aload_n (pc := 104) 4 dX12_term_104 rfl rfl ?_
          refine g_get (pc := 105) dX12_term_105 fk_X12_262 (lk_eq hY) rfl ?_
          refine n_if_eq (pc := 108) 125 dX12_term_108 (by decide) (by omega) (fun hg9 => ?_) (fun hg9 => ?_)
          · exact absurd hg9 (by decide)
          · refine g_aload_n (pc := 111) 4 dX12_term_111 rfl rfl ?_
            refine g_get (pc := 112) dX12_term_112 fk_X12_29 (lk_eq hY) rfl ?_
            refine g_iload (pc := 115) 0 dX12_term_115 rfl ?_
            refine g_dup2 (pc := 117) dX12_term_117 rfl rfl ?_
            refine g_lald (pc := 118) pw dX12_term_118 (lk_ne (show Y ≠ (Y + 7) by omega) h7) (IXn (by omega) (by omega)) ?_
            refine g_iload_n (pc := 119) 3 dX12_term_119 rfl rfl ?_
            refine g_iload_n (pc := 120) 2 dX12_term_120 rfl rfl ?_
            refine n_imul (pc := 121) dX12_term_121 ?_
            refine GP.ti (nI n) (by rw [Nat.one_mul]) ?_
            refine g_i2l (pc := 122) dX12_term_122 ?_
            refine g_ladd (pc := 123) dX12_term_123 ?_
            refine g_last (pc := 124) pw dX12_term_124 (lk_ne (show Y ≠ (Y + 7) by omega) h7) (IXn (by omega) (by omega)) ?_
            exact g_vret (pc := 125) dX12_term_125 ⟨rfl, Or.inr ⟨pw, n, _, e6, rfl, by omega, rfl, _, hm_add (mi := 0) hb (by omega) (by omega) (by rw [IL, nI_toInt (by omega)]; rfl), rfl⟩⟩
        · rw [← hq4] at hd e9
          refine GP.weq _ e9 ?_
          refine GP.weq (w.set Y (.inr (11, .int th :: .int st :: .ref (Y + 1) :: .ref (Y + 2) :: .ref (Y + 3) :: .ref (Y + 4) :: .int nu :: .ref (Y + 5) :: .ref (Y + 6) :: .ref (Y + 7) :: .int dg :: .ref (Y + 8) :: .int dd :: .ref (Y + 9) :: .ref (Y + 10) :: .ref (Y + 11) :: .ref (Y + 12) :: .int ld :: .int be :: .int ib :: .ref (Y + 13) :: .ref (Y + 14) :: .ref (Y + 15) :: .ref (Y + 16) :: .ref (Y + 17) :: .int (nI ln) :: .int (nI q4) :: .int (nI e5) :: .int (nI 0) :: .ref (Y + 18) :: .ref (Y + 19) :: .ref (Y + 20) :: .ref (Y + 21) :: []))) (by rw [List.set_set]) ?_
          have hno : (if q4 < ln ∧ 48 ≤ ub (f q4) ∧ ub (f q4) ≤ 57 then (if (tkN f ln q4 0).1 ≤ 12 then (.inr ((tkN f ln q4 0).1, n, skB f ln (tkN f ln q4 0).2) : Nat ⊕ (Nat × Nat × Nat)) else .inl q4) else .inl q4) = .inl q4 := by
            rcases hd with hd | hd
            · rw [if_neg hd]
            · by_cases g : q4 < ln ∧ 48 ≤ ub (f q4) ∧ ub (f q4) ≤ 57
              · rw [if_pos g, if_neg (by omega)]
              · rw [if_neg g]
          rw [hno]
          refine g_istore (pc := 79) [(4, .int v5), (3, .int (nI num)), (2, .int (nI n)), (1, .int (nI 1)), (0, .ref Y)] dX12_term_79 (by decide) rfl ?_
          refine g_goto (pc := 81) 104 dX12_term_81 (by decide) ?_
          refine g_aload_n (pc := 104) 4 dX12_term_104 rfl rfl ?_
          refine g_get (pc := 105) dX12_term_105 fk_X12_262 (lk_eq hY) rfl ?_
          refine n_if_eq (pc := 108) 125 dX12_term_108 (by decide) (by omega) (fun hg3 => ?_) (fun hg3 => ?_)
          · exact g_vret (pc := 125) dX12_term_125 ⟨rfl, Or.inl ⟨q4, e5, rfl, he5, rfl⟩⟩
          · exact absurd rfl hg3
theorem mp_term0 (w : Wd) {Y ln p : Nat} {th st nu dg dd ld be ib fa : Int32} {f : Nat → Int32} {h : Nat → Int64} (hY : w[Y]? = some (oM Y th st nu dg dd ld be ib (nI ln) fa (nI p) (nI 1))) (h7 : w[Y + 7]? = some (aL 60 h)) (h17 : w[Y + 17]? = some (aI 2 400 f)) (hs : sbT f ln) (hb : ∀ j, j < 60 → -1000000000 ≤ (h j).toInt ∧ (h j).toInt ≤ 1000000000) (hp : p ≤ ln) : EX12_term [.ref Y, .int (nI 1)] w (fun r w' => r = none ∧ ((∃ e0 r1, pTerm f ln p = .inl e0 ∧ r1 ≤ ln ∧ w' = w.set Y (oM Y th st nu dg dd ld be ib (nI ln) (nI e0) (nI r1) (nI 0))) ∨ (∃ pw sz q r1, pTerm f ln p = .inr (pw, sz, q) ∧ r1 ≤ ln ∧ skB f ln r1 = q ∧ ∃ h' : Nat → Int64, (∀ j, j < 60 → (h' j).toInt = addT (toI h) 0 pw sz j) ∧ w' = (w.set Y (oM Y th st nu dg dd ld be ib (nI ln) fa (nI r1) (nI 1))).set (Y + 7) (aL 60 h')))) := by
  refine EP.of (plainFor_of_name (by decide)) [(0, .ref Y), (1, .int (nI 1))] rfl (Nat.le_of_ble_eq_true rfl) (fun r wf h => by obtain ⟨rfl, -⟩ := h; trivial) ?_
  show BX12_term w _ w 0 [(0, .ref Y), (1, .int (nI 1))] []
  have hl := hs.1
  have hk1 := skB_le (f := f) hp
  have hsi : skB f ln (skB f ln p) = skB f ln p := skB_id
  unfold pTerm
  obtain ⟨q, hq⟩ : ∃ q, q = skB f ln p := ⟨_, rfl⟩
  rw [← hq] at hk1 hsi ⊢
  have htk := tkN_le (f := f) (ln := ln) (p := q) hk1.2
  refine g_iconst (pc := 0) (v := nI 1) dX12_term_0 (by decide) ?_
  refine g_istore_n (pc := 1) [(2, .int (nI 1)), (0, .ref Y), (1, .int (nI 1))] dX12_term_1 rfl (by decide) rfl ?_
  refine g_aload_n (pc := 2) 1 dX12_term_2 rfl rfl ?_
  refine g_callV (pc := 3) [] dX12_term_3 cv_X12_265.1 cv_X12_265.2.1 cv_X12_265.2.2.1 cv_X12_265.2.2.2 hY rfl rfl (Nat.le_of_ble_eq_true rfl) (by decide) (by decide) (mp_sign _ hY h17 hs hp) ?_
  rintro _ w9 ⟨rfl, e9⟩
  rw [← hq] at e9 ⊢
  refine GP.weq _ e9 ?_
  refine g_callS (pc := 6) [.int (chA f ln q)] dX12_term_6 cs_X12_268.1 cs_X12_268.2 rfl rfl (Nat.le_of_ble_eq_true rfl) (by decide) (by decide) (mp_isDigit _) ?_
  rintro _ w9 (⟨rfl, hd, e9⟩ | ⟨rfl, hd, e9⟩)
  · refine GP.weq _ e9 ?_
    rw [chA_d hs] at hd
    rw [if_pos hd]
    refine g_istore_n (pc := 9) [(3, .int (nI 1)), (2, .int (nI 1)), (0, .ref Y), (1, .int (nI 1))] dX12_term_9 rfl (by decide) rfl ?_
    refine g_iload_n (pc := 10) 0 dX12_term_10 rfl rfl ?_
    refine n_if_eq (pc := 11) 22 dX12_term_11 (by decide) (by omega) (fun hd9 => ?_) (fun hd9 => ?_)
    · exact absurd hd9 (by decide)
    · refine g_aload_n (pc := 14) 2 dX12_term_14 rfl rfl ?_
      refine g_sipush (pc := 15) (v := nI 9999) dX12_term_15 (by decide) ?_
      refine g_callV (pc := 18) [.int (nI 9999)] dX12_term_18 cv_X12_274.1 cv_X12_274.2.1 cv_X12_274.2.2.1 cv_X12_274.2.2.2 (lk_eq hY) rfl rfl (Nat.le_of_ble_eq_true rfl) (by decide) (by decide) (mp_number _ (lk_eq hY) (lk_ne (show Y ≠ (Y + 17) by omega) h17) hs (p := q) (most := 9999) hk1.2 (by decide)) ?_
      rintro _ w9 (⟨hd2, hle, rfl, e9⟩ | ⟨hd2, e5, v5, he5, rfl, e9⟩)
      · rw [hsi] at hle e9 ⊢
        refine GP.weq _ e9 ?_
        refine GP.weq (w.set Y (.inr (11, .int th :: .int st :: .ref (Y + 1) :: .ref (Y + 2) :: .ref (Y + 3) :: .ref (Y + 4) :: .int nu :: .ref (Y + 5) :: .ref (Y + 6) :: .ref (Y + 7) :: .int dg :: .ref (Y + 8) :: .int dd :: .ref (Y + 9) :: .ref (Y + 10) :: .ref (Y + 11) :: .ref (Y + 12) :: .int ld :: .int be :: .int ib :: .ref (Y + 13) :: .ref (Y + 14) :: .ref (Y + 15) :: .ref (Y + 16) :: .ref (Y + 17) :: .int (nI ln) :: .int fa :: .int (nI ((tkN f ln q 0).2)) :: .int (nI 1) :: .ref (Y + 18) :: .ref (Y + 19) :: .ref (Y + 20) :: .ref (Y + 21) :: []))) (by rw [List.set_set]) ?_
        refine g_istore_n (pc := 21) [(2, .int (nI ((tkN f ln q 0).1))), (3, .int (nI 1)), (0, .ref Y), (1, .int (nI 1))] dX12_term_21 rfl (by decide) rfl ?_
        exact GP.lsub _ (by simp) (trm_0 hY h7 h17 hs hb (num := 1) (n := (tkN f ln q 0).1) (e := (tkN f ln q 0).2) (st9 := q) hle (by omega) htk.2.1)
      · rw [hsi] at hd2 e9
        refine GP.weq _ e9 ?_
        refine GP.weq (w.set Y (.inr (11, .int th :: .int st :: .ref (Y + 1) :: .ref (Y + 2) :: .ref (Y + 3) :: .ref (Y + 4) :: .int nu :: .ref (Y + 5) :: .ref (Y + 6) :: .ref (Y + 7) :: .int dg :: .ref (Y + 8) :: .int dd :: .ref (Y + 9) :: .ref (Y + 10) :: .ref (Y + 11) :: .ref (Y + 12) :: .int ld :: .int be :: .int ib :: .ref (Y + 13) :: .ref (Y + 14) :: .ref (Y + 15) :: .ref (Y + 16) :: .ref (Y + 17) :: .int (nI ln) :: .int (nI q) :: .int (nI e5) :: .int (nI 0) :: .ref (Y + 18) :: .ref (Y + 19) :: .ref (Y + 20) :: .ref (Y + 21) :: []))) (by rw [List.set_set]) ?_
        have hno : pTn f ln 1 q (tkN f ln q 0).1 (tkN f ln q 0).2 = .inl q := by
          unfold pTn
          rcases hd2 with hd2 | hd2
          · exact absurd hd hd2
          · rw [if_pos hd2]
        rw [hno]
        refine g_istore_n (pc := 21) [(2, .int v5), (3, .int (nI 1)), (0, .ref Y), (1, .int (nI 1))] dX12_term_21 rfl (by decide) rfl ?_
        refine g_iconst (pc := 22) (v := nI 0) dX12_term_22 (by decide) ?_
        refine g_istore (pc := 23) [(4, .int (nI 0)), (2, .int v5), (3, .int (nI 1)), (0, .ref Y), (1, .int (nI 1))] dX12_term_23 (by decide) rfl ?_
        refine g_aload_n (pc := 25) 3 dX12_term_25 rfl rfl ?_
        refine g_get (pc := 26) dX12_term_26 fk_X12_262 (lk_eq hY) rfl ?_
        refine n_if_eq (pc := 29) 84 dX12_term_29 (by decide) (by omega) (fun hg1 => ?_) (fun hg1 => ?_)
        · refine g_aload_n (pc := 84) 3 dX12_term_84 rfl rfl ?_
          refine g_get (pc := 85) dX12_term_85 fk_X12_262 (lk_eq hY) rfl ?_
          refine n_if_eq (pc := 88) 104 dX12_term_88 (by decide) (by omega) (fun hg2 => ?_) (fun hg2 => ?_)
          · refine g_aload_n (pc := 104) 3 dX12_term_104 rfl rfl ?_
            refine g_get (pc := 105) dX12_term_105 fk_X12_262 (lk_eq hY) rfl ?_
            refine n_if_eq (pc := 108) 125 dX12_term_108 (by decide) (by omega) (fun hg3 => ?_) (fun hg3 => ?_)
            · exact g_vret (pc := 125) dX12_term_125 ⟨rfl, Or.inl ⟨q, e5, rfl, he5, rfl⟩⟩
            · exact absurd rfl hg3
          · exact absurd rfl hg2
        · exact absurd rfl hg1
  · refine GP.weq _ e9 ?_
    rw [chA_d hs] at hd
    rw [if_neg hd]
    refine g_istore_n (pc := 9) [(3, .int (nI 0)), (2, .int (nI 1)), (0, .ref Y), (1, .int (nI 1))] dX12_term_9 rfl (by decide) rfl ?_
    refine g_iload_n (pc := 10) 0 dX12_term_10 rfl rfl ?_
    refine n_if_eq (pc := 11) 22 dX12_term_11 (by decide) (by omega) (fun hd9 => ?_) (fun hd9 => ?_)
    · exact GP.lsub _ (by simp) (trm_0 hY h7 h17 hs hb (num := 0) (n := 1) (e := q) (st9 := q) (by omega) (by omega) hk1.2)
    · exact absurd rfl hd9
theorem trm_1 {w0 w : Wd} {Y ln p : Nat} {th st nu dg dd ld be ib fa : Int32} {f : Nat → Int32} {h : Nat → Int64} (hY : w[Y]? = some (oM Y th st nu dg dd ld be ib (nI ln) fa (nI p) (nI 1))) (h7 : w[Y + 7]? = some (aL 60 h)) (h17 : w[Y + 17]? = some (aI 2 400 f)) (hs : sbT f ln) (hb : ∀ j, j < 60 → -1000000000 ≤ (h j).toInt ∧ (h j).toInt ≤ 1000000000) {num n e st9 : Nat} (hn : n ≤ 9999) (hnum : num ≤ 1) (he : e ≤ ln) : BX12_term w0 (fun r w' => r = none ∧ ((∃ e0 r1, pTn f ln num st9 n e = .inl e0 ∧ r1 ≤ ln ∧ w' = w.set Y (oM Y th st nu dg dd ld be ib (nI ln) (nI e0) (nI r1) (nI 0))) ∨ (∃ pw sz q r1, pTn f ln num st9 n e = .inr (pw, sz, q) ∧ r1 ≤ ln ∧ skB f ln r1 = q ∧ ∃ h' : Nat → Int64, (∀ j, j < 60 → (h' j).toInt = addT (toI h) 1 pw sz j) ∧ w' = (w.set Y (oM Y th st nu dg dd ld be ib (nI ln) fa (nI r1) (nI 1))).set (Y + 7) (aL 60 h')))) (w.set Y (.inr (11, .int th :: .int st :: .ref (Y + 1) :: .ref (Y + 2) :: .ref (Y + 3) :: .ref (Y + 4) :: .int nu :: .ref (Y + 5) :: .ref (Y + 6) :: .ref (Y + 7) :: .int dg :: .ref (Y + 8) :: .int dd :: .ref (Y + 9) :: .ref (Y + 10) :: .ref (Y + 11) :: .ref (Y + 12) :: .int ld :: .int be :: .int ib :: .ref (Y + 13) :: .ref (Y + 14) :: .ref (Y + 15) :: .ref (Y + 16) :: .ref (Y + 17) :: .int (nI ln) :: .int fa :: .int (nI e) :: .int (nI 1) :: .ref (Y + 18) :: .ref (Y + 19) :: .ref (Y + 20) :: .ref (Y + 21) :: []))) 22 [(3, .int (nI num)), (2, .int (nI n)), (1, .int (-1)), (0, .ref Y)] [] := by
  have hl := hs.1
  have hk1 := skB_le (f := f) he
  have eP : pTn f ln num st9 n e = if skB f ln e < ln ∧ ub (f (skB f ln e)) = 120 then pTx f ln n (skB f ln (skB f ln e + 1)) else if num = 0 then .inl (skB f ln e) else .inr (0, n, skB f ln e) := by
    show (if 9999 < n then _ else _) = _
    rw [if_neg (by omega)]
  have hsi : skB f ln (skB f ln e) = skB f ln e := skB_id
  rw [eP]
  obtain ⟨q2, hq2⟩ : ∃ q2, q2 = skB f ln e := ⟨_, rfl⟩
  rw [← hq2] at hk1 hsi ⊢
  have hx1 := chA_c (f := f) (q := q2) (c := 120) hs (by decide)
  refine g_iconst (pc := 22) (v := nI 0) dX12_term_22 (by decide) ?_
  refine g_istore (pc := 23) [(4, .int (nI 0)), (3, .int (nI num)), (2, .int (nI n)), (1, .int (-1)), (0, .ref Y)] dX12_term_23 (by decide) rfl ?_
  refine g_aload_n (pc := 25) 4 dX12_term_25 rfl rfl ?_
  refine g_get (pc := 26) dX12_term_26 fk_X12_262 (lk_eq hY) rfl ?_
  refine n_if_eq (pc := 29) 84 dX12_term_29 (by decide) (by omega) (fun hg => ?_) (fun hg => ?_)
  · exact absurd hg (by decide)
  · refine g_aload_n (pc := 32) 4 dX12_term_32 rfl rfl ?_
    refine g_callV (pc := 33) [] dX12_term_33 cv_X12_265.1 cv_X12_265.2.1 cv_X12_265.2.2.1 cv_X12_265.2.2.2 (lk_eq hY) rfl rfl (Nat.le_of_ble_eq_true rfl) (by decide) (by decide) (mp_sign _ (lk_eq hY) (lk_ne (show Y ≠ (Y + 17) by omega) h17) hs he) ?_
    rintro _ w9 ⟨rfl, e9⟩
    rw [← hq2] at e9 ⊢
    refine GP.weq _ e9 ?_
    refine GP.weq (w.set Y (.inr (11, .int th :: .int st :: .ref (Y + 1) :: .ref (Y + 2) :: .ref (Y + 3) :: .ref (Y + 4) :: .int nu :: .ref (Y + 5) :: .ref (Y + 6) :: .ref (Y + 7) :: .int dg :: .ref (Y + 8) :: .int dd :: .ref (Y + 9) :: .ref (Y + 10) :: .ref (Y + 11) :: .ref (Y + 12) :: .int ld :: .int be :: .int ib :: .ref (Y + 13) :: .ref (Y + 14) :: .ref (Y + 15) :: .ref (Y + 16) :: .ref (Y + 17) :: .int (nI ln) :: .int fa :: .int (nI q2) :: .int (nI 1) :: .ref (Y + 18) :: .ref (Y + 19) :: .ref (Y + 20) :: .ref (Y + 21) :: []))) (by rw [show ((w.set Y (.inr (11, .int th :: .int st :: .ref (Y + 1) :: .ref (Y + 2) :: .ref (Y + 3) :: .ref (Y + 4) :: .int nu :: .ref (Y + 5) :: .ref (Y + 6) :: .ref (Y + 7) :: .int dg :: .ref (Y + 8) :: .int dd :: .ref (Y + 9) :: .ref (Y + 10) :: .ref (Y + 11) :: .ref (Y + 12) :: .int ld :: .int be :: .int ib :: .ref (Y + 13) :: .ref (Y + 14) :: .ref (Y + 15) :: .ref (Y + 16) :: .ref (Y + 17) :: .int (nI ln) :: .int fa :: .int (nI e) :: .int (nI 1) :: .ref (Y + 18) :: .ref (Y + 19) :: .ref (Y + 20) :: .ref (Y + 21) :: []))).set Y (.inr (11, .int th :: .int st :: .ref (Y + 1) :: .ref (Y + 2) :: .ref (Y + 3) :: .ref (Y + 4) :: .int nu :: .ref (Y + 5) :: .ref (Y + 6) :: .ref (Y + 7) :: .int dg :: .ref (Y + 8) :: .int dd :: .ref (Y + 9) :: .ref (Y + 10) :: .ref (Y + 11) :: .ref (Y + 12) :: .int ld :: .int be :: .int ib :: .ref (Y + 13) :: .ref (Y + 14) :: .ref (Y + 15) :: .ref (Y + 16) :: .ref (Y + 17) :: .int (nI ln) :: .int fa :: .int (nI q2) :: .int (nI 1) :: .ref (Y + 18) :: .ref (Y + 19) :: .ref (Y + 20) :: .ref (Y + 21) :: []))) = (w.set Y (.inr (11, .int th :: .int st :: .ref (Y + 1) :: .ref (Y + 2) :: .ref (Y + 3) :: .ref (Y + 4) :: .int nu :: .ref (Y + 5) :: .ref (Y + 6) :: .ref (Y + 7) :: .int dg :: .ref (Y + 8) :: .int dd :: .ref (Y + 9) :: .ref (Y + 10) :: .ref (Y + 11) :: .ref (Y + 12) :: .int ld :: .int be :: .int ib :: .ref (Y + 13) :: .ref (Y + 14) :: .ref (Y + 15) :: .ref (Y + 16) :: .ref (Y + 17) :: .int (nI ln) :: .int fa :: .int (nI q2) :: .int (nI 1) :: .ref (Y + 18) :: .ref (Y + 19) :: .ref (Y + 20) :: .ref (Y + 21) :: []))) from by rw [List.set_set]]) ?_
    refine g_bipush (pc := 36) (v := nI 120) dX12_term_36 (by decide) ?_
    refine g_icmp_ne (pc := 38) 84 dX12_term_38 (by decide) (fun hx => ?_) (fun hx => ?_)
    · rw [hx1] at hx
      rw [if_neg hx]
      refine g_aload_n (pc := 84) 4 dX12_term_84 rfl rfl ?_
      refine g_get (pc := 85) dX12_term_85 fk_X12_262 (lk_eq hY) rfl ?_
      refine n_if_eq (pc := 88) 104 dX12_term_88 (by decide) (by omega) (fun hg2 => ?_) (fun hg2 => ?_)
      · exact absurd hg2 (by decide)
      · refine g_iload_n (pc := 91) 1 dX12_term_91 rfl rfl ?_
        refine n_if_ne (pc := 92) 104 dX12_term_92 (by decide) (by omega) (fun hn9 => ?_) (fun hn9 => ?_)
        · rw [if_neg hn9]
          refine g_aload_n (pc := 104) 4 dX12_term_104 rfl rfl ?_
          refine g_get (pc := 105) dX12_term_105 fk_X12_262 (lk_eq hY) rfl ?_
          refine n_if_eq (pc := 108) 125 dX12_term_108 (by decide) (by omega) (fun hg9 => ?_) (fun hg9 => ?_)
          · exact absurd hg9 (by decide)
          · refine g_aload_n (pc := 111) 4 dX12_term_111 rfl rfl ?_
            refine g_get (pc := 112) dX12_term_112 fk_X12_29 (lk_eq hY) rfl ?_
            refine g_iload (pc := 115) 0 dX12_term_115 rfl ?_
            refine g_dup2 (pc := 117) dX12_term_117 rfl rfl ?_
            refine g_lald (pc := 118) 0 dX12_term_118 (lk_ne (show Y ≠ (Y + 7) by omega) h7) (IXn (by omega) (by omega)) ?_
            refine g_iload_n (pc := 119) 3 dX12_term_119 rfl rfl ?_
            refine g_iload_n (pc := 120) 2 dX12_term_120 rfl rfl ?_
            refine g_imul (pc := 121) dX12_term_121 ?_
            refine g_i2l (pc := 122) dX12_term_122 ?_
            refine g_ladd (pc := 123) dX12_term_123 ?_
            refine g_last (pc := 124) 0 dX12_term_124 (lk_ne (show Y ≠ (Y + 7) by omega) h7) (IXn (by omega) (by omega)) ?_
            exact g_vret (pc := 125) dX12_term_125 ⟨rfl, Or.inr ⟨0, n, _, q2, rfl, by omega, hsi, _, hm_add (mi := 1) hb (by omega) (by omega) (by rw [IL, I_mul (by rw [nI_toInt (show n < 2147483648 by omega), show (-1 : Int32).toInt = -1 from by decide]; omega) (by rw [nI_toInt (show n < 2147483648 by omega), show (-1 : Int32).toInt = -1 from by decide]; omega), nI_toInt (show n < 2147483648 by omega), show (-1 : Int32).toInt = -1 from by decide]; show _ = -((n : Nat) : Int); omega), rfl⟩⟩
        · have hn8 : num = 0 := by omega
          rw [if_pos hn8]
          refine g_aload_n (pc := 95) 4 dX12_term_95 rfl rfl ?_
          refine g_aload_n (pc := 96) 4 dX12_term_96 rfl rfl ?_
          refine g_get (pc := 97) dX12_term_97 fk_X12_255 (lk_eq hY) rfl ?_
          refine g_callV (pc := 100) [.int (nI q2)] dX12_term_100 cv_X12_271.1 cv_X12_271.2.1 cv_X12_271.2.2.1 cv_X12_271.2.2.2 (lk_eq hY) rfl rfl (Nat.le_of_ble_eq_true rfl) (by decide) (by decide) (mp_wrong _ (lk_eq hY)) ?_
          rintro _ w9 ⟨rfl, e9⟩
          refine GP.weq _ e9 ?_
          refine GP.weq (w.set Y (.inr (11, .int th :: .int st :: .ref (Y + 1) :: .ref (Y + 2) :: .ref (Y + 3) :: .ref (Y + 4) :: .int nu :: .ref (Y + 5) :: .ref (Y + 6) :: .ref (Y + 7) :: .int dg :: .ref (Y + 8) :: .int dd :: .ref (Y + 9) :: .ref (Y + 10) :: .ref (Y + 11) :: .ref (Y + 12) :: .int ld :: .int be :: .int ib :: .ref (Y + 13) :: .ref (Y + 14) :: .ref (Y + 15) :: .ref (Y + 16) :: .ref (Y + 17) :: .int (nI ln) :: .int (nI q2) :: .int (nI q2) :: .int (nI 0) :: .ref (Y + 18) :: .ref (Y + 19) :: .ref (Y + 20) :: .ref (Y + 21) :: []))) (by rw [show ((w.set Y (.inr (11, .int th :: .int st :: .ref (Y + 1) :: .ref (Y + 2) :: .ref (Y + 3) :: .ref (Y + 4) :: .int nu :: .ref (Y + 5) :: .ref (Y + 6) :: .ref (Y + 7) :: .int dg :: .ref (Y + 8) :: .int dd :: .ref (Y + 9) :: .ref (Y + 10) :: .ref (Y + 11) :: .ref (Y + 12) :: .int ld :: .int be :: .int ib :: .ref (Y + 13) :: .ref (Y + 14) :: .ref (Y + 15) :: .ref (Y + 16) :: .ref (Y + 17) :: .int (nI ln) :: .int fa :: .int (nI q2) :: .int (nI 1) :: .ref (Y + 18) :: .ref (Y + 19) :: .ref (Y + 20) :: .ref (Y + 21) :: []))).set Y (.inr (11, .int th :: .int st :: .ref (Y + 1) :: .ref (Y + 2) :: .ref (Y + 3) :: .ref (Y + 4) :: .int nu :: .ref (Y + 5) :: .ref (Y + 6) :: .ref (Y + 7) :: .int dg :: .ref (Y + 8) :: .int dd :: .ref (Y + 9) :: .ref (Y + 10) :: .ref (Y + 11) :: .ref (Y + 12) :: .int ld :: .int be :: .int ib :: .ref (Y + 13) :: .ref (Y + 14) :: .ref (Y + 15) :: .ref (Y + 16) :: .ref (Y + 17) :: .int (nI ln) :: .int (nI q2) :: .int (nI q2) :: .int (nI 0) :: .ref (Y + 18) :: .ref (Y + 19) :: .ref (Y + 20) :: .ref (Y + 21) :: []))) = (w.set Y (.inr (11, .int th :: .int st :: .ref (Y + 1) :: .ref (Y + 2) :: .ref (Y + 3) :: .ref (Y + 4) :: .int nu :: .ref (Y + 5) :: .ref (Y + 6) :: .ref (Y + 7) :: .int dg :: .ref (Y + 8) :: .int dd :: .ref (Y + 9) :: .ref (Y + 10) :: .ref (Y + 11) :: .ref (Y + 12) :: .int ld :: .int be :: .int ib :: .ref (Y + 13) :: .ref (Y + 14) :: .ref (Y + 15) :: .ref (Y + 16) :: .ref (Y + 17) :: .int (nI ln) :: .int (nI q2) :: .int (nI q2) :: .int (nI 0) :: .ref (Y + 18) :: .ref (Y + 19) :: .ref (Y + 20) :: .ref (Y + 21) :: []))) from by rw [List.set_set]]) ?_
          refine g_pop (pc := 103) dX12_term_103 rfl ?_
          refine g_aload_n (pc := 104) 4 dX12_term_104 rfl rfl ?_
          refine g_get (pc := 105) dX12_term_105 fk_X12_262 (lk_eq hY) rfl ?_
          refine n_if_eq (pc := 108) 125 dX12_term_108 (by decide) (by omega) (fun hg3 => ?_) (fun hg3 => ?_)
          · exact g_vret (pc := 125) dX12_term_125 ⟨rfl, Or.inl ⟨q2, q2, rfl, by omega, rfl⟩⟩
          · exact absurd rfl hg3
    · rw [Classical.not_not, hx1] at hx
      rw [if_pos hx]
      have hk2 := skB_le (f := f) (p := q2 + 1) (ln := ln) (by omega)
      have hsi2 : skB f ln (skB f ln (q2 + 1)) = skB f ln (q2 + 1) := skB_id
      obtain ⟨q3, hq3⟩ : ∃ q3, q3 = skB f ln (q2 + 1) := ⟨_, rfl⟩
      rw [← hq3] at hk2 hsi2 ⊢
      have hx3 := chA_c (f := f) (q := q3) (c := 94) hs (by decide)
      unfold pTx
      refine g_aload_n (pc := 41) 4 dX12_term_41 rfl rfl ?_
      refine g_dup (pc := 42) dX12_term_42 rfl ?_
      refine g_get (pc := 43) dX12_term_43 fk_X12_255 (lk_eq hY) rfl ?_
      refine g_iconst (pc := 46) (v := nI 1) dX12_term_46 (by decide) ?_
      refine n_iadd (pc := 47) dX12_term_47 ?_
      refine g_put (pc := 48) (.int th :: .int st :: .ref (Y + 1) :: .ref (Y + 2) :: .ref (Y + 3) :: .ref (Y + 4) :: .int nu :: .ref (Y + 5) :: .ref (Y + 6) :: .ref (Y + 7) :: .int dg :: .ref (Y + 8) :: .int dd :: .ref (Y + 9) :: .ref (Y + 10) :: .ref (Y + 11) :: .ref (Y + 12) :: .int ld :: .int be :: .int ib :: .ref (Y + 13) :: .ref (Y + 14) :: .ref (Y + 15) :: .ref (Y + 16) :: .ref (Y + 17) :: .int (nI ln) :: .int fa :: .int (nI (q2 + 1)) :: .int (nI 1) :: .ref (Y + 18) :: .ref (Y + 19) :: .ref (Y + 20) :: .ref (Y + 21) :: []) dX12_term_48 fk_X12_255 (lk_eq hY) (Nat.le_of_ble_eq_true rfl) rfl rfl ?_
      refine GP.weq (w.set Y (.inr (11, .int th :: .int st :: .ref (Y + 1) :: .ref (Y + 2) :: .ref (Y + 3) :: .ref (Y + 4) :: .int nu :: .ref (Y + 5) :: .ref (Y + 6) :: .ref (Y + 7) :: .int dg :: .ref (Y + 8) :: .int dd :: .ref (Y + 9) :: .ref (Y + 10) :: .ref (Y + 11) :: .ref (Y + 12) :: .int ld :: .int be :: .int ib :: .ref (Y + 13) :: .ref (Y + 14) :: .ref (Y + 15) :: .ref (Y + 16) :: .ref (Y + 17) :: .int (nI ln) :: .int fa :: .int (nI (q2 + 1)) :: .int (nI 1) :: .ref (Y + 18) :: .ref (Y + 19) :: .ref (Y + 20) :: .ref (Y + 21) :: []))) (by rw [List.set_set]) ?_
      refine g_iconst (pc := 51) (v := nI 1) dX12_term_51 (by decide) ?_
      refine g_istore (pc := 52) [(4, .int (nI 1)), (3, .int (nI num)), (2, .int (nI n)), (1, .int (-1)), (0, .ref Y)] dX12_term_52 (by decide) rfl ?_
      refine g_aload_n (pc := 54) 4 dX12_term_54 rfl rfl ?_
      refine g_callV (pc := 55) [] dX12_term_55 cv_X12_265.1 cv_X12_265.2.1 cv_X12_265.2.2.1 cv_X12_265.2.2.2 (lk_eq hY) rfl rfl (Nat.le_of_ble_eq_true rfl) (by decide) (by decide) (mp_sign _ (lk_eq hY) (lk_ne (show Y ≠ (Y + 17) by omega) h17) hs (p := q2 + 1) (by omega)) ?_
      rintro _ w9 ⟨rfl, e9⟩
      rw [← hq3] at e9 ⊢
      refine GP.weq _ e9 ?_
      refine GP.weq (w.set Y (.inr (11, .int th :: .int st :: .ref (Y + 1) :: .ref (Y + 2) :: .ref (Y + 3) :: .ref (Y + 4) :: .int nu :: .ref (Y + 5) :: .ref (Y + 6) :: .ref (Y + 7) :: .int dg :: .ref (Y + 8) :: .int dd :: .ref (Y + 9) :: .ref (Y + 10) :: .ref (Y + 11) :: .ref (Y + 12) :: .int ld :: .int be :: .int ib :: .ref (Y + 13) :: .ref (Y + 14) :: .ref (Y + 15) :: .ref (Y + 16) :: .ref (Y + 17) :: .int (nI ln) :: .int fa :: .int (nI q3) :: .int (nI 1) :: .ref (Y + 18) :: .ref (Y + 19) :: .ref (Y + 20) :: .ref (Y + 21) :: []))) (by rw [show ((w.set Y (.inr (11, .int th :: .int st :: .ref (Y + 1) :: .ref (Y + 2) :: .ref (Y + 3) :: .ref (Y + 4) :: .int nu :: .ref (Y + 5) :: .ref (Y + 6) :: .ref (Y + 7) :: .int dg :: .ref (Y + 8) :: .int dd :: .ref (Y + 9) :: .ref (Y + 10) :: .ref (Y + 11) :: .ref (Y + 12) :: .int ld :: .int be :: .int ib :: .ref (Y + 13) :: .ref (Y + 14) :: .ref (Y + 15) :: .ref (Y + 16) :: .ref (Y + 17) :: .int (nI ln) :: .int fa :: .int (nI (q2 + 1)) :: .int (nI 1) :: .ref (Y + 18) :: .ref (Y + 19) :: .ref (Y + 20) :: .ref (Y + 21) :: []))).set Y (.inr (11, .int th :: .int st :: .ref (Y + 1) :: .ref (Y + 2) :: .ref (Y + 3) :: .ref (Y + 4) :: .int nu :: .ref (Y + 5) :: .ref (Y + 6) :: .ref (Y + 7) :: .int dg :: .ref (Y + 8) :: .int dd :: .ref (Y + 9) :: .ref (Y + 10) :: .ref (Y + 11) :: .ref (Y + 12) :: .int ld :: .int be :: .int ib :: .ref (Y + 13) :: .ref (Y + 14) :: .ref (Y + 15) :: .ref (Y + 16) :: .ref (Y + 17) :: .int (nI ln) :: .int fa :: .int (nI q3) :: .int (nI 1) :: .ref (Y + 18) :: .ref (Y + 19) :: .ref (Y + 20) :: .ref (Y + 21) :: []))) = (w.set Y (.inr (11, .int th :: .int st :: .ref (Y + 1) :: .ref (Y + 2) :: .ref (Y + 3) :: .ref (Y + 4) :: .int nu :: .ref (Y + 5) :: .ref (Y + 6) :: .ref (Y + 7) :: .int dg :: .ref (Y + 8) :: .int dd :: .ref (Y + 9) :: .ref (Y + 10) :: .ref (Y + 11) :: .ref (Y + 12) :: .int ld :: .int be :: .int ib :: .ref (Y + 13) :: .ref (Y + 14) :: .ref (Y + 15) :: .ref (Y + 16) :: .ref (Y + 17) :: .int (nI ln) :: .int fa :: .int (nI q3) :: .int (nI 1) :: .ref (Y + 18) :: .ref (Y + 19) :: .ref (Y + 20) :: .ref (Y + 21) :: []))) from by rw [List.set_set]]) ?_
      refine g_bipush (pc := 58) (v := nI 94) dX12_term_58 (by decide) ?_
      refine g_icmp_ne (pc := 60) 104 dX12_term_60 (by decide) (fun hc => ?_) (fun hc => ?_)
      · rw [hx3] at hc
        rw [if_neg hc]
        refine g_aload_n (pc := 104) 4 dX12_term_104 rfl rfl ?_
        refine g_get (pc := 105) dX12_term_105 fk_X12_262 (lk_eq hY) rfl ?_
        refine n_if_eq (pc := 108) 125 dX12_term_108 (by decide) (by omega) (fun hg9 => ?_) (fun hg9 => ?_)
        · exact absurd hg9 (by decide)
        · refine g_aload_n (pc := 111) 4 dX12_term_111 rfl rfl ?_
          refine g_get (pc := 112) dX12_term_112 fk_X12_29 (lk_eq hY) rfl ?_
          refine g_iload (pc := 115) 0 dX12_term_115 rfl ?_
          refine g_dup2 (pc := 117) dX12_term_117 rfl rfl ?_
          refine g_lald (pc := 118) 1 dX12_term_118 (lk_ne (show Y ≠ (Y + 7) by omega) h7) (IXn (by omega) (by omega)) ?_
          refine g_iload_n (pc := 119) 3 dX12_term_119 rfl rfl ?_
          refine g_iload_n (pc := 120) 2 dX12_term_120 rfl rfl ?_
          refine g_imul (pc := 121) dX12_term_121 ?_
          refine g_i2l (pc := 122) dX12_term_122 ?_
          refine g_ladd (pc := 123) dX12_term_123 ?_
          refine g_last (pc := 124) 1 dX12_term_124 (lk_ne (show Y ≠ (Y + 7) by omega) h7) (IXn (by omega) (by omega)) ?_
          exact g_vret (pc := 125) dX12_term_125 ⟨rfl, Or.inr ⟨1, n, _, q3, rfl, by omega, hsi2, _, hm_add (mi := 1) hb (by omega) (by omega) (by rw [IL, I_mul (by rw [nI_toInt (show n < 2147483648 by omega), show (-1 : Int32).toInt = -1 from by decide]; omega) (by rw [nI_toInt (show n < 2147483648 by omega), show (-1 : Int32).toInt = -1 from by decide]; omega), nI_toInt (show n < 2147483648 by omega), show (-1 : Int32).toInt = -1 from by decide]; show _ = -((n : Nat) : Int); omega), rfl⟩⟩
      · rw [Classical.not_not, hx3] at hc
        rw [if_pos hc]
        have hk4 := skB_le (f := f) (p := q3 + 1) (ln := ln) (by omega)
        obtain ⟨q4, hq4⟩ : ∃ q4, q4 = skB f ln (q3 + 1) := ⟨_, rfl⟩
        rw [← hq4] at hk4 ⊢
        have htk := tkN_le (f := f) (ln := ln) (p := q4) hk4.2
        refine g_aload_n (pc := 63) 4 dX12_term_63 rfl rfl ?_
        refine g_dup (pc := 64) dX12_term_64 rfl ?_
        refine g_get (pc := 65) dX12_term_65 fk_X12_255 (lk_eq hY) rfl ?_
        refine g_iconst (pc := 68) (v := nI 1) dX12_term_68 (by decide) ?_
        refine n_iadd (pc := 69) dX12_term_69 ?_
        refine g_put (pc := 70) (.int th :: .int st :: .ref (Y + 1) :: .ref (Y + 2) :: .ref (Y + 3) :: .ref (Y + 4) :: .int nu :: .ref (Y + 5) :: .ref (Y + 6) :: .ref (Y + 7) :: .int dg :: .ref (Y + 8) :: .int dd :: .ref (Y + 9) :: .ref (Y + 10) :: .ref (Y + 11) :: .ref (Y + 12) :: .int ld :: .int be :: .int ib :: .ref (Y + 13) :: .ref (Y + 14) :: .ref (Y + 15) :: .ref (Y + 16) :: .ref (Y + 17) :: .int (nI ln) :: .int fa :: .int (nI (q3 + 1)) :: .int (nI 1) :: .ref (Y + 18) :: .ref (Y + 19) :: .ref (Y + 20) :: .ref (Y + 21) :: []) dX12_term_70 fk_X12_255 (lk_eq hY) (Nat.le_of_ble_eq_true rfl) rfl rfl ?_
        refine GP.weq (w.set Y (.inr (11, .int th :: .int st :: .ref (Y + 1) :: .ref (Y + 2) :: .ref (Y + 3) :: .ref (Y + 4) :: .int nu :: .ref (Y + 5) :: .ref (Y + 6) :: .ref (Y + 7) :: .int dg :: .ref (Y + 8) :: .int dd :: .ref (Y + 9) :: .ref (Y + 10) :: .ref (Y + 11) :: .ref (Y + 12) :: .int ld :: .int be :: .int ib :: .ref (Y + 13) :: .ref (Y + 14) :: .ref (Y + 15) :: .ref (Y + 16) :: .ref (Y + 17) :: .int (nI ln) :: .int fa :: .int (nI (q3 + 1)) :: .int (nI 1) :: .ref (Y + 18) :: .ref (Y + 19) :: .ref (Y + 20) :: .ref (Y + 21) :: []))) (by rw [List.set_set]) ?_
        refine g_aload_n (pc := 73) 4 dX12_term_73 rfl rfl ?_
        refine g_bipush (pc := 74) (v := nI 12) dX12_term_74 (by decide) ?_
        refine g_callV (pc := 76) [.int (nI 12)] dX12_term_76 cv_X12_274.1 cv_X12_274.2.1 cv_X12_274.2.2.1 cv_X12_274.2.2.2 (lk_eq hY) rfl rfl (Nat.le_of_ble_eq_true rfl) (by decide) (by decide) (mp_number _ (lk_eq hY) (lk_ne (show Y ≠ (Y + 17) by omega) h17) hs (p := q3 + 1) (most := 12) (by omega) (by decide)) ?_
        rintro _ w9 (⟨hd, hle, rfl, e9⟩ | ⟨hd, e5, v5, he5, rfl, e9⟩)
        · rw [← hq4] at hd hle e9 ⊢
          refine GP.weq _ e9 ?_
          refine GP.weq (w.set Y (.inr (11, .int th :: .int st :: .ref (Y + 1) :: .ref (Y + 2) :: .ref (Y + 3) :: .ref (Y + 4) :: .int nu :: .ref (Y + 5) :: .ref (Y + 6) :: .ref (Y + 7) :: .int dg :: .ref (Y + 8) :: .int dd :: .ref (Y + 9) :: .ref (Y + 10) :: .ref (Y + 11) :: .ref (Y + 12) :: .int ld :: .int be :: .int ib :: .ref (Y + 13) :: .ref (Y + 14) :: .ref (Y + 15) :: .ref (Y + 16) :: .ref (Y + 17) :: .int (nI ln) :: .int fa :: .int (nI ((tkN f ln q4 0).2)) :: .int (nI 1) :: .ref (Y + 18) :: .ref (Y + 19) :: .ref (Y + 20) :: .ref (Y + 21) :: []))) (by rw [List.set_set]) ?_
          rw [if_pos hd, if_pos hle]
          obtain ⟨pw, hpw⟩ : ∃ pw, pw = (tkN f ln q4 0).1 := ⟨_, rfl⟩
          obtain ⟨e6, he6⟩ : ∃ e6, e6 = (tkN f ln q4 0).2 := ⟨_, rfl⟩
          rw [← hpw] at hle htk ⊢
          rw [← he6] at htk ⊢
          refine g_istore (pc := 79) [(4, .int (nI pw)), (3, .int (nI num)), (2, .int (nI n)), (1, .int (-1)), (0, .ref Y)] dX12_term_79 (by decide) rfl ?_
          refine g_goto (pc := 81) 104 dX12_term_81 (by decide) ?_
          refine g_aload_n (pc := 104) 4 dX12_term_104 rfl rfl ?_
          refine g_get (pc := 105) dX12_term_105 fk_X12_262 (lk_eq hY) rfl ?_
          refine n_if_eq (pc := 108) 125 dX12_term_108 (by decide) (by omega) (fun hg9 => ?_) (fun hg9 => ?_)
          · exact absurd hg9 (by decide)
          · refine g_aload_n (pc := 111) 4 dX12_term_111 rfl rfl ?_
            refine g_get (pc := 112) dX12_term_112 fk_X12_29 (lk_eq hY) rfl ?_
            refine g_iload (pc := 115) 0 dX12_term_115 rfl ?_
            refine g_dup2 (pc := 117) dX12_term_117 rfl rfl ?_
            refine g_lald (pc := 118) pw dX12_term_118 (lk_ne (show Y ≠ (Y + 7) by omega) h7) (IXn (by omega) (by omega)) ?_
            refine g_iload_n (pc := 119) 3 dX12_term_119 rfl rfl ?_
            refine g_iload_n (pc := 120) 2 dX12_term_120 rfl rfl ?_
            refine g_imul (pc := 121) dX12_term_121 ?_
            refine g_i2l (pc := 122) dX12_term_122 ?_
            refine g_ladd (pc := 123) dX12_term_123 ?_
            refine g_last (pc := 124) pw dX12_term_124 (lk_ne (show Y ≠ (Y + 7) by omega) h7) (IXn (by omega) (by omega)) ?_
            exact g_vret (pc := 125) dX12_term_125 ⟨rfl, Or.inr ⟨pw, n, _, e6, rfl, by omega, rfl, _, hm_add (mi := 1) hb (by omega) (by omega) (by rw [IL, I_mul (by rw [nI_toInt (show n < 2147483648 by omega), show (-1 : Int32).toInt = -1 from by decide]; omega) (by rw [nI_toInt (show n < 2147483648 by omega), show (-1 : Int32).toInt = -1 from by decide]; omega), nI_toInt (show n < 2147483648 by omega), show (-1 : Int32).toInt = -1 from by decide]; show _ = -((n : Nat) : Int); omega), rfl⟩⟩
        · rw [← hq4] at hd e9
          refine GP.weq _ e9 ?_
          refine GP.weq (w.set Y (.inr (11, .int th :: .int st :: .ref (Y + 1) :: .ref (Y + 2) :: .ref (Y + 3) :: .ref (Y + 4) :: .int nu :: .ref (Y + 5) :: .ref (Y + 6) :: .ref (Y + 7) :: .int dg :: .ref (Y + 8) :: .int dd :: .ref (Y + 9) :: .ref (Y + 10) :: .ref (Y + 11) :: .ref (Y + 12) :: .int ld :: .int be :: .int ib :: .ref (Y + 13) :: .ref (Y + 14) :: .ref (Y + 15) :: .ref (Y + 16) :: .ref (Y + 17) :: .int (nI ln) :: .int (nI q4) :: .int (nI e5) :: .int (nI 0) :: .ref (Y + 18) :: .ref (Y + 19) :: .ref (Y + 20) :: .ref (Y + 21) :: []))) (by rw [List.set_set]) ?_
          have hno : (if q4 < ln ∧ 48 ≤ ub (f q4) ∧ ub (f q4) ≤ 57 then (if (tkN f ln q4 0).1 ≤ 12 then (.inr ((tkN f ln q4 0).1, n, skB f ln (tkN f ln q4 0).2) : Nat ⊕ (Nat × Nat × Nat)) else .inl q4) else .inl q4) = .inl q4 := by
            rcases hd with hd | hd
            · rw [if_neg hd]
            · by_cases g : q4 < ln ∧ 48 ≤ ub (f q4) ∧ ub (f q4) ≤ 57
              · rw [if_pos g, if_neg (by omega)]
              · rw [if_neg g]
          rw [hno]
          refine g_istore (pc := 79) [(4, .int v5), (3, .int (nI num)), (2, .int (nI n)), (1, .int (-1)), (0, .ref Y)] dX12_term_79 (by decide) rfl ?_
          refine g_goto (pc := 81) 104 dX12_term_81 (by decide) ?_
          refine g_aload_n (pc := 104) 4 dX12_term_104 rfl rfl ?_
          refine g_get (pc := 105) dX12_term_105 fk_X12_262 (lk_eq hY) rfl ?_
          refine n_if_eq (pc := 108) 125 dX12_term_108 (by decide) (by omega) (fun hg3 => ?_) (fun hg3 => ?_)
          · exact g_vret (pc := 125) dX12_term_125 ⟨rfl, Or.inl ⟨q4, e5, rfl, he5, rfl⟩⟩
          · exact absurd rfl hg3
theorem mp_term1 (w : Wd) {Y ln p : Nat} {th st nu dg dd ld be ib fa : Int32} {f : Nat → Int32} {h : Nat → Int64} (hY : w[Y]? = some (oM Y th st nu dg dd ld be ib (nI ln) fa (nI p) (nI 1))) (h7 : w[Y + 7]? = some (aL 60 h)) (h17 : w[Y + 17]? = some (aI 2 400 f)) (hs : sbT f ln) (hb : ∀ j, j < 60 → -1000000000 ≤ (h j).toInt ∧ (h j).toInt ≤ 1000000000) (hp : p ≤ ln) : EX12_term [.ref Y, .int (-1)] w (fun r w' => r = none ∧ ((∃ e0 r1, pTerm f ln p = .inl e0 ∧ r1 ≤ ln ∧ w' = w.set Y (oM Y th st nu dg dd ld be ib (nI ln) (nI e0) (nI r1) (nI 0))) ∨ (∃ pw sz q r1, pTerm f ln p = .inr (pw, sz, q) ∧ r1 ≤ ln ∧ skB f ln r1 = q ∧ ∃ h' : Nat → Int64, (∀ j, j < 60 → (h' j).toInt = addT (toI h) 1 pw sz j) ∧ w' = (w.set Y (oM Y th st nu dg dd ld be ib (nI ln) fa (nI r1) (nI 1))).set (Y + 7) (aL 60 h')))) := by
  refine EP.of (plainFor_of_name (by decide)) [(0, .ref Y), (1, .int (-1))] rfl (Nat.le_of_ble_eq_true rfl) (fun r wf h => by obtain ⟨rfl, -⟩ := h; trivial) ?_
  show BX12_term w _ w 0 [(0, .ref Y), (1, .int (-1))] []
  have hl := hs.1
  have hk1 := skB_le (f := f) hp
  have hsi : skB f ln (skB f ln p) = skB f ln p := skB_id
  unfold pTerm
  obtain ⟨q, hq⟩ : ∃ q, q = skB f ln p := ⟨_, rfl⟩
  rw [← hq] at hk1 hsi ⊢
  have htk := tkN_le (f := f) (ln := ln) (p := q) hk1.2
  refine g_iconst (pc := 0) (v := nI 1) dX12_term_0 (by decide) ?_
  refine g_istore_n (pc := 1) [(2, .int (nI 1)), (0, .ref Y), (1, .int (-1))] dX12_term_1 rfl (by decide) rfl ?_
  refine g_aload_n (pc := 2) 1 dX12_term_2 rfl rfl ?_
  refine g_callV (pc := 3) [] dX12_term_3 cv_X12_265.1 cv_X12_265.2.1 cv_X12_265.2.2.1 cv_X12_265.2.2.2 hY rfl rfl (Nat.le_of_ble_eq_true rfl) (by decide) (by decide) (mp_sign _ hY h17 hs hp) ?_
  rintro _ w9 ⟨rfl, e9⟩
  rw [← hq] at e9 ⊢
  refine GP.weq _ e9 ?_
  refine g_callS (pc := 6) [.int (chA f ln q)] dX12_term_6 cs_X12_268.1 cs_X12_268.2 rfl rfl (Nat.le_of_ble_eq_true rfl) (by decide) (by decide) (mp_isDigit _) ?_
  rintro _ w9 (⟨rfl, hd, e9⟩ | ⟨rfl, hd, e9⟩)
  · refine GP.weq _ e9 ?_
    rw [chA_d hs] at hd
    rw [if_pos hd]
    refine g_istore_n (pc := 9) [(3, .int (nI 1)), (2, .int (nI 1)), (0, .ref Y), (1, .int (-1))] dX12_term_9 rfl (by decide) rfl ?_
    refine g_iload_n (pc := 10) 0 dX12_term_10 rfl rfl ?_
    refine n_if_eq (pc := 11) 22 dX12_term_11 (by decide) (by omega) (fun hd9 => ?_) (fun hd9 => ?_)
    · exact absurd hd9 (by decide)
    · refine g_aload_n (pc := 14) 2 dX12_term_14 rfl rfl ?_
      refine g_sipush (pc := 15) (v := nI 9999) dX12_term_15 (by decide) ?_
      refine g_callV (pc := 18) [.int (nI 9999)] dX12_term_18 cv_X12_274.1 cv_X12_274.2.1 cv_X12_274.2.2.1 cv_X12_274.2.2.2 (lk_eq hY) rfl rfl (Nat.le_of_ble_eq_true rfl) (by decide) (by decide) (mp_number _ (lk_eq hY) (lk_ne (show Y ≠ (Y + 17) by omega) h17) hs (p := q) (most := 9999) hk1.2 (by decide)) ?_
      rintro _ w9 (⟨hd2, hle, rfl, e9⟩ | ⟨hd2, e5, v5, he5, rfl, e9⟩)
      · rw [hsi] at hle e9 ⊢
        refine GP.weq _ e9 ?_
        refine GP.weq (w.set Y (.inr (11, .int th :: .int st :: .ref (Y + 1) :: .ref (Y + 2) :: .ref (Y + 3) :: .ref (Y + 4) :: .int nu :: .ref (Y + 5) :: .ref (Y + 6) :: .ref (Y + 7) :: .int dg :: .ref (Y + 8) :: .int dd :: .ref (Y + 9) :: .ref (Y + 10) :: .ref (Y + 11) :: .ref (Y + 12) :: .int ld :: .int be :: .int ib :: .ref (Y + 13) :: .ref (Y + 14) :: .ref (Y + 15) :: .ref (Y + 16) :: .ref (Y + 17) :: .int (nI ln) :: .int fa :: .int (nI ((tkN f ln q 0).2)) :: .int (nI 1) :: .ref (Y + 18) :: .ref (Y + 19) :: .ref (Y + 20) :: .ref (Y + 21) :: []))) (by rw [List.set_set]) ?_
        refine g_istore_n (pc := 21) [(2, .int (nI ((tkN f ln q 0).1))), (3, .int (nI 1)), (0, .ref Y), (1, .int (-1))] dX12_term_21 rfl (by decide) rfl ?_
        exact GP.lsub _ (by simp) (trm_1 hY h7 h17 hs hb (num := 1) (n := (tkN f ln q 0).1) (e := (tkN f ln q 0).2) (st9 := q) hle (by omega) htk.2.1)
      · rw [hsi] at hd2 e9
        refine GP.weq _ e9 ?_
        refine GP.weq (w.set Y (.inr (11, .int th :: .int st :: .ref (Y + 1) :: .ref (Y + 2) :: .ref (Y + 3) :: .ref (Y + 4) :: .int nu :: .ref (Y + 5) :: .ref (Y + 6) :: .ref (Y + 7) :: .int dg :: .ref (Y + 8) :: .int dd :: .ref (Y + 9) :: .ref (Y + 10) :: .ref (Y + 11) :: .ref (Y + 12) :: .int ld :: .int be :: .int ib :: .ref (Y + 13) :: .ref (Y + 14) :: .ref (Y + 15) :: .ref (Y + 16) :: .ref (Y + 17) :: .int (nI ln) :: .int (nI q) :: .int (nI e5) :: .int (nI 0) :: .ref (Y + 18) :: .ref (Y + 19) :: .ref (Y + 20) :: .ref (Y + 21) :: []))) (by rw [List.set_set]) ?_
        have hno : pTn f ln 1 q (tkN f ln q 0).1 (tkN f ln q 0).2 = .inl q := by
          unfold pTn
          rcases hd2 with hd2 | hd2
          · exact absurd hd hd2
          · rw [if_pos hd2]
        rw [hno]
        refine g_istore_n (pc := 21) [(2, .int v5), (3, .int (nI 1)), (0, .ref Y), (1, .int (-1))] dX12_term_21 rfl (by decide) rfl ?_
        refine g_iconst (pc := 22) (v := nI 0) dX12_term_22 (by decide) ?_
        refine g_istore (pc := 23) [(4, .int (nI 0)), (2, .int v5), (3, .int (nI 1)), (0, .ref Y), (1, .int (-1))] dX12_term_23 (by decide) rfl ?_
        refine g_aload_n (pc := 25) 3 dX12_term_25 rfl rfl ?_
        refine g_get (pc := 26) dX12_term_26 fk_X12_262 (lk_eq hY) rfl ?_
        refine n_if_eq (pc := 29) 84 dX12_term_29 (by decide) (by omega) (fun hg1 => ?_) (fun hg1 => ?_)
        · refine g_aload_n (pc := 84) 3 dX12_term_84 rfl rfl ?_
          refine g_get (pc := 85) dX12_term_85 fk_X12_262 (lk_eq hY) rfl ?_
          refine n_if_eq (pc := 88) 104 dX12_term_88 (by decide) (by omega) (fun hg2 => ?_) (fun hg2 => ?_)
          · refine g_aload_n (pc := 104) 3 dX12_term_104 rfl rfl ?_
            refine g_get (pc := 105) dX12_term_105 fk_X12_262 (lk_eq hY) rfl ?_
            refine n_if_eq (pc := 108) 125 dX12_term_108 (by decide) (by omega) (fun hg3 => ?_) (fun hg3 => ?_)
            · exact g_vret (pc := 125) dX12_term_125 ⟨rfl, Or.inl ⟨q, e5, rfl, he5, rfl⟩⟩
            · exact absurd rfl hg3
          · exact absurd rfl hg2
        · exact absurd rfl hg1
  · refine GP.weq _ e9 ?_
    rw [chA_d hs] at hd
    rw [if_neg hd]
    refine g_istore_n (pc := 9) [(3, .int (nI 0)), (2, .int (nI 1)), (0, .ref Y), (1, .int (-1))] dX12_term_9 rfl (by decide) rfl ?_
    refine g_iload_n (pc := 10) 0 dX12_term_10 rfl rfl ?_
    refine n_if_eq (pc := 11) 22 dX12_term_11 (by decide) (by omega) (fun hd9 => ?_) (fun hd9 => ?_)
    · exact GP.lsub _ (by simp) (trm_1 hY h7 h17 hs hb (num := 0) (n := 1) (e := q) (st9 := q) (by omega) (by omega) hk1.2)
    · exact absurd rfl hd9
