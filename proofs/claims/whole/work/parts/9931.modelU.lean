/-! the reference: write, writeNumber, listing -/
abbrev BX12_write (w0 : Wd) (Post : Option Value → Wd → Prop) (w : Wd) (pc : Nat) (ls : List (Nat × Value)) (st : List Value) : Prop := GP "write" RX12 cX12_write 2 none 0 0 none w0 Post w pc ls st
abbrev EX12_write (As : List Value) (w : Wd) (Post : Option Value → Wd → Prop) : Prop := EP yX12_write cX12_write 2 none 0 As w Post
theorem mp_write (w : Wd) {Y : Nat} {th st nu dg dd ld be ib fa re ig : Int32} {s : (Nat → Int32) × Nat} (hY : w[Y]? = some (oM Y th st nu dg dd ld be ib (nI s.2) fa re ig)) (h17 : w[Y + 17]? = some (aI 2 400 s.1)) (hs : s.2 < 400) {x : Int32} : EX12_write [.ref Y, .int x] w (fun r w' => r = none ∧ ∃ s' : (Nat → Int32) × Nat, s' = wB s x ∧ s'.2 = s.2 + 1 ∧ w' = (w.set (Y + 17) (aI 2 400 s'.1)).set Y (oM Y th st nu dg dd ld be ib (nI s'.2) fa re ig)) := by
  refine EP.of (plainFor_of_name (by decide)) [(0, .ref Y), (1, .int x)] rfl (Nat.le_of_ble_eq_true rfl) (fun r wf h => by obtain ⟨rfl, -⟩ := h; trivial) ?_
  show BX12_write w _ w 0 [(0, .ref Y), (1, .int x)] []
  refine g_aload_n (pc := 0) 0 dX12_write_0 rfl rfl ?_
  refine g_get (pc := 1) dX12_write_1 fk_X12_60 hY rfl ?_
  refine g_aload_n (pc := 4) 0 dX12_write_4 rfl rfl ?_
  refine g_get (pc := 5) dX12_write_5 fk_X12_249 hY rfl ?_
  refine g_iload_n (pc := 8) 1 dX12_write_8 rfl rfl ?_
  refine g_i2b (pc := 9) dX12_write_9 ?_
  refine g_bast (pc := 10) s.2 dX12_write_10 h17 (IXn (by omega) (by omega)) ?_
  refine g_aload_n (pc := 11) 0 dX12_write_11 rfl rfl ?_
  refine g_dup (pc := 12) dX12_write_12 rfl ?_
  refine g_get (pc := 13) dX12_write_13 fk_X12_249 (lk_ne (show (Y + 17) ≠ Y by omega) hY) rfl ?_
  refine g_iconst (pc := 16) (v := nI 1) dX12_write_16 (by decide) ?_
  refine n_iadd (pc := 17) dX12_write_17 ?_
  refine g_put (pc := 18) (.int th :: .int st :: .ref (Y + 1) :: .ref (Y + 2) :: .ref (Y + 3) :: .ref (Y + 4) :: .int nu :: .ref (Y + 5) :: .ref (Y + 6) :: .ref (Y + 7) :: .int dg :: .ref (Y + 8) :: .int dd :: .ref (Y + 9) :: .ref (Y + 10) :: .ref (Y + 11) :: .ref (Y + 12) :: .int ld :: .int be :: .int ib :: .ref (Y + 13) :: .ref (Y + 14) :: .ref (Y + 15) :: .ref (Y + 16) :: .ref (Y + 17) :: .int (nI (s.2 + 1)) :: .int fa :: .int re :: .int ig :: .ref (Y + 18) :: .ref (Y + 19) :: .ref (Y + 20) :: .ref (Y + 21) :: []) dX12_write_18 fk_X12_249 (lk_ne (show (Y + 17) ≠ Y by omega) hY) (Nat.le_of_ble_eq_true rfl) rfl rfl ?_
  have e9 : upd s.1 s.2 (x.toInt8.toInt32.toInt8.toInt32) = (wB s x).1 := by rw [sb_sb2]; rfl
  rw [e9]
  exact g_vret (pc := 21) dX12_write_21 ⟨rfl, wB s x, rfl, rfl, rfl⟩
abbrev BX12_writeNumber (w0 : Wd) (Post : Option Value → Wd → Prop) (w : Wd) (pc : Nat) (ls : List (Nat × Value)) (st : List Value) : Prop := GP "writeNumber" RX12 cX12_writeNumber 4 none 1 39 none w0 Post w pc ls st
abbrev EX12_writeNumber (As : List Value) (w : Wd) (Post : Option Value → Wd → Prop) : Prop := EP yX12_writeNumber cX12_writeNumber 4 none 1 As w Post
theorem wD_n {s : (Nat → Int32) × Nat} {x u : Nat} (h : ¬ (u ≤ x ∨ u = 1)) : wD s x u = s := if_neg h
theorem wD_y {s : (Nat → Int32) × Nat} {x u : Nat} (h : u ≤ x ∨ u = 1) : wD s x u = wB s (nI (48 + x / u % 10)) := if_pos h
theorem wN_1 {s : (Nat → Int32) × Nat} {x : Nat} (h : x < 10) : wN s x = wB s (nI (48 + x / 1 % 10)) := by
  unfold wN
  rw [wD_n (u := 1000) (by omega), wD_n (u := 100) (by omega), wD_n (u := 10) (by omega), wD_y (u := 1) (by omega)]
theorem wN_2 {s : (Nat → Int32) × Nat} {x : Nat} (h0 : 10 ≤ x) (h : x < 100) : wN s x = wB (wB s (nI (48 + x / 10 % 10))) (nI (48 + x / 1 % 10)) := by
  unfold wN
  rw [wD_n (u := 1000) (by omega), wD_n (u := 100) (by omega), wD_y (u := 10) (by omega), wD_y (u := 1) (by omega)]
theorem wN_3 {s : (Nat → Int32) × Nat} {x : Nat} (h0 : 100 ≤ x) (h : x < 1000) : wN s x = wB (wB (wB s (nI (48 + x / 100 % 10))) (nI (48 + x / 10 % 10))) (nI (48 + x / 1 % 10)) := by
  unfold wN
  rw [wD_n (u := 1000) (by omega), wD_y (u := 100) (by omega), wD_y (u := 10) (by omega), wD_y (u := 1) (by omega)]
theorem wN_4 {s : (Nat → Int32) × Nat} {x : Nat} (h0 : 1000 ≤ x) : wN s x = wB (wB (wB (wB s (nI (48 + x / 1000 % 10))) (nI (48 + x / 100 % 10))) (nI (48 + x / 10 % 10))) (nI (48 + x / 1 % 10)) := by
  unfold wN
  rw [wD_y (u := 1000) (by omega), wD_y (u := 100) (by omega), wD_y (u := 10) (by omega), wD_y (u := 1) (by omega)]
theorem mp_writeNumber (w : Wd) {Y : Nat} {th st nu dg dd ld be ib fa re ig : Int32} {s : (Nat → Int32) × Nat} (hY : w[Y]? = some (oM Y th st nu dg dd ld be ib (nI s.2) fa re ig)) (h17 : w[Y + 17]? = some (aI 2 400 s.1)) (hs : s.2 + 4 < 400) {v : Nat} (hv : v ≤ 9999) : EX12_writeNumber [.ref Y, .int (nI v)] w (fun r w' => r = none ∧ ∃ s' : (Nat → Int32) × Nat, s' = wN s v ∧ s'.2 ≤ s.2 + 4 ∧ w' = (w.set (Y + 17) (aI 2 400 s'.1)).set Y (oM Y th st nu dg dd ld be ib (nI s'.2) fa re ig)) := by
  refine EP.of (plainFor_of_name (by decide)) [(0, .ref Y), (1, .int (nI v))] rfl (Nat.le_of_ble_eq_true rfl) (fun r wf h => by obtain ⟨rfl, -⟩ := h; trivial) ?_
  show BX12_writeNumber w _ w 0 [(0, .ref Y), (1, .int (nI v))] []
  rcases (show v < 10 ∨ (10 ≤ v ∧ v < 100) ∨ (100 ≤ v ∧ v < 1000) ∨ 1000 ≤ v by omega) with g1 | ⟨g0, g1⟩ | ⟨g0, g1⟩ | g0
  · ·
      refine g_iconst (pc := 0) (v := nI 1) dX12_writeNumber_0 (by decide) ?_
      refine g_istore_n (pc := 1) [(2, .int (nI 1)), (0, .ref Y), (1, .int (nI v))] dX12_writeNumber_1 rfl (by decide) rfl ?_
      refine g_iload_n (pc := 2) 2 dX12_writeNumber_2 rfl rfl ?_
      refine g_iload_n (pc := 3) 0 dX12_writeNumber_3 rfl rfl ?_
      refine n_idiv (pc := 4) dX12_writeNumber_4 (by omega) (by omega) (by omega) ?_
      refine g_bipush (pc := 5) (v := nI 10) dX12_writeNumber_5 (by decide) ?_
      refine n_icmp_lt (pc := 7) 18 dX12_writeNumber_7 (by decide) (by omega) (by omega) (fun hb => ?_) (fun hb => ?_)
      · refine g_iload_n (pc := 18) 0 dX12_writeNumber_18 rfl rfl ?_
        refine g_istore_n (pc := 19) [(3, .int (nI 1)), (2, .int (nI 1)), (0, .ref Y), (1, .int (nI v))] dX12_writeNumber_19 rfl (by decide) rfl ?_
        refine g_iload_n (pc := 20) 0 dX12_writeNumber_20 rfl rfl ?_
        refine n_if_le (pc := 21) 45 dX12_writeNumber_21 (by decide) (by omega) (fun hl => ?_) (fun hl => ?_)
        · exact absurd hl (by omega)
        · refine g_aload_n (pc := 24) 2 dX12_writeNumber_24 rfl rfl ?_
          refine g_bipush (pc := 25) (v := nI 48) dX12_writeNumber_25 (by decide) ?_
          refine g_iload_n (pc := 27) 3 dX12_writeNumber_27 rfl rfl ?_
          refine g_iload_n (pc := 28) 0 dX12_writeNumber_28 rfl rfl ?_
          refine n_idiv (pc := 29) dX12_writeNumber_29 (by omega) (by omega) (by omega) ?_
          refine g_bipush (pc := 30) (v := nI 10) dX12_writeNumber_30 (by decide) ?_
          refine n_irem (pc := 32) dX12_writeNumber_32 (by omega) (by omega) (by omega) ?_
          refine n_iadd (pc := 33) dX12_writeNumber_33 ?_
          refine g_callV (pc := 34) [.int (nI (48 + ((v / 1) % 10)))] dX12_writeNumber_34 cv_X12_289.1 cv_X12_289.2.1 cv_X12_289.2.2.1 cv_X12_289.2.2.2 hY rfl rfl (Nat.le_of_ble_eq_true rfl) (by decide) (by decide) (mp_write _ (s := s) hY h17 (by omega)) ?_
          rintro _ w9 ⟨rfl, s1, es1, ls1, e9⟩
          refine GP.weq _ e9 ?_
          refine g_iload_n (pc := 37) 0 dX12_writeNumber_37 rfl rfl ?_
          refine g_bipush (pc := 38) (v := nI 10) dX12_writeNumber_38 (by decide) ?_
          refine n_idiv (pc := 40) dX12_writeNumber_40 (by omega) (by omega) (by omega) ?_
          refine GP.ti (nI 0) rfl ?_
          refine g_istore_n (pc := 41) [(3, .int (nI 0)), (2, .int (nI 1)), (0, .ref Y), (1, .int (nI v))] dX12_writeNumber_41 rfl (by decide) rfl ?_
          refine g_goto (pc := 42) 20 dX12_writeNumber_42 (by decide) ?_
          refine g_iload_n (pc := 20) 0 dX12_writeNumber_20 rfl rfl ?_
          refine n_if_le (pc := 21) 45 dX12_writeNumber_21 (by decide) (by omega) (fun hl => ?_) (fun hl => ?_)
          · exact g_vret (pc := 45) dX12_writeNumber_45 ⟨rfl, s1, by rw [es1, wN_1 g1], by omega, rfl⟩
          · exact absurd rfl hl
      · exact absurd (show v / 1 < 10 by omega) hb
  · ·
      refine g_iconst (pc := 0) (v := nI 1) dX12_writeNumber_0 (by decide) ?_
      refine g_istore_n (pc := 1) [(2, .int (nI 1)), (0, .ref Y), (1, .int (nI v))] dX12_writeNumber_1 rfl (by decide) rfl ?_
      refine g_iload_n (pc := 2) 2 dX12_writeNumber_2 rfl rfl ?_
      refine g_iload_n (pc := 3) 0 dX12_writeNumber_3 rfl rfl ?_
      refine n_idiv (pc := 4) dX12_writeNumber_4 (by omega) (by omega) (by omega) ?_
      refine g_bipush (pc := 5) (v := nI 10) dX12_writeNumber_5 (by decide) ?_
      refine n_icmp_lt (pc := 7) 18 dX12_writeNumber_7 (by decide) (by omega) (by omega) (fun hb => ?_) (fun hb => ?_)
      · exact absurd hb (by omega)
      · refine g_iload_n (pc := 10) 0 dX12_writeNumber_10 rfl rfl ?_
        refine g_bipush (pc := 11) (v := nI 10) dX12_writeNumber_11 (by decide) ?_
        refine n_imul (pc := 13) dX12_writeNumber_13 ?_
        refine GP.ti (nI 10) rfl ?_
        refine g_istore_n (pc := 14) [(2, .int (nI 10)), (0, .ref Y), (1, .int (nI v))] dX12_writeNumber_14 rfl (by decide) rfl ?_
        refine g_goto (pc := 15) 2 dX12_writeNumber_15 (by decide) ?_
        refine g_iload_n (pc := 2) 2 dX12_writeNumber_2 rfl rfl ?_
        refine g_iload_n (pc := 3) 0 dX12_writeNumber_3 rfl rfl ?_
        refine n_idiv (pc := 4) dX12_writeNumber_4 (by omega) (by omega) (by omega) ?_
        refine g_bipush (pc := 5) (v := nI 10) dX12_writeNumber_5 (by decide) ?_
        refine n_icmp_lt (pc := 7) 18 dX12_writeNumber_7 (by decide) (by omega) (by omega) (fun hb => ?_) (fun hb => ?_)
        · refine g_iload_n (pc := 18) 0 dX12_writeNumber_18 rfl rfl ?_
          refine g_istore_n (pc := 19) [(3, .int (nI 10)), (2, .int (nI 10)), (0, .ref Y), (1, .int (nI v))] dX12_writeNumber_19 rfl (by decide) rfl ?_
          refine g_iload_n (pc := 20) 0 dX12_writeNumber_20 rfl rfl ?_
          refine n_if_le (pc := 21) 45 dX12_writeNumber_21 (by decide) (by omega) (fun hl => ?_) (fun hl => ?_)
          · exact absurd hl (by omega)
          · refine g_aload_n (pc := 24) 2 dX12_writeNumber_24 rfl rfl ?_
            refine g_bipush (pc := 25) (v := nI 48) dX12_writeNumber_25 (by decide) ?_
            refine g_iload_n (pc := 27) 3 dX12_writeNumber_27 rfl rfl ?_
            refine g_iload_n (pc := 28) 0 dX12_writeNumber_28 rfl rfl ?_
            refine n_idiv (pc := 29) dX12_writeNumber_29 (by omega) (by omega) (by omega) ?_
            refine g_bipush (pc := 30) (v := nI 10) dX12_writeNumber_30 (by decide) ?_
            refine n_irem (pc := 32) dX12_writeNumber_32 (by omega) (by omega) (by omega) ?_
            refine n_iadd (pc := 33) dX12_writeNumber_33 ?_
            refine g_callV (pc := 34) [.int (nI (48 + ((v / 10) % 10)))] dX12_writeNumber_34 cv_X12_289.1 cv_X12_289.2.1 cv_X12_289.2.2.1 cv_X12_289.2.2.2 hY rfl rfl (Nat.le_of_ble_eq_true rfl) (by decide) (by decide) (mp_write _ (s := s) hY h17 (by omega)) ?_
            rintro _ w9 ⟨rfl, s1, es1, ls1, e9⟩
            refine GP.weq _ e9 ?_
            refine g_iload_n (pc := 37) 0 dX12_writeNumber_37 rfl rfl ?_
            refine g_bipush (pc := 38) (v := nI 10) dX12_writeNumber_38 (by decide) ?_
            refine n_idiv (pc := 40) dX12_writeNumber_40 (by omega) (by omega) (by omega) ?_
            refine GP.ti (nI 1) rfl ?_
            refine g_istore_n (pc := 41) [(3, .int (nI 1)), (2, .int (nI 10)), (0, .ref Y), (1, .int (nI v))] dX12_writeNumber_41 rfl (by decide) rfl ?_
            refine g_goto (pc := 42) 20 dX12_writeNumber_42 (by decide) ?_
            refine g_iload_n (pc := 20) 0 dX12_writeNumber_20 rfl rfl ?_
            refine n_if_le (pc := 21) 45 dX12_writeNumber_21 (by decide) (by omega) (fun hl => ?_) (fun hl => ?_)
            · exact absurd hl (by omega)
            · refine g_aload_n (pc := 24) 2 dX12_writeNumber_24 rfl rfl ?_
              refine g_bipush (pc := 25) (v := nI 48) dX12_writeNumber_25 (by decide) ?_
              refine g_iload_n (pc := 27) 3 dX12_writeNumber_27 rfl rfl ?_
              refine g_iload_n (pc := 28) 0 dX12_writeNumber_28 rfl rfl ?_
              refine n_idiv (pc := 29) dX12_writeNumber_29 (by omega) (by omega) (by omega) ?_
              refine g_bipush (pc := 30) (v := nI 10) dX12_writeNumber_30 (by decide) ?_
              refine n_irem (pc := 32) dX12_writeNumber_32 (by omega) (by omega) (by omega) ?_
              refine n_iadd (pc := 33) dX12_writeNumber_33 ?_
              refine g_callV (pc := 34) [.int (nI (48 + ((v / 1) % 10)))] dX12_writeNumber_34 cv_X12_289.1 cv_X12_289.2.1 cv_X12_289.2.2.1 cv_X12_289.2.2.2 (lk_eq (lk_ne (show (Y + 17) ≠ Y by omega) hY)) rfl rfl (Nat.le_of_ble_eq_true rfl) (by decide) (by decide) (mp_write _ (s := s1) (lk_eq (lk_ne (show (Y + 17) ≠ Y by omega) hY)) (lk_ne (show Y ≠ (Y + 17) by omega) (lk_eq h17)) (by omega)) ?_
              rintro _ w9 ⟨rfl, s2, es2, ls2, e9⟩
              refine GP.weq _ e9 ?_
              refine GP.weq ((w.set (Y + 17) (aI 2 400 s2.1)).set Y (.inr (11, .int th :: .int st :: .ref (Y + 1) :: .ref (Y + 2) :: .ref (Y + 3) :: .ref (Y + 4) :: .int nu :: .ref (Y + 5) :: .ref (Y + 6) :: .ref (Y + 7) :: .int dg :: .ref (Y + 8) :: .int dd :: .ref (Y + 9) :: .ref (Y + 10) :: .ref (Y + 11) :: .ref (Y + 12) :: .int ld :: .int be :: .int ib :: .ref (Y + 13) :: .ref (Y + 14) :: .ref (Y + 15) :: .ref (Y + 16) :: .ref (Y + 17) :: .int (nI s2.2) :: .int fa :: .int re :: .int ig :: .ref (Y + 18) :: .ref (Y + 19) :: .ref (Y + 20) :: .ref (Y + 21) :: []))) (by rw [show (((w.set (Y + 17) (aI 2 400 s1.1)).set Y (.inr (11, .int th :: .int st :: .ref (Y + 1) :: .ref (Y + 2) :: .ref (Y + 3) :: .ref (Y + 4) :: .int nu :: .ref (Y + 5) :: .ref (Y + 6) :: .ref (Y + 7) :: .int dg :: .ref (Y + 8) :: .int dd :: .ref (Y + 9) :: .ref (Y + 10) :: .ref (Y + 11) :: .ref (Y + 12) :: .int ld :: .int be :: .int ib :: .ref (Y + 13) :: .ref (Y + 14) :: .ref (Y + 15) :: .ref (Y + 16) :: .ref (Y + 17) :: .int (nI s1.2) :: .int fa :: .int re :: .int ig :: .ref (Y + 18) :: .ref (Y + 19) :: .ref (Y + 20) :: .ref (Y + 21) :: []))).set (Y + 17) (aI 2 400 s2.1)) = ((w.set (Y + 17) (aI 2 400 s2.1)).set Y (.inr (11, .int th :: .int st :: .ref (Y + 1) :: .ref (Y + 2) :: .ref (Y + 3) :: .ref (Y + 4) :: .int nu :: .ref (Y + 5) :: .ref (Y + 6) :: .ref (Y + 7) :: .int dg :: .ref (Y + 8) :: .int dd :: .ref (Y + 9) :: .ref (Y + 10) :: .ref (Y + 11) :: .ref (Y + 12) :: .int ld :: .int be :: .int ib :: .ref (Y + 13) :: .ref (Y + 14) :: .ref (Y + 15) :: .ref (Y + 16) :: .ref (Y + 17) :: .int (nI s1.2) :: .int fa :: .int re :: .int ig :: .ref (Y + 18) :: .ref (Y + 19) :: .ref (Y + 20) :: .ref (Y + 21) :: []))) from by rw [List.set_comm _ _ (show Y ≠ (Y + 17) by omega), List.set_set], show (((w.set (Y + 17) (aI 2 400 s2.1)).set Y (.inr (11, .int th :: .int st :: .ref (Y + 1) :: .ref (Y + 2) :: .ref (Y + 3) :: .ref (Y + 4) :: .int nu :: .ref (Y + 5) :: .ref (Y + 6) :: .ref (Y + 7) :: .int dg :: .ref (Y + 8) :: .int dd :: .ref (Y + 9) :: .ref (Y + 10) :: .ref (Y + 11) :: .ref (Y + 12) :: .int ld :: .int be :: .int ib :: .ref (Y + 13) :: .ref (Y + 14) :: .ref (Y + 15) :: .ref (Y + 16) :: .ref (Y + 17) :: .int (nI s1.2) :: .int fa :: .int re :: .int ig :: .ref (Y + 18) :: .ref (Y + 19) :: .ref (Y + 20) :: .ref (Y + 21) :: []))).set Y (.inr (11, .int th :: .int st :: .ref (Y + 1) :: .ref (Y + 2) :: .ref (Y + 3) :: .ref (Y + 4) :: .int nu :: .ref (Y + 5) :: .ref (Y + 6) :: .ref (Y + 7) :: .int dg :: .ref (Y + 8) :: .int dd :: .ref (Y + 9) :: .ref (Y + 10) :: .ref (Y + 11) :: .ref (Y + 12) :: .int ld :: .int be :: .int ib :: .ref (Y + 13) :: .ref (Y + 14) :: .ref (Y + 15) :: .ref (Y + 16) :: .ref (Y + 17) :: .int (nI s2.2) :: .int fa :: .int re :: .int ig :: .ref (Y + 18) :: .ref (Y + 19) :: .ref (Y + 20) :: .ref (Y + 21) :: []))) = ((w.set (Y + 17) (aI 2 400 s2.1)).set Y (.inr (11, .int th :: .int st :: .ref (Y + 1) :: .ref (Y + 2) :: .ref (Y + 3) :: .ref (Y + 4) :: .int nu :: .ref (Y + 5) :: .ref (Y + 6) :: .ref (Y + 7) :: .int dg :: .ref (Y + 8) :: .int dd :: .ref (Y + 9) :: .ref (Y + 10) :: .ref (Y + 11) :: .ref (Y + 12) :: .int ld :: .int be :: .int ib :: .ref (Y + 13) :: .ref (Y + 14) :: .ref (Y + 15) :: .ref (Y + 16) :: .ref (Y + 17) :: .int (nI s2.2) :: .int fa :: .int re :: .int ig :: .ref (Y + 18) :: .ref (Y + 19) :: .ref (Y + 20) :: .ref (Y + 21) :: []))) from by rw [List.set_set]]) ?_
              refine g_iload_n (pc := 37) 0 dX12_writeNumber_37 rfl rfl ?_
              refine g_bipush (pc := 38) (v := nI 10) dX12_writeNumber_38 (by decide) ?_
              refine n_idiv (pc := 40) dX12_writeNumber_40 (by omega) (by omega) (by omega) ?_
              refine GP.ti (nI 0) rfl ?_
              refine g_istore_n (pc := 41) [(3, .int (nI 0)), (2, .int (nI 10)), (0, .ref Y), (1, .int (nI v))] dX12_writeNumber_41 rfl (by decide) rfl ?_
              refine g_goto (pc := 42) 20 dX12_writeNumber_42 (by decide) ?_
              refine g_iload_n (pc := 20) 0 dX12_writeNumber_20 rfl rfl ?_
              refine n_if_le (pc := 21) 45 dX12_writeNumber_21 (by decide) (by omega) (fun hl => ?_) (fun hl => ?_)
              · exact g_vret (pc := 45) dX12_writeNumber_45 ⟨rfl, s2, by rw [es2, es1, wN_2 g0 g1], by omega, rfl⟩
              · exact absurd rfl hl
        · exact absurd (show v / 10 < 10 by omega) hb
  · ·
      refine g_iconst (pc := 0) (v := nI 1) dX12_writeNumber_0 (by decide) ?_
      refine g_istore_n (pc := 1) [(2, .int (nI 1)), (0, .ref Y), (1, .int (nI v))] dX12_writeNumber_1 rfl (by decide) rfl ?_
      refine g_iload_n (pc := 2) 2 dX12_writeNumber_2 rfl rfl ?_
      refine g_iload_n (pc := 3) 0 dX12_writeNumber_3 rfl rfl ?_
      refine n_idiv (pc := 4) dX12_writeNumber_4 (by omega) (by omega) (by omega) ?_
      refine g_bipush (pc := 5) (v := nI 10) dX12_writeNumber_5 (by decide) ?_
      refine n_icmp_lt (pc := 7) 18 dX12_writeNumber_7 (by decide) (by omega) (by omega) (fun hb => ?_) (fun hb => ?_)
      · exact absurd hb (by omega)
      · refine g_iload_n (pc := 10) 0 dX12_writeNumber_10 rfl rfl ?_
        refine g_bipush (pc := 11) (v := nI 10) dX12_writeNumber_11 (by decide) ?_
        refine n_imul (pc := 13) dX12_writeNumber_13 ?_
        refine GP.ti (nI 10) rfl ?_
        refine g_istore_n (pc := 14) [(2, .int (nI 10)), (0, .ref Y), (1, .int (nI v))] dX12_writeNumber_14 rfl (by decide) rfl ?_
        refine g_goto (pc := 15) 2 dX12_writeNumber_15 (by decide) ?_
        refine g_iload_n (pc := 2) 2 dX12_writeNumber_2 rfl rfl ?_
        refine g_iload_n (pc := 3) 0 dX12_writeNumber_3 rfl rfl ?_
        refine n_idiv (pc := 4) dX12_writeNumber_4 (by omega) (by omega) (by omega) ?_
        refine g_bipush (pc := 5) (v := nI 10) dX12_writeNumber_5 (by decide) ?_
        refine n_icmp_lt (pc := 7) 18 dX12_writeNumber_7 (by decide) (by omega) (by omega) (fun hb => ?_) (fun hb => ?_)
        · exact absurd hb (by omega)
        · refine g_iload_n (pc := 10) 0 dX12_writeNumber_10 rfl rfl ?_
          refine g_bipush (pc := 11) (v := nI 10) dX12_writeNumber_11 (by decide) ?_
          refine n_imul (pc := 13) dX12_writeNumber_13 ?_
          refine GP.ti (nI 100) rfl ?_
          refine g_istore_n (pc := 14) [(2, .int (nI 100)), (0, .ref Y), (1, .int (nI v))] dX12_writeNumber_14 rfl (by decide) rfl ?_
          refine g_goto (pc := 15) 2 dX12_writeNumber_15 (by decide) ?_
          refine g_iload_n (pc := 2) 2 dX12_writeNumber_2 rfl rfl ?_
          refine g_iload_n (pc := 3) 0 dX12_writeNumber_3 rfl rfl ?_
          refine n_idiv (pc := 4) dX12_writeNumber_4 (by omega) (by omega) (by omega) ?_
          refine g_bipush (pc := 5) (v := nI 10) dX12_writeNumber_5 (by decide) ?_
          refine n_icmp_lt (pc := 7) 18 dX12_writeNumber_7 (by decide) (by omega) (by omega) (fun hb => ?_) (fun hb => ?_)
          · refine g_iload_n (pc := 18) 0 dX12_writeNumber_18 rfl rfl ?_
            refine g_istore_n (pc := 19) [(3, .int (nI 100)), (2, .int (nI 100)), (0, .ref Y), (1, .int (nI v))] dX12_writeNumber_19 rfl (by decide) rfl ?_
            refine g_iload_n (pc := 20) 0 dX12_writeNumber_20 rfl rfl ?_
            refine n_if_le (pc := 21) 45 dX12_writeNumber_21 (by decide) (by omega) (fun hl => ?_) (fun hl => ?_)
            · exact absurd hl (by omega)
            · refine g_aload_n (pc := 24) 2 dX12_writeNumber_24 rfl rfl ?_
              refine g_bipush (pc := 25) (v := nI 48) dX12_writeNumber_25 (by decide) ?_
              refine g_iload_n (pc := 27) 3 dX12_writeNumber_27 rfl rfl ?_
              refine g_iload_n (pc := 28) 0 dX12_writeNumber_28 rfl rfl ?_
              refine n_idiv (pc := 29) dX12_writeNumber_29 (by omega) (by omega) (by omega) ?_
              refine g_bipush (pc := 30) (v := nI 10) dX12_writeNumber_30 (by decide) ?_
              refine n_irem (pc := 32) dX12_writeNumber_32 (by omega) (by omega) (by omega) ?_
              refine n_iadd (pc := 33) dX12_writeNumber_33 ?_
              refine g_callV (pc := 34) [.int (nI (48 + ((v / 100) % 10)))] dX12_writeNumber_34 cv_X12_289.1 cv_X12_289.2.1 cv_X12_289.2.2.1 cv_X12_289.2.2.2 hY rfl rfl (Nat.le_of_ble_eq_true rfl) (by decide) (by decide) (mp_write _ (s := s) hY h17 (by omega)) ?_
              rintro _ w9 ⟨rfl, s1, es1, ls1, e9⟩
              refine GP.weq _ e9 ?_
              refine g_iload_n (pc := 37) 0 dX12_writeNumber_37 rfl rfl ?_
              refine g_bipush (pc := 38) (v := nI 10) dX12_writeNumber_38 (by decide) ?_
              refine n_idiv (pc := 40) dX12_writeNumber_40 (by omega) (by omega) (by omega) ?_
              refine GP.ti (nI 10) rfl ?_
              refine g_istore_n (pc := 41) [(3, .int (nI 10)), (2, .int (nI 100)), (0, .ref Y), (1, .int (nI v))] dX12_writeNumber_41 rfl (by decide) rfl ?_
              refine g_goto (pc := 42) 20 dX12_writeNumber_42 (by decide) ?_
              refine g_iload_n (pc := 20) 0 dX12_writeNumber_20 rfl rfl ?_
              refine n_if_le (pc := 21) 45 dX12_writeNumber_21 (by decide) (by omega) (fun hl => ?_) (fun hl => ?_)
              · exact absurd hl (by omega)
              · refine g_aload_n (pc := 24) 2 dX12_writeNumber_24 rfl rfl ?_
                refine g_bipush (pc := 25) (v := nI 48) dX12_writeNumber_25 (by decide) ?_
                refine g_iload_n (pc := 27) 3 dX12_writeNumber_27 rfl rfl ?_
                refine g_iload_n (pc := 28) 0 dX12_writeNumber_28 rfl rfl ?_
                refine n_idiv (pc := 29) dX12_writeNumber_29 (by omega) (by omega) (by omega) ?_
                refine g_bipush (pc := 30) (v := nI 10) dX12_writeNumber_30 (by decide) ?_
                refine n_irem (pc := 32) dX12_writeNumber_32 (by omega) (by omega) (by omega) ?_
                refine n_iadd (pc := 33) dX12_writeNumber_33 ?_
                refine g_callV (pc := 34) [.int (nI (48 + ((v / 10) % 10)))] dX12_writeNumber_34 cv_X12_289.1 cv_X12_289.2.1 cv_X12_289.2.2.1 cv_X12_289.2.2.2 (lk_eq (lk_ne (show (Y + 17) ≠ Y by omega) hY)) rfl rfl (Nat.le_of_ble_eq_true rfl) (by decide) (by decide) (mp_write _ (s := s1) (lk_eq (lk_ne (show (Y + 17) ≠ Y by omega) hY)) (lk_ne (show Y ≠ (Y + 17) by omega) (lk_eq h17)) (by omega)) ?_
                rintro _ w9 ⟨rfl, s2, es2, ls2, e9⟩
                refine GP.weq _ e9 ?_
                refine GP.weq ((w.set (Y + 17) (aI 2 400 s2.1)).set Y (.inr (11, .int th :: .int st :: .ref (Y + 1) :: .ref (Y + 2) :: .ref (Y + 3) :: .ref (Y + 4) :: .int nu :: .ref (Y + 5) :: .ref (Y + 6) :: .ref (Y + 7) :: .int dg :: .ref (Y + 8) :: .int dd :: .ref (Y + 9) :: .ref (Y + 10) :: .ref (Y + 11) :: .ref (Y + 12) :: .int ld :: .int be :: .int ib :: .ref (Y + 13) :: .ref (Y + 14) :: .ref (Y + 15) :: .ref (Y + 16) :: .ref (Y + 17) :: .int (nI s2.2) :: .int fa :: .int re :: .int ig :: .ref (Y + 18) :: .ref (Y + 19) :: .ref (Y + 20) :: .ref (Y + 21) :: []))) (by rw [show (((w.set (Y + 17) (aI 2 400 s1.1)).set Y (.inr (11, .int th :: .int st :: .ref (Y + 1) :: .ref (Y + 2) :: .ref (Y + 3) :: .ref (Y + 4) :: .int nu :: .ref (Y + 5) :: .ref (Y + 6) :: .ref (Y + 7) :: .int dg :: .ref (Y + 8) :: .int dd :: .ref (Y + 9) :: .ref (Y + 10) :: .ref (Y + 11) :: .ref (Y + 12) :: .int ld :: .int be :: .int ib :: .ref (Y + 13) :: .ref (Y + 14) :: .ref (Y + 15) :: .ref (Y + 16) :: .ref (Y + 17) :: .int (nI s1.2) :: .int fa :: .int re :: .int ig :: .ref (Y + 18) :: .ref (Y + 19) :: .ref (Y + 20) :: .ref (Y + 21) :: []))).set (Y + 17) (aI 2 400 s2.1)) = ((w.set (Y + 17) (aI 2 400 s2.1)).set Y (.inr (11, .int th :: .int st :: .ref (Y + 1) :: .ref (Y + 2) :: .ref (Y + 3) :: .ref (Y + 4) :: .int nu :: .ref (Y + 5) :: .ref (Y + 6) :: .ref (Y + 7) :: .int dg :: .ref (Y + 8) :: .int dd :: .ref (Y + 9) :: .ref (Y + 10) :: .ref (Y + 11) :: .ref (Y + 12) :: .int ld :: .int be :: .int ib :: .ref (Y + 13) :: .ref (Y + 14) :: .ref (Y + 15) :: .ref (Y + 16) :: .ref (Y + 17) :: .int (nI s1.2) :: .int fa :: .int re :: .int ig :: .ref (Y + 18) :: .ref (Y + 19) :: .ref (Y + 20) :: .ref (Y + 21) :: []))) from by rw [List.set_comm _ _ (show Y ≠ (Y + 17) by omega), List.set_set], show (((w.set (Y + 17) (aI 2 400 s2.1)).set Y (.inr (11, .int th :: .int st :: .ref (Y + 1) :: .ref (Y + 2) :: .ref (Y + 3) :: .ref (Y + 4) :: .int nu :: .ref (Y + 5) :: .ref (Y + 6) :: .ref (Y + 7) :: .int dg :: .ref (Y + 8) :: .int dd :: .ref (Y + 9) :: .ref (Y + 10) :: .ref (Y + 11) :: .ref (Y + 12) :: .int ld :: .int be :: .int ib :: .ref (Y + 13) :: .ref (Y + 14) :: .ref (Y + 15) :: .ref (Y + 16) :: .ref (Y + 17) :: .int (nI s1.2) :: .int fa :: .int re :: .int ig :: .ref (Y + 18) :: .ref (Y + 19) :: .ref (Y + 20) :: .ref (Y + 21) :: []))).set Y (.inr (11, .int th :: .int st :: .ref (Y + 1) :: .ref (Y + 2) :: .ref (Y + 3) :: .ref (Y + 4) :: .int nu :: .ref (Y + 5) :: .ref (Y + 6) :: .ref (Y + 7) :: .int dg :: .ref (Y + 8) :: .int dd :: .ref (Y + 9) :: .ref (Y + 10) :: .ref (Y + 11) :: .ref (Y + 12) :: .int ld :: .int be :: .int ib :: .ref (Y + 13) :: .ref (Y + 14) :: .ref (Y + 15) :: .ref (Y + 16) :: .ref (Y + 17) :: .int (nI s2.2) :: .int fa :: .int re :: .int ig :: .ref (Y + 18) :: .ref (Y + 19) :: .ref (Y + 20) :: .ref (Y + 21) :: []))) = ((w.set (Y + 17) (aI 2 400 s2.1)).set Y (.inr (11, .int th :: .int st :: .ref (Y + 1) :: .ref (Y + 2) :: .ref (Y + 3) :: .ref (Y + 4) :: .int nu :: .ref (Y + 5) :: .ref (Y + 6) :: .ref (Y + 7) :: .int dg :: .ref (Y + 8) :: .int dd :: .ref (Y + 9) :: .ref (Y + 10) :: .ref (Y + 11) :: .ref (Y + 12) :: .int ld :: .int be :: .int ib :: .ref (Y + 13) :: .ref (Y + 14) :: .ref (Y + 15) :: .ref (Y + 16) :: .ref (Y + 17) :: .int (nI s2.2) :: .int fa :: .int re :: .int ig :: .ref (Y + 18) :: .ref (Y + 19) :: .ref (Y + 20) :: .ref (Y + 21) :: []))) from by rw [List.set_set]]) ?_
                refine g_iload_n (pc := 37) 0 dX12_writeNumber_37 rfl rfl ?_
                refine g_bipush (pc := 38) (v := nI 10) dX12_writeNumber_38 (by decide) ?_
                refine n_idiv (pc := 40) dX12_writeNumber_40 (by omega) (by omega) (by omega) ?_
                refine GP.ti (nI 1) rfl ?_
                refine g_istore_n (pc := 41) [(3, .int (nI 1)), (2, .int (nI 100)), (0, .ref Y), (1, .int (nI v))] dX12_writeNumber_41 rfl (by decide) rfl ?_
                refine g_goto (pc := 42) 20 dX12_writeNumber_42 (by decide) ?_
                refine g_iload_n (pc := 20) 0 dX12_writeNumber_20 rfl rfl ?_
                refine n_if_le (pc := 21) 45 dX12_writeNumber_21 (by decide) (by omega) (fun hl => ?_) (fun hl => ?_)
                · exact absurd hl (by omega)
                · refine g_aload_n (pc := 24) 2 dX12_writeNumber_24 rfl rfl ?_
                  refine g_bipush (pc := 25) (v := nI 48) dX12_writeNumber_25 (by decide) ?_
                  refine g_iload_n (pc := 27) 3 dX12_writeNumber_27 rfl rfl ?_
                  refine g_iload_n (pc := 28) 0 dX12_writeNumber_28 rfl rfl ?_
                  refine n_idiv (pc := 29) dX12_writeNumber_29 (by omega) (by omega) (by omega) ?_
                  refine g_bipush (pc := 30) (v := nI 10) dX12_writeNumber_30 (by decide) ?_
                  refine n_irem (pc := 32) dX12_writeNumber_32 (by omega) (by omega) (by omega) ?_
                  refine n_iadd (pc := 33) dX12_writeNumber_33 ?_
                  refine g_callV (pc := 34) [.int (nI (48 + ((v / 1) % 10)))] dX12_writeNumber_34 cv_X12_289.1 cv_X12_289.2.1 cv_X12_289.2.2.1 cv_X12_289.2.2.2 (lk_eq (lk_ne (show (Y + 17) ≠ Y by omega) hY)) rfl rfl (Nat.le_of_ble_eq_true rfl) (by decide) (by decide) (mp_write _ (s := s2) (lk_eq (lk_ne (show (Y + 17) ≠ Y by omega) hY)) (lk_ne (show Y ≠ (Y + 17) by omega) (lk_eq h17)) (by omega)) ?_
                  rintro _ w9 ⟨rfl, s3, es3, ls3, e9⟩
                  refine GP.weq _ e9 ?_
                  refine GP.weq ((w.set (Y + 17) (aI 2 400 s3.1)).set Y (.inr (11, .int th :: .int st :: .ref (Y + 1) :: .ref (Y + 2) :: .ref (Y + 3) :: .ref (Y + 4) :: .int nu :: .ref (Y + 5) :: .ref (Y + 6) :: .ref (Y + 7) :: .int dg :: .ref (Y + 8) :: .int dd :: .ref (Y + 9) :: .ref (Y + 10) :: .ref (Y + 11) :: .ref (Y + 12) :: .int ld :: .int be :: .int ib :: .ref (Y + 13) :: .ref (Y + 14) :: .ref (Y + 15) :: .ref (Y + 16) :: .ref (Y + 17) :: .int (nI s3.2) :: .int fa :: .int re :: .int ig :: .ref (Y + 18) :: .ref (Y + 19) :: .ref (Y + 20) :: .ref (Y + 21) :: []))) (by rw [show (((w.set (Y + 17) (aI 2 400 s2.1)).set Y (.inr (11, .int th :: .int st :: .ref (Y + 1) :: .ref (Y + 2) :: .ref (Y + 3) :: .ref (Y + 4) :: .int nu :: .ref (Y + 5) :: .ref (Y + 6) :: .ref (Y + 7) :: .int dg :: .ref (Y + 8) :: .int dd :: .ref (Y + 9) :: .ref (Y + 10) :: .ref (Y + 11) :: .ref (Y + 12) :: .int ld :: .int be :: .int ib :: .ref (Y + 13) :: .ref (Y + 14) :: .ref (Y + 15) :: .ref (Y + 16) :: .ref (Y + 17) :: .int (nI s2.2) :: .int fa :: .int re :: .int ig :: .ref (Y + 18) :: .ref (Y + 19) :: .ref (Y + 20) :: .ref (Y + 21) :: []))).set (Y + 17) (aI 2 400 s3.1)) = ((w.set (Y + 17) (aI 2 400 s3.1)).set Y (.inr (11, .int th :: .int st :: .ref (Y + 1) :: .ref (Y + 2) :: .ref (Y + 3) :: .ref (Y + 4) :: .int nu :: .ref (Y + 5) :: .ref (Y + 6) :: .ref (Y + 7) :: .int dg :: .ref (Y + 8) :: .int dd :: .ref (Y + 9) :: .ref (Y + 10) :: .ref (Y + 11) :: .ref (Y + 12) :: .int ld :: .int be :: .int ib :: .ref (Y + 13) :: .ref (Y + 14) :: .ref (Y + 15) :: .ref (Y + 16) :: .ref (Y + 17) :: .int (nI s2.2) :: .int fa :: .int re :: .int ig :: .ref (Y + 18) :: .ref (Y + 19) :: .ref (Y + 20) :: .ref (Y + 21) :: []))) from by rw [List.set_comm _ _ (show Y ≠ (Y + 17) by omega), List.set_set], show (((w.set (Y + 17) (aI 2 400 s3.1)).set Y (.inr (11, .int th :: .int st :: .ref (Y + 1) :: .ref (Y + 2) :: .ref (Y + 3) :: .ref (Y + 4) :: .int nu :: .ref (Y + 5) :: .ref (Y + 6) :: .ref (Y + 7) :: .int dg :: .ref (Y + 8) :: .int dd :: .ref (Y + 9) :: .ref (Y + 10) :: .ref (Y + 11) :: .ref (Y + 12) :: .int ld :: .int be :: .int ib :: .ref (Y + 13) :: .ref (Y + 14) :: .ref (Y + 15) :: .ref (Y + 16) :: .ref (Y + 17) :: .int (nI s2.2) :: .int fa :: .int re :: .int ig :: .ref (Y + 18) :: .ref (Y + 19) :: .ref (Y + 20) :: .ref (Y + 21) :: []))).set Y (.inr (11, .int th :: .int st :: .ref (Y + 1) :: .ref (Y + 2) :: .ref (Y + 3) :: .ref (Y + 4) :: .int nu :: .ref (Y + 5) :: .ref (Y + 6) :: .ref (Y + 7) :: .int dg :: .ref (Y + 8) :: .int dd :: .ref (Y + 9) :: .ref (Y + 10) :: .ref (Y + 11) :: .ref (Y + 12) :: .int ld :: .int be :: .int ib :: .ref (Y + 13) :: .ref (Y + 14) :: .ref (Y + 15) :: .ref (Y + 16) :: .ref (Y + 17) :: .int (nI s3.2) :: .int fa :: .int re :: .int ig :: .ref (Y + 18) :: .ref (Y + 19) :: .ref (Y + 20) :: .ref (Y + 21) :: []))) = ((w.set (Y + 17) (aI 2 400 s3.1)).set Y (.inr (11, .int th :: .int st :: .ref (Y + 1) :: .ref (Y + 2) :: .ref (Y + 3) :: .ref (Y + 4) :: .int nu :: .ref (Y + 5) :: .ref (Y + 6) :: .ref (Y + 7) :: .int dg :: .ref (Y + 8) :: .int dd :: .ref (Y + 9) :: .ref (Y + 10) :: .ref (Y + 11) :: .ref (Y + 12) :: .int ld :: .int be :: .int ib :: .ref (Y + 13) :: .ref (Y + 14) :: .ref (Y + 15) :: .ref (Y + 16) :: .ref (Y + 17) :: .int (nI s3.2) :: .int fa :: .int re :: .int ig :: .ref (Y + 18) :: .ref (Y + 19) :: .ref (Y + 20) :: .ref (Y + 21) :: []))) from by rw [List.set_set]]) ?_
                  refine g_iload_n (pc := 37) 0 dX12_writeNumber_37 rfl rfl ?_
                  refine g_bipush (pc := 38) (v := nI 10) dX12_writeNumber_38 (by decide) ?_
                  refine n_idiv (pc := 40) dX12_writeNumber_40 (by omega) (by omega) (by omega) ?_
                  refine GP.ti (nI 0) rfl ?_
                  refine g_istore_n (pc := 41) [(3, .int (nI 0)), (2, .int (nI 100)), (0, .ref Y), (1, .int (nI v))] dX12_writeNumber_41 rfl (by decide) rfl ?_
                  refine g_goto (pc := 42) 20 dX12_writeNumber_42 (by decide) ?_
                  refine g_iload_n (pc := 20) 0 dX12_writeNumber_20 rfl rfl ?_
                  refine n_if_le (pc := 21) 45 dX12_writeNumber_21 (by decide) (by omega) (fun hl => ?_) (fun hl => ?_)
                  · exact g_vret (pc := 45) dX12_writeNumber_45 ⟨rfl, s3, by rw [es3, es2, es1, wN_3 g0 g1], by omega, rfl⟩
                  · exact absurd rfl hl
          · exact absurd (show v / 100 < 10 by omega) hb
  · ·
      refine g_iconst (pc := 0) (v := nI 1) dX12_writeNumber_0 (by decide) ?_
      refine g_istore_n (pc := 1) [(2, .int (nI 1)), (0, .ref Y), (1, .int (nI v))] dX12_writeNumber_1 rfl (by decide) rfl ?_
      refine g_iload_n (pc := 2) 2 dX12_writeNumber_2 rfl rfl ?_
      refine g_iload_n (pc := 3) 0 dX12_writeNumber_3 rfl rfl ?_
      refine n_idiv (pc := 4) dX12_writeNumber_4 (by omega) (by omega) (by omega) ?_
      refine g_bipush (pc := 5) (v := nI 10) dX12_writeNumber_5 (by decide) ?_
      refine n_icmp_lt (pc := 7) 18 dX12_writeNumber_7 (by decide) (by omega) (by omega) (fun hb => ?_) (fun hb => ?_)
      · exact absurd hb (by omega)
      · refine g_iload_n (pc := 10) 0 dX12_writeNumber_10 rfl rfl ?_
        refine g_bipush (pc := 11) (v := nI 10) dX12_writeNumber_11 (by decide) ?_
        refine n_imul (pc := 13) dX12_writeNumber_13 ?_
        refine GP.ti (nI 10) rfl ?_
        refine g_istore_n (pc := 14) [(2, .int (nI 10)), (0, .ref Y), (1, .int (nI v))] dX12_writeNumber_14 rfl (by decide) rfl ?_
        refine g_goto (pc := 15) 2 dX12_writeNumber_15 (by decide) ?_
        refine g_iload_n (pc := 2) 2 dX12_writeNumber_2 rfl rfl ?_
        refine g_iload_n (pc := 3) 0 dX12_writeNumber_3 rfl rfl ?_
        refine n_idiv (pc := 4) dX12_writeNumber_4 (by omega) (by omega) (by omega) ?_
        refine g_bipush (pc := 5) (v := nI 10) dX12_writeNumber_5 (by decide) ?_
        refine n_icmp_lt (pc := 7) 18 dX12_writeNumber_7 (by decide) (by omega) (by omega) (fun hb => ?_) (fun hb => ?_)
        · exact absurd hb (by omega)
        · refine g_iload_n (pc := 10) 0 dX12_writeNumber_10 rfl rfl ?_
          refine g_bipush (pc := 11) (v := nI 10) dX12_writeNumber_11 (by decide) ?_
          refine n_imul (pc := 13) dX12_writeNumber_13 ?_
          refine GP.ti (nI 100) rfl ?_
          refine g_istore_n (pc := 14) [(2, .int (nI 100)), (0, .ref Y), (1, .int (nI v))] dX12_writeNumber_14 rfl (by decide) rfl ?_
          refine g_goto (pc := 15) 2 dX12_writeNumber_15 (by decide) ?_
          refine g_iload_n (pc := 2) 2 dX12_writeNumber_2 rfl rfl ?_
          refine g_iload_n (pc := 3) 0 dX12_writeNumber_3 rfl rfl ?_
          refine n_idiv (pc := 4) dX12_writeNumber_4 (by omega) (by omega) (by omega) ?_
          refine g_bipush (pc := 5) (v := nI 10) dX12_writeNumber_5 (by decide) ?_
          refine n_icmp_lt (pc := 7) 18 dX12_writeNumber_7 (by decide) (by omega) (by omega) (fun hb => ?_) (fun hb => ?_)
          · exact absurd hb (by omega)
          · refine g_iload_n (pc := 10) 0 dX12_writeNumber_10 rfl rfl ?_
            refine g_bipush (pc := 11) (v := nI 10) dX12_writeNumber_11 (by decide) ?_
            refine n_imul (pc := 13) dX12_writeNumber_13 ?_
            refine GP.ti (nI 1000) rfl ?_
            refine g_istore_n (pc := 14) [(2, .int (nI 1000)), (0, .ref Y), (1, .int (nI v))] dX12_writeNumber_14 rfl (by decide) rfl ?_
            refine g_goto (pc := 15) 2 dX12_writeNumber_15 (by decide) ?_
            refine g_iload_n (pc := 2) 2 dX12_writeNumber_2 rfl rfl ?_
            refine g_iload_n (pc := 3) 0 dX12_writeNumber_3 rfl rfl ?_
            refine n_idiv (pc := 4) dX12_writeNumber_4 (by omega) (by omega) (by omega) ?_
            refine g_bipush (pc := 5) (v := nI 10) dX12_writeNumber_5 (by decide) ?_
            refine n_icmp_lt (pc := 7) 18 dX12_writeNumber_7 (by decide) (by omega) (by omega) (fun hb => ?_) (fun hb => ?_)
            · refine g_iload_n (pc := 18) 0 dX12_writeNumber_18 rfl rfl ?_
              refine g_istore_n (pc := 19) [(3, .int (nI 1000)), (2, .int (nI 1000)), (0, .ref Y), (1, .int (nI v))] dX12_writeNumber_19 rfl (by decide) rfl ?_
              refine g_iload_n (pc := 20) 0 dX12_writeNumber_20 rfl rfl ?_
              refine n_if_le (pc := 21) 45 dX12_writeNumber_21 (by decide) (by omega) (fun hl => ?_) (fun hl => ?_)
              · exact absurd hl (by omega)
              · refine g_aload_n (pc := 24) 2 dX12_writeNumber_24 rfl rfl ?_
                refine g_bipush (pc := 25) (v := nI 48) dX12_writeNumber_25 (by decide) ?_
                refine g_iload_n (pc := 27) 3 dX12_writeNumber_27 rfl rfl ?_
                refine g_iload_n (pc := 28) 0 dX12_writeNumber_28 rfl rfl ?_
                refine n_idiv (pc := 29) dX12_writeNumber_29 (by omega) (by omega) (by omega) ?_
                refine g_bipush (pc := 30) (v := nI 10) dX12_writeNumber_30 (by decide) ?_
                refine n_irem (pc := 32) dX12_writeNumber_32 (by omega) (by omega) (by omega) ?_
                refine n_iadd (pc := 33) dX12_writeNumber_33 ?_
                refine g_callV (pc := 34) [.int (nI (48 + ((v / 1000) % 10)))] dX12_writeNumber_34 cv_X12_289.1 cv_X12_289.2.1 cv_X12_289.2.2.1 cv_X12_289.2.2.2 hY rfl rfl (Nat.le_of_ble_eq_true rfl) (by decide) (by decide) (mp_write _ (s := s) hY h17 (by omega)) ?_
                rintro _ w9 ⟨rfl, s1, es1, ls1, e9⟩
                refine GP.weq _ e9 ?_
                refine g_iload_n (pc := 37) 0 dX12_writeNumber_37 rfl rfl ?_
                refine g_bipush (pc := 38) (v := nI 10) dX12_writeNumber_38 (by decide) ?_
                refine n_idiv (pc := 40) dX12_writeNumber_40 (by omega) (by omega) (by omega) ?_
                refine GP.ti (nI 100) rfl ?_
                refine g_istore_n (pc := 41) [(3, .int (nI 100)), (2, .int (nI 1000)), (0, .ref Y), (1, .int (nI v))] dX12_writeNumber_41 rfl (by decide) rfl ?_
                refine g_goto (pc := 42) 20 dX12_writeNumber_42 (by decide) ?_
                refine g_iload_n (pc := 20) 0 dX12_writeNumber_20 rfl rfl ?_
                refine n_if_le (pc := 21) 45 dX12_writeNumber_21 (by decide) (by omega) (fun hl => ?_) (fun hl => ?_)
                · exact absurd hl (by omega)
                · refine g_aload_n (pc := 24) 2 dX12_writeNumber_24 rfl rfl ?_
                  refine g_bipush (pc := 25) (v := nI 48) dX12_writeNumber_25 (by decide) ?_
                  refine g_iload_n (pc := 27) 3 dX12_writeNumber_27 rfl rfl ?_
                  refine g_iload_n (pc := 28) 0 dX12_writeNumber_28 rfl rfl ?_
                  refine n_idiv (pc := 29) dX12_writeNumber_29 (by omega) (by omega) (by omega) ?_
                  refine g_bipush (pc := 30) (v := nI 10) dX12_writeNumber_30 (by decide) ?_
                  refine n_irem (pc := 32) dX12_writeNumber_32 (by omega) (by omega) (by omega) ?_
                  refine n_iadd (pc := 33) dX12_writeNumber_33 ?_
                  refine g_callV (pc := 34) [.int (nI (48 + ((v / 100) % 10)))] dX12_writeNumber_34 cv_X12_289.1 cv_X12_289.2.1 cv_X12_289.2.2.1 cv_X12_289.2.2.2 (lk_eq (lk_ne (show (Y + 17) ≠ Y by omega) hY)) rfl rfl (Nat.le_of_ble_eq_true rfl) (by decide) (by decide) (mp_write _ (s := s1) (lk_eq (lk_ne (show (Y + 17) ≠ Y by omega) hY)) (lk_ne (show Y ≠ (Y + 17) by omega) (lk_eq h17)) (by omega)) ?_
                  rintro _ w9 ⟨rfl, s2, es2, ls2, e9⟩
                  refine GP.weq _ e9 ?_
                  refine GP.weq ((w.set (Y + 17) (aI 2 400 s2.1)).set Y (.inr (11, .int th :: .int st :: .ref (Y + 1) :: .ref (Y + 2) :: .ref (Y + 3) :: .ref (Y + 4) :: .int nu :: .ref (Y + 5) :: .ref (Y + 6) :: .ref (Y + 7) :: .int dg :: .ref (Y + 8) :: .int dd :: .ref (Y + 9) :: .ref (Y + 10) :: .ref (Y + 11) :: .ref (Y + 12) :: .int ld :: .int be :: .int ib :: .ref (Y + 13) :: .ref (Y + 14) :: .ref (Y + 15) :: .ref (Y + 16) :: .ref (Y + 17) :: .int (nI s2.2) :: .int fa :: .int re :: .int ig :: .ref (Y + 18) :: .ref (Y + 19) :: .ref (Y + 20) :: .ref (Y + 21) :: []))) (by rw [show (((w.set (Y + 17) (aI 2 400 s1.1)).set Y (.inr (11, .int th :: .int st :: .ref (Y + 1) :: .ref (Y + 2) :: .ref (Y + 3) :: .ref (Y + 4) :: .int nu :: .ref (Y + 5) :: .ref (Y + 6) :: .ref (Y + 7) :: .int dg :: .ref (Y + 8) :: .int dd :: .ref (Y + 9) :: .ref (Y + 10) :: .ref (Y + 11) :: .ref (Y + 12) :: .int ld :: .int be :: .int ib :: .ref (Y + 13) :: .ref (Y + 14) :: .ref (Y + 15) :: .ref (Y + 16) :: .ref (Y + 17) :: .int (nI s1.2) :: .int fa :: .int re :: .int ig :: .ref (Y + 18) :: .ref (Y + 19) :: .ref (Y + 20) :: .ref (Y + 21) :: []))).set (Y + 17) (aI 2 400 s2.1)) = ((w.set (Y + 17) (aI 2 400 s2.1)).set Y (.inr (11, .int th :: .int st :: .ref (Y + 1) :: .ref (Y + 2) :: .ref (Y + 3) :: .ref (Y + 4) :: .int nu :: .ref (Y + 5) :: .ref (Y + 6) :: .ref (Y + 7) :: .int dg :: .ref (Y + 8) :: .int dd :: .ref (Y + 9) :: .ref (Y + 10) :: .ref (Y + 11) :: .ref (Y + 12) :: .int ld :: .int be :: .int ib :: .ref (Y + 13) :: .ref (Y + 14) :: .ref (Y + 15) :: .ref (Y + 16) :: .ref (Y + 17) :: .int (nI s1.2) :: .int fa :: .int re :: .int ig :: .ref (Y + 18) :: .ref (Y + 19) :: .ref (Y + 20) :: .ref (Y + 21) :: []))) from by rw [List.set_comm _ _ (show Y ≠ (Y + 17) by omega), List.set_set], show (((w.set (Y + 17) (aI 2 400 s2.1)).set Y (.inr (11, .int th :: .int st :: .ref (Y + 1) :: .ref (Y + 2) :: .ref (Y + 3) :: .ref (Y + 4) :: .int nu :: .ref (Y + 5) :: .ref (Y + 6) :: .ref (Y + 7) :: .int dg :: .ref (Y + 8) :: .int dd :: .ref (Y + 9) :: .ref (Y + 10) :: .ref (Y + 11) :: .ref (Y + 12) :: .int ld :: .int be :: .int ib :: .ref (Y + 13) :: .ref (Y + 14) :: .ref (Y + 15) :: .ref (Y + 16) :: .ref (Y + 17) :: .int (nI s1.2) :: .int fa :: .int re :: .int ig :: .ref (Y + 18) :: .ref (Y + 19) :: .ref (Y + 20) :: .ref (Y + 21) :: []))).set Y (.inr (11, .int th :: .int st :: .ref (Y + 1) :: .ref (Y + 2) :: .ref (Y + 3) :: .ref (Y + 4) :: .int nu :: .ref (Y + 5) :: .ref (Y + 6) :: .ref (Y + 7) :: .int dg :: .ref (Y + 8) :: .int dd :: .ref (Y + 9) :: .ref (Y + 10) :: .ref (Y + 11) :: .ref (Y + 12) :: .int ld :: .int be :: .int ib :: .ref (Y + 13) :: .ref (Y + 14) :: .ref (Y + 15) :: .ref (Y + 16) :: .ref (Y + 17) :: .int (nI s2.2) :: .int fa :: .int re :: .int ig :: .ref (Y + 18) :: .ref (Y + 19) :: .ref (Y + 20) :: .ref (Y + 21) :: []))) = ((w.set (Y + 17) (aI 2 400 s2.1)).set Y (.inr (11, .int th :: .int st :: .ref (Y + 1) :: .ref (Y + 2) :: .ref (Y + 3) :: .ref (Y + 4) :: .int nu :: .ref (Y + 5) :: .ref (Y + 6) :: .ref (Y + 7) :: .int dg :: .ref (Y + 8) :: .int dd :: .ref (Y + 9) :: .ref (Y + 10) :: .ref (Y + 11) :: .ref (Y + 12) :: .int ld :: .int be :: .int ib :: .ref (Y + 13) :: .ref (Y + 14) :: .ref (Y + 15) :: .ref (Y + 16) :: .ref (Y + 17) :: .int (nI s2.2) :: .int fa :: .int re :: .int ig :: .ref (Y + 18) :: .ref (Y + 19) :: .ref (Y + 20) :: .ref (Y + 21) :: []))) from by rw [List.set_set]]) ?_
                  refine g_iload_n (pc := 37) 0 dX12_writeNumber_37 rfl rfl ?_
                  refine g_bipush (pc := 38) (v := nI 10) dX12_writeNumber_38 (by decide) ?_
                  refine n_idiv (pc := 40) dX12_writeNumber_40 (by omega) (by omega) (by omega) ?_
                  refine GP.ti (nI 10) rfl ?_
                  refine g_istore_n (pc := 41) [(3, .int (nI 10)), (2, .int (nI 1000)), (0, .ref Y), (1, .int (nI v))] dX12_writeNumber_41 rfl (by decide) rfl ?_
                  refine g_goto (pc := 42) 20 dX12_writeNumber_42 (by decide) ?_
                  refine g_iload_n (pc := 20) 0 dX12_writeNumber_20 rfl rfl ?_
                  refine n_if_le (pc := 21) 45 dX12_writeNumber_21 (by decide) (by omega) (fun hl => ?_) (fun hl => ?_)
                  · exact absurd hl (by omega)
                  · refine g_aload_n (pc := 24) 2 dX12_writeNumber_24 rfl rfl ?_
                    refine g_bipush (pc := 25) (v := nI 48) dX12_writeNumber_25 (by decide) ?_
                    refine g_iload_n (pc := 27) 3 dX12_writeNumber_27 rfl rfl ?_
                    refine g_iload_n (pc := 28) 0 dX12_writeNumber_28 rfl rfl ?_
                    refine n_idiv (pc := 29) dX12_writeNumber_29 (by omega) (by omega) (by omega) ?_
                    refine g_bipush (pc := 30) (v := nI 10) dX12_writeNumber_30 (by decide) ?_
                    refine n_irem (pc := 32) dX12_writeNumber_32 (by omega) (by omega) (by omega) ?_
                    refine n_iadd (pc := 33) dX12_writeNumber_33 ?_
                    refine g_callV (pc := 34) [.int (nI (48 + ((v / 10) % 10)))] dX12_writeNumber_34 cv_X12_289.1 cv_X12_289.2.1 cv_X12_289.2.2.1 cv_X12_289.2.2.2 (lk_eq (lk_ne (show (Y + 17) ≠ Y by omega) hY)) rfl rfl (Nat.le_of_ble_eq_true rfl) (by decide) (by decide) (mp_write _ (s := s2) (lk_eq (lk_ne (show (Y + 17) ≠ Y by omega) hY)) (lk_ne (show Y ≠ (Y + 17) by omega) (lk_eq h17)) (by omega)) ?_
                    rintro _ w9 ⟨rfl, s3, es3, ls3, e9⟩
                    refine GP.weq _ e9 ?_
                    refine GP.weq ((w.set (Y + 17) (aI 2 400 s3.1)).set Y (.inr (11, .int th :: .int st :: .ref (Y + 1) :: .ref (Y + 2) :: .ref (Y + 3) :: .ref (Y + 4) :: .int nu :: .ref (Y + 5) :: .ref (Y + 6) :: .ref (Y + 7) :: .int dg :: .ref (Y + 8) :: .int dd :: .ref (Y + 9) :: .ref (Y + 10) :: .ref (Y + 11) :: .ref (Y + 12) :: .int ld :: .int be :: .int ib :: .ref (Y + 13) :: .ref (Y + 14) :: .ref (Y + 15) :: .ref (Y + 16) :: .ref (Y + 17) :: .int (nI s3.2) :: .int fa :: .int re :: .int ig :: .ref (Y + 18) :: .ref (Y + 19) :: .ref (Y + 20) :: .ref (Y + 21) :: []))) (by rw [show (((w.set (Y + 17) (aI 2 400 s2.1)).set Y (.inr (11, .int th :: .int st :: .ref (Y + 1) :: .ref (Y + 2) :: .ref (Y + 3) :: .ref (Y + 4) :: .int nu :: .ref (Y + 5) :: .ref (Y + 6) :: .ref (Y + 7) :: .int dg :: .ref (Y + 8) :: .int dd :: .ref (Y + 9) :: .ref (Y + 10) :: .ref (Y + 11) :: .ref (Y + 12) :: .int ld :: .int be :: .int ib :: .ref (Y + 13) :: .ref (Y + 14) :: .ref (Y + 15) :: .ref (Y + 16) :: .ref (Y + 17) :: .int (nI s2.2) :: .int fa :: .int re :: .int ig :: .ref (Y + 18) :: .ref (Y + 19) :: .ref (Y + 20) :: .ref (Y + 21) :: []))).set (Y + 17) (aI 2 400 s3.1)) = ((w.set (Y + 17) (aI 2 400 s3.1)).set Y (.inr (11, .int th :: .int st :: .ref (Y + 1) :: .ref (Y + 2) :: .ref (Y + 3) :: .ref (Y + 4) :: .int nu :: .ref (Y + 5) :: .ref (Y + 6) :: .ref (Y + 7) :: .int dg :: .ref (Y + 8) :: .int dd :: .ref (Y + 9) :: .ref (Y + 10) :: .ref (Y + 11) :: .ref (Y + 12) :: .int ld :: .int be :: .int ib :: .ref (Y + 13) :: .ref (Y + 14) :: .ref (Y + 15) :: .ref (Y + 16) :: .ref (Y + 17) :: .int (nI s2.2) :: .int fa :: .int re :: .int ig :: .ref (Y + 18) :: .ref (Y + 19) :: .ref (Y + 20) :: .ref (Y + 21) :: []))) from by rw [List.set_comm _ _ (show Y ≠ (Y + 17) by omega), List.set_set], show (((w.set (Y + 17) (aI 2 400 s3.1)).set Y (.inr (11, .int th :: .int st :: .ref (Y + 1) :: .ref (Y + 2) :: .ref (Y + 3) :: .ref (Y + 4) :: .int nu :: .ref (Y + 5) :: .ref (Y + 6) :: .ref (Y + 7) :: .int dg :: .ref (Y + 8) :: .int dd :: .ref (Y + 9) :: .ref (Y + 10) :: .ref (Y + 11) :: .ref (Y + 12) :: .int ld :: .int be :: .int ib :: .ref (Y + 13) :: .ref (Y + 14) :: .ref (Y + 15) :: .ref (Y + 16) :: .ref (Y + 17) :: .int (nI s2.2) :: .int fa :: .int re :: .int ig :: .ref (Y + 18) :: .ref (Y + 19) :: .ref (Y + 20) :: .ref (Y + 21) :: []))).set Y (.inr (11, .int th :: .int st :: .ref (Y + 1) :: .ref (Y + 2) :: .ref (Y + 3) :: .ref (Y + 4) :: .int nu :: .ref (Y + 5) :: .ref (Y + 6) :: .ref (Y + 7) :: .int dg :: .ref (Y + 8) :: .int dd :: .ref (Y + 9) :: .ref (Y + 10) :: .ref (Y + 11) :: .ref (Y + 12) :: .int ld :: .int be :: .int ib :: .ref (Y + 13) :: .ref (Y + 14) :: .ref (Y + 15) :: .ref (Y + 16) :: .ref (Y + 17) :: .int (nI s3.2) :: .int fa :: .int re :: .int ig :: .ref (Y + 18) :: .ref (Y + 19) :: .ref (Y + 20) :: .ref (Y + 21) :: []))) = ((w.set (Y + 17) (aI 2 400 s3.1)).set Y (.inr (11, .int th :: .int st :: .ref (Y + 1) :: .ref (Y + 2) :: .ref (Y + 3) :: .ref (Y + 4) :: .int nu :: .ref (Y + 5) :: .ref (Y + 6) :: .ref (Y + 7) :: .int dg :: .ref (Y + 8) :: .int dd :: .ref (Y + 9) :: .ref (Y + 10) :: .ref (Y + 11) :: .ref (Y + 12) :: .int ld :: .int be :: .int ib :: .ref (Y + 13) :: .ref (Y + 14) :: .ref (Y + 15) :: .ref (Y + 16) :: .ref (Y + 17) :: .int (nI s3.2) :: .int fa :: .int re :: .int ig :: .ref (Y + 18) :: .ref (Y + 19) :: .ref (Y + 20) :: .ref (Y + 21) :: []))) from by rw [List.set_set]]) ?_
                    refine g_iload_n (pc := 37) 0 dX12_writeNumber_37 rfl rfl ?_
                    refine g_bipush (pc := 38) (v := nI 10) dX12_writeNumber_38 (by decide) ?_
                    refine n_idiv (pc := 40) dX12_writeNumber_40 (by omega) (by omega) (by omega) ?_
                    refine GP.ti (nI 1) rfl ?_
                    refine g_istore_n (pc := 41) [(3, .int (nI 1)), (2, .int (nI 1000)), (0, .ref Y), (1, .int (nI v))] dX12_writeNumber_41 rfl (by decide) rfl ?_
                    refine g_goto (pc := 42) 20 dX12_writeNumber_42 (by decide) ?_
                    refine g_iload_n (pc := 20) 0 dX12_writeNumber_20 rfl rfl ?_
                    refine n_if_le (pc := 21) 45 dX12_writeNumber_21 (by decide) (by omega) (fun hl => ?_) (fun hl => ?_)
                    · exact absurd hl (by omega)
                    · refine g_aload_n (pc := 24) 2 dX12_writeNumber_24 rfl rfl ?_
                      refine g_bipush (pc := 25) (v := nI 48) dX12_writeNumber_25 (by decide) ?_
                      refine g_iload_n (pc := 27) 3 dX12_writeNumber_27 rfl rfl ?_
                      refine g_iload_n (pc := 28) 0 dX12_writeNumber_28 rfl rfl ?_
                      refine n_idiv (pc := 29) dX12_writeNumber_29 (by omega) (by omega) (by omega) ?_
                      refine g_bipush (pc := 30) (v := nI 10) dX12_writeNumber_30 (by decide) ?_
                      refine n_irem (pc := 32) dX12_writeNumber_32 (by omega) (by omega) (by omega) ?_
                      refine n_iadd (pc := 33) dX12_writeNumber_33 ?_
                      refine g_callV (pc := 34) [.int (nI (48 + ((v / 1) % 10)))] dX12_writeNumber_34 cv_X12_289.1 cv_X12_289.2.1 cv_X12_289.2.2.1 cv_X12_289.2.2.2 (lk_eq (lk_ne (show (Y + 17) ≠ Y by omega) hY)) rfl rfl (Nat.le_of_ble_eq_true rfl) (by decide) (by decide) (mp_write _ (s := s3) (lk_eq (lk_ne (show (Y + 17) ≠ Y by omega) hY)) (lk_ne (show Y ≠ (Y + 17) by omega) (lk_eq h17)) (by omega)) ?_
                      rintro _ w9 ⟨rfl, s4, es4, ls4, e9⟩
                      refine GP.weq _ e9 ?_
                      refine GP.weq ((w.set (Y + 17) (aI 2 400 s4.1)).set Y (.inr (11, .int th :: .int st :: .ref (Y + 1) :: .ref (Y + 2) :: .ref (Y + 3) :: .ref (Y + 4) :: .int nu :: .ref (Y + 5) :: .ref (Y + 6) :: .ref (Y + 7) :: .int dg :: .ref (Y + 8) :: .int dd :: .ref (Y + 9) :: .ref (Y + 10) :: .ref (Y + 11) :: .ref (Y + 12) :: .int ld :: .int be :: .int ib :: .ref (Y + 13) :: .ref (Y + 14) :: .ref (Y + 15) :: .ref (Y + 16) :: .ref (Y + 17) :: .int (nI s4.2) :: .int fa :: .int re :: .int ig :: .ref (Y + 18) :: .ref (Y + 19) :: .ref (Y + 20) :: .ref (Y + 21) :: []))) (by rw [show (((w.set (Y + 17) (aI 2 400 s3.1)).set Y (.inr (11, .int th :: .int st :: .ref (Y + 1) :: .ref (Y + 2) :: .ref (Y + 3) :: .ref (Y + 4) :: .int nu :: .ref (Y + 5) :: .ref (Y + 6) :: .ref (Y + 7) :: .int dg :: .ref (Y + 8) :: .int dd :: .ref (Y + 9) :: .ref (Y + 10) :: .ref (Y + 11) :: .ref (Y + 12) :: .int ld :: .int be :: .int ib :: .ref (Y + 13) :: .ref (Y + 14) :: .ref (Y + 15) :: .ref (Y + 16) :: .ref (Y + 17) :: .int (nI s3.2) :: .int fa :: .int re :: .int ig :: .ref (Y + 18) :: .ref (Y + 19) :: .ref (Y + 20) :: .ref (Y + 21) :: []))).set (Y + 17) (aI 2 400 s4.1)) = ((w.set (Y + 17) (aI 2 400 s4.1)).set Y (.inr (11, .int th :: .int st :: .ref (Y + 1) :: .ref (Y + 2) :: .ref (Y + 3) :: .ref (Y + 4) :: .int nu :: .ref (Y + 5) :: .ref (Y + 6) :: .ref (Y + 7) :: .int dg :: .ref (Y + 8) :: .int dd :: .ref (Y + 9) :: .ref (Y + 10) :: .ref (Y + 11) :: .ref (Y + 12) :: .int ld :: .int be :: .int ib :: .ref (Y + 13) :: .ref (Y + 14) :: .ref (Y + 15) :: .ref (Y + 16) :: .ref (Y + 17) :: .int (nI s3.2) :: .int fa :: .int re :: .int ig :: .ref (Y + 18) :: .ref (Y + 19) :: .ref (Y + 20) :: .ref (Y + 21) :: []))) from by rw [List.set_comm _ _ (show Y ≠ (Y + 17) by omega), List.set_set], show (((w.set (Y + 17) (aI 2 400 s4.1)).set Y (.inr (11, .int th :: .int st :: .ref (Y + 1) :: .ref (Y + 2) :: .ref (Y + 3) :: .ref (Y + 4) :: .int nu :: .ref (Y + 5) :: .ref (Y + 6) :: .ref (Y + 7) :: .int dg :: .ref (Y + 8) :: .int dd :: .ref (Y + 9) :: .ref (Y + 10) :: .ref (Y + 11) :: .ref (Y + 12) :: .int ld :: .int be :: .int ib :: .ref (Y + 13) :: .ref (Y + 14) :: .ref (Y + 15) :: .ref (Y + 16) :: .ref (Y + 17) :: .int (nI s3.2) :: .int fa :: .int re :: .int ig :: .ref (Y + 18) :: .ref (Y + 19) :: .ref (Y + 20) :: .ref (Y + 21) :: []))).set Y (.inr (11, .int th :: .int st :: .ref (Y + 1) :: .ref (Y + 2) :: .ref (Y + 3) :: .ref (Y + 4) :: .int nu :: .ref (Y + 5) :: .ref (Y + 6) :: .ref (Y + 7) :: .int dg :: .ref (Y + 8) :: .int dd :: .ref (Y + 9) :: .ref (Y + 10) :: .ref (Y + 11) :: .ref (Y + 12) :: .int ld :: .int be :: .int ib :: .ref (Y + 13) :: .ref (Y + 14) :: .ref (Y + 15) :: .ref (Y + 16) :: .ref (Y + 17) :: .int (nI s4.2) :: .int fa :: .int re :: .int ig :: .ref (Y + 18) :: .ref (Y + 19) :: .ref (Y + 20) :: .ref (Y + 21) :: []))) = ((w.set (Y + 17) (aI 2 400 s4.1)).set Y (.inr (11, .int th :: .int st :: .ref (Y + 1) :: .ref (Y + 2) :: .ref (Y + 3) :: .ref (Y + 4) :: .int nu :: .ref (Y + 5) :: .ref (Y + 6) :: .ref (Y + 7) :: .int dg :: .ref (Y + 8) :: .int dd :: .ref (Y + 9) :: .ref (Y + 10) :: .ref (Y + 11) :: .ref (Y + 12) :: .int ld :: .int be :: .int ib :: .ref (Y + 13) :: .ref (Y + 14) :: .ref (Y + 15) :: .ref (Y + 16) :: .ref (Y + 17) :: .int (nI s4.2) :: .int fa :: .int re :: .int ig :: .ref (Y + 18) :: .ref (Y + 19) :: .ref (Y + 20) :: .ref (Y + 21) :: []))) from by rw [List.set_set]]) ?_
                      refine g_iload_n (pc := 37) 0 dX12_writeNumber_37 rfl rfl ?_
                      refine g_bipush (pc := 38) (v := nI 10) dX12_writeNumber_38 (by decide) ?_
                      refine n_idiv (pc := 40) dX12_writeNumber_40 (by omega) (by omega) (by omega) ?_
                      refine GP.ti (nI 0) rfl ?_
                      refine g_istore_n (pc := 41) [(3, .int (nI 0)), (2, .int (nI 1000)), (0, .ref Y), (1, .int (nI v))] dX12_writeNumber_41 rfl (by decide) rfl ?_
                      refine g_goto (pc := 42) 20 dX12_writeNumber_42 (by decide) ?_
                      refine g_iload_n (pc := 20) 0 dX12_writeNumber_20 rfl rfl ?_
                      refine n_if_le (pc := 21) 45 dX12_writeNumber_21 (by decide) (by omega) (fun hl => ?_) (fun hl => ?_)
                      · exact g_vret (pc := 45) dX12_writeNumber_45 ⟨rfl, s4, by rw [es4, es3, es2, es1, wN_4 g0], by omega, rfl⟩
                      · exact absurd rfl hl
            · exact absurd (show v / 1000 < 10 by omega) hb
abbrev BX12_listing (w0 : Wd) (Post : Option Value → Wd → Prop) (w : Wd) (pc : Nat) (ls : List (Nat × Value)) (st : List Value) : Prop := GP "listing" RX12 cX12_listing 4 (some .int) 2 78 none w0 Post w pc ls st
abbrev EX12_listing (As : List Value) (w : Wd) (Post : Option Value → Wd → Prop) : Prop := EP yX12_listing cX12_listing 4 (some .int) 2 As w Post
theorem lis_loop {w0 w : Wd} {Y i : Nat} {th st nu dg dd ld be ib ta fa re ig : Int32} {g2 f17 : Nat → Int32} {V : SV} (hY : w[Y]? = some (oM Y th st nu dg dd ld be ib ta fa re ig)) (a2 : w[Y + 2]? = some (aI 0 626 g2)) (a17 : w[Y + 17]? = some (aI 2 400 f17)) (hV : rowR g2 V) (hi : i < 8) {Q : Option Value → Wd → Prop} (K : ∀ s, s = wAll (V.1 i).2 (f17, 0) (V.1 i).1 ((V.1 i).1 + 1) → s.2 ≤ 200 → BX12_listing w0 Q ((w.set Y (.inr (11, .int th :: .int st :: .ref (Y + 1) :: .ref (Y + 2) :: .ref (Y + 3) :: .ref (Y + 4) :: .int nu :: .ref (Y + 5) :: .ref (Y + 6) :: .ref (Y + 7) :: .int dg :: .ref (Y + 8) :: .int dd :: .ref (Y + 9) :: .ref (Y + 10) :: .ref (Y + 11) :: .ref (Y + 12) :: .int ld :: .int be :: .int ib :: .ref (Y + 13) :: .ref (Y + 14) :: .ref (Y + 15) :: .ref (Y + 16) :: .ref (Y + 17) :: .int (nI s.2) :: .int fa :: .int re :: .int ig :: .ref (Y + 18) :: .ref (Y + 19) :: .ref (Y + 20) :: .ref (Y + 21) :: []))).set (Y + 17) (aI 2 400 s.1)) 127 [(0, .ref Y)] []) : ∀ (c : Nat) (s : (Nat → Int32) × Nat), c ≤ (V.1 i).1 + 1 → s = wAll (V.1 i).2 (f17, 0) (V.1 i).1 ((V.1 i).1 + 1 - c) → BX12_listing w0 Q ((w.set Y (.inr (11, .int th :: .int st :: .ref (Y + 1) :: .ref (Y + 2) :: .ref (Y + 3) :: .ref (Y + 4) :: .int nu :: .ref (Y + 5) :: .ref (Y + 6) :: .ref (Y + 7) :: .int dg :: .ref (Y + 8) :: .int dd :: .ref (Y + 9) :: .ref (Y + 10) :: .ref (Y + 11) :: .ref (Y + 12) :: .int ld :: .int be :: .int ib :: .ref (Y + 13) :: .ref (Y + 14) :: .ref (Y + 15) :: .ref (Y + 16) :: .ref (Y + 17) :: .int (nI s.2) :: .int fa :: .int re :: .int ig :: .ref (Y + 18) :: .ref (Y + 19) :: .ref (Y + 20) :: .ref (Y + 21) :: []))).set (Y + 17) (aI 2 400 s.1)) 30 [(2, .int (nI c - 1)), (1, .int (nI i)), (0, .ref Y)] [] := by
  have hd12 := ok_12 hV hi
  have hbd := ok_b (row_ok hV hi)
  intro c
  induction c with
  | zero =>
    intro s hc hs
    have hl9 := wAll_le (F := (V.1 i).2) (s := (f17, 0)) (n := (V.1 i).1) ((V.1 i).1 + 1)
    rw [nI_dec0]
    refine g_iload_n (pc := 30) 0 dX12_listing_30 rfl rfl ?_
    refine g_if_lt (pc := 31) 127 dX12_listing_31 (by decide) (fun hb9 => ?_) (fun hb9 => ?_)
    · exact GP.lsub _ (by simp) (K s hs (by rw [hs]; show (wAll _ _ _ _).2 ≤ 200; have h0 : ((f17, 0) : (Nat → Int32) × Nat).2 = 0 := rfl; rw [h0] at hl9; rw [Nat.sub_zero]; omega))
    · exact absurd (by decide) hb9
  | succ c ih =>
    intro s hc hs
    rw [nI_pred]
    have hl9 := wAll_le (F := (V.1 i).2) (s := (f17, 0)) (n := (V.1 i).1) ((V.1 i).1 + 1 - (c + 1))
    rw [← hs] at hl9
    have h0 : ((f17, 0) : (Nat → Int32) × Nat).2 = 0 := rfl
    rw [h0] at hl9
    have hv9 := (hV.1 i hi).2.2 c (by omega)
    have hbc := hbd c
    obtain ⟨v, hve⟩ : ∃ v, v = g2 (14 * i + 1 + c) := ⟨_, rfl⟩
    rw [← hve] at hv9
    have z0 : (0 : Int32).toInt = 0 := by decide
    have hstp : wAll (V.1 i).2 (f17, 0) (V.1 i).1 ((V.1 i).1 + 1 - c) = if (V.1 i).2 c = 0 then s else wT s ((V.1 i).2 c) c := by
      rw [show (V.1 i).1 + 1 - c = ((V.1 i).1 + 1 - (c + 1)) + 1 by omega]
      show (if (V.1 i).2 ((V.1 i).1 - ((V.1 i).1 + 1 - (c + 1))) = 0 then wAll (V.1 i).2 (f17, 0) (V.1 i).1 ((V.1 i).1 + 1 - (c + 1)) else wT (wAll (V.1 i).2 (f17, 0) (V.1 i).1 ((V.1 i).1 + 1 - (c + 1))) ((V.1 i).2 ((V.1 i).1 - ((V.1 i).1 + 1 - (c + 1)))) ((V.1 i).1 - ((V.1 i).1 + 1 - (c + 1)))) = _
      rw [show (V.1 i).1 - ((V.1 i).1 + 1 - (c + 1)) = c by omega, ← hs]
    have K4 : ∀ s4 : (Nat → Int32) × Nat, s4 = (if (V.1 i).2 c = 0 then s else wT s ((V.1 i).2 c) c) → BX12_listing w0 Q ((w.set Y (.inr (11, .int th :: .int st :: .ref (Y + 1) :: .ref (Y + 2) :: .ref (Y + 3) :: .ref (Y + 4) :: .int nu :: .ref (Y + 5) :: .ref (Y + 6) :: .ref (Y + 7) :: .int dg :: .ref (Y + 8) :: .int dd :: .ref (Y + 9) :: .ref (Y + 10) :: .ref (Y + 11) :: .ref (Y + 12) :: .int ld :: .int be :: .int ib :: .ref (Y + 13) :: .ref (Y + 14) :: .ref (Y + 15) :: .ref (Y + 16) :: .ref (Y + 17) :: .int (nI s4.2) :: .int fa :: .int re :: .int ig :: .ref (Y + 18) :: .ref (Y + 19) :: .ref (Y + 20) :: .ref (Y + 21) :: []))).set (Y + 17) (aI 2 400 s4.1)) 121 [(3, .int v), (2, .int (nI c)), (1, .int (nI i)), (0, .ref Y)] [] := by
      intro s4 hs4
      refine g_iinc (pc := 121) [(2, .int (nI c - 1)), (3, .int v), (1, .int (nI i)), (0, .ref Y)] 1 dX12_listing_121 rfl (dec1 _) (by decide) rfl ?_
      refine g_goto (pc := 124) 30 dX12_listing_124 (by decide) ?_
      exact GP.lsub _ (by simp) (ih s4 (by omega) (hs4.trans hstp.symm))
    by_cases hv0 : (V.1 i).2 c = 0
    · ·
        refine g_iload_n (pc := 30) 0 dX12_listing_30 rfl rfl ?_
        refine n_if_lt (pc := 31) 127 dX12_listing_31 (by decide) (by omega) ?_
        refine g_aload_n (pc := 34) 2 dX12_listing_34 rfl rfl ?_
        refine g_iload_n (pc := 35) 1 dX12_listing_35 rfl rfl ?_
        refine g_iload_n (pc := 36) 0 dX12_listing_36 rfl rfl ?_
        refine g_callV (pc := 37) [.int (nI i), .int (nI c)] dX12_listing_37 cv_X12_122.1 cv_X12_122.2.1 cv_X12_122.2.2.1 cv_X12_122.2.2.2 (lk_ne (show (Y + 17) ≠ Y by omega) (lk_eq hY)) rfl rfl (Nat.le_of_ble_eq_true rfl) (by decide) (by decide) (mp_at _ (lk_ne (show (Y + 17) ≠ Y by omega) (lk_eq hY)) (lk_ne (show (Y + 17) ≠ (Y + 2) by omega) (lk_ne (show Y ≠ (Y + 2) by omega) a2)) hi (show c < 13 by omega)) ?_
        rintro _ w9 ⟨rfl, e9⟩
        refine GP.weq _ e9 ?_
        refine GP.ti v hve.symm ?_
        refine g_istore_n (pc := 40) [(3, .int v), (2, .int (nI c)), (1, .int (nI i)), (0, .ref Y)] dX12_listing_40 rfl (by decide) rfl ?_
        refine g_iload_n (pc := 41) 0 dX12_listing_41 rfl rfl ?_
        refine g_if_eq (pc := 42) 121 dX12_listing_42 (by decide) (fun hz => ?_) (fun hz => ?_)
        · exact GP.lsub _ (by simp) (K4 s (by rw [if_pos hv0]))
        · exact absurd (I0.mp (by rw [hv9]; exact hv0)) hz
    · ·
        rw [if_neg hv0] at K4
        have K3 : ∀ s3 : (Nat → Int32) × Nat, s3 = wT2 (wT1 (wT0 s ((V.1 i).2 c)) ((V.1 i).2 c).natAbs c) c → BX12_listing w0 Q ((w.set Y (.inr (11, .int th :: .int st :: .ref (Y + 1) :: .ref (Y + 2) :: .ref (Y + 3) :: .ref (Y + 4) :: .int nu :: .ref (Y + 5) :: .ref (Y + 6) :: .ref (Y + 7) :: .int dg :: .ref (Y + 8) :: .int dd :: .ref (Y + 9) :: .ref (Y + 10) :: .ref (Y + 11) :: .ref (Y + 12) :: .int ld :: .int be :: .int ib :: .ref (Y + 13) :: .ref (Y + 14) :: .ref (Y + 15) :: .ref (Y + 16) :: .ref (Y + 17) :: .int (nI s3.2) :: .int fa :: .int re :: .int ig :: .ref (Y + 18) :: .ref (Y + 19) :: .ref (Y + 20) :: .ref (Y + 21) :: []))).set (Y + 17) (aI 2 400 s3.1)) 105 [(3, .int v), (2, .int (nI c)), (1, .int (nI i)), (0, .ref Y)] [] := by
          intro s3 hs3
          have q0 := wT0_le (s := s) (v := ((V.1 i).2 c))
          have q1 := wT1_le (s := wT0 s ((V.1 i).2 c)) (a := ((V.1 i).2 c).natAbs) (p := c)
          have q2 := wT2_le (s := wT1 (wT0 s ((V.1 i).2 c)) ((V.1 i).2 c).natAbs c) (p := c)
          rw [← hs3] at q2
          refine g_iload_n (pc := 105) 1 dX12_listing_105 rfl rfl ?_
          refine g_iconst (pc := 106) (v := nI 1) dX12_listing_106 (by decide) ?_
          refine n_icmp_le (pc := 107) 121 dX12_listing_107 (by decide) (by omega) (by omega) (fun hp => ?_) (fun hp => ?_)
          · exact GP.lsub _ (by simp) (K4 s3 (by show _ = wT3 (wT2 (wT1 (wT0 s ((V.1 i).2 c)) ((V.1 i).2 c).natAbs c) c) c; unfold wT3; rw [if_neg (by omega)]; exact hs3))
          · refine g_aload_n (pc := 110) 3 dX12_listing_110 rfl rfl ?_
            refine g_bipush (pc := 111) (v := nI 94) dX12_listing_111 (by decide) ?_
            refine g_callV (pc := 113) [.int (nI 94)] dX12_listing_113 cv_X12_289.1 cv_X12_289.2.1 cv_X12_289.2.2.1 cv_X12_289.2.2.2 (lk_ne (show (Y + 17) ≠ Y by omega) (lk_eq hY)) rfl rfl (Nat.le_of_ble_eq_true rfl) (by decide) (by decide) (mp_write _ (s := s3) (lk_ne (show (Y + 17) ≠ Y by omega) (lk_eq hY)) (lk_eq (lk_ne (show Y ≠ (Y + 17) by omega) a17)) (by omega)) ?_
            rintro _ w9 ⟨rfl, s5, es5, ls5, e9⟩
            refine GP.weq _ e9 ?_
            refine GP.weq ((w.set Y (.inr (11, .int th :: .int st :: .ref (Y + 1) :: .ref (Y + 2) :: .ref (Y + 3) :: .ref (Y + 4) :: .int nu :: .ref (Y + 5) :: .ref (Y + 6) :: .ref (Y + 7) :: .int dg :: .ref (Y + 8) :: .int dd :: .ref (Y + 9) :: .ref (Y + 10) :: .ref (Y + 11) :: .ref (Y + 12) :: .int ld :: .int be :: .int ib :: .ref (Y + 13) :: .ref (Y + 14) :: .ref (Y + 15) :: .ref (Y + 16) :: .ref (Y + 17) :: .int (nI s5.2) :: .int fa :: .int re :: .int ig :: .ref (Y + 18) :: .ref (Y + 19) :: .ref (Y + 20) :: .ref (Y + 21) :: []))).set (Y + 17) (aI 2 400 s5.1)) (by rw [show (((w.set Y (.inr (11, .int th :: .int st :: .ref (Y + 1) :: .ref (Y + 2) :: .ref (Y + 3) :: .ref (Y + 4) :: .int nu :: .ref (Y + 5) :: .ref (Y + 6) :: .ref (Y + 7) :: .int dg :: .ref (Y + 8) :: .int dd :: .ref (Y + 9) :: .ref (Y + 10) :: .ref (Y + 11) :: .ref (Y + 12) :: .int ld :: .int be :: .int ib :: .ref (Y + 13) :: .ref (Y + 14) :: .ref (Y + 15) :: .ref (Y + 16) :: .ref (Y + 17) :: .int (nI s3.2) :: .int fa :: .int re :: .int ig :: .ref (Y + 18) :: .ref (Y + 19) :: .ref (Y + 20) :: .ref (Y + 21) :: []))).set (Y + 17) (aI 2 400 s3.1)).set (Y + 17) (aI 2 400 s5.1)) = ((w.set Y (.inr (11, .int th :: .int st :: .ref (Y + 1) :: .ref (Y + 2) :: .ref (Y + 3) :: .ref (Y + 4) :: .int nu :: .ref (Y + 5) :: .ref (Y + 6) :: .ref (Y + 7) :: .int dg :: .ref (Y + 8) :: .int dd :: .ref (Y + 9) :: .ref (Y + 10) :: .ref (Y + 11) :: .ref (Y + 12) :: .int ld :: .int be :: .int ib :: .ref (Y + 13) :: .ref (Y + 14) :: .ref (Y + 15) :: .ref (Y + 16) :: .ref (Y + 17) :: .int (nI s3.2) :: .int fa :: .int re :: .int ig :: .ref (Y + 18) :: .ref (Y + 19) :: .ref (Y + 20) :: .ref (Y + 21) :: []))).set (Y + 17) (aI 2 400 s5.1)) from by rw [List.set_set], show (((w.set Y (.inr (11, .int th :: .int st :: .ref (Y + 1) :: .ref (Y + 2) :: .ref (Y + 3) :: .ref (Y + 4) :: .int nu :: .ref (Y + 5) :: .ref (Y + 6) :: .ref (Y + 7) :: .int dg :: .ref (Y + 8) :: .int dd :: .ref (Y + 9) :: .ref (Y + 10) :: .ref (Y + 11) :: .ref (Y + 12) :: .int ld :: .int be :: .int ib :: .ref (Y + 13) :: .ref (Y + 14) :: .ref (Y + 15) :: .ref (Y + 16) :: .ref (Y + 17) :: .int (nI s3.2) :: .int fa :: .int re :: .int ig :: .ref (Y + 18) :: .ref (Y + 19) :: .ref (Y + 20) :: .ref (Y + 21) :: []))).set (Y + 17) (aI 2 400 s5.1)).set Y (.inr (11, .int th :: .int st :: .ref (Y + 1) :: .ref (Y + 2) :: .ref (Y + 3) :: .ref (Y + 4) :: .int nu :: .ref (Y + 5) :: .ref (Y + 6) :: .ref (Y + 7) :: .int dg :: .ref (Y + 8) :: .int dd :: .ref (Y + 9) :: .ref (Y + 10) :: .ref (Y + 11) :: .ref (Y + 12) :: .int ld :: .int be :: .int ib :: .ref (Y + 13) :: .ref (Y + 14) :: .ref (Y + 15) :: .ref (Y + 16) :: .ref (Y + 17) :: .int (nI s5.2) :: .int fa :: .int re :: .int ig :: .ref (Y + 18) :: .ref (Y + 19) :: .ref (Y + 20) :: .ref (Y + 21) :: []))) = ((w.set Y (.inr (11, .int th :: .int st :: .ref (Y + 1) :: .ref (Y + 2) :: .ref (Y + 3) :: .ref (Y + 4) :: .int nu :: .ref (Y + 5) :: .ref (Y + 6) :: .ref (Y + 7) :: .int dg :: .ref (Y + 8) :: .int dd :: .ref (Y + 9) :: .ref (Y + 10) :: .ref (Y + 11) :: .ref (Y + 12) :: .int ld :: .int be :: .int ib :: .ref (Y + 13) :: .ref (Y + 14) :: .ref (Y + 15) :: .ref (Y + 16) :: .ref (Y + 17) :: .int (nI s5.2) :: .int fa :: .int re :: .int ig :: .ref (Y + 18) :: .ref (Y + 19) :: .ref (Y + 20) :: .ref (Y + 21) :: []))).set (Y + 17) (aI 2 400 s5.1)) from by rw [List.set_comm _ _ (show (Y + 17) ≠ Y by omega), List.set_set]]) ?_
            refine g_aload_n (pc := 116) 3 dX12_listing_116 rfl rfl ?_
            refine g_iload_n (pc := 117) 1 dX12_listing_117 rfl rfl ?_
            refine g_callV (pc := 118) [.int (nI c)] dX12_listing_118 cv_X12_292.1 cv_X12_292.2.1 cv_X12_292.2.2.1 cv_X12_292.2.2.2 (lk_ne (show (Y + 17) ≠ Y by omega) (lk_eq hY)) rfl rfl (Nat.le_of_ble_eq_true rfl) (by decide) (by decide) (mp_writeNumber _ (s := s5) (lk_ne (show (Y + 17) ≠ Y by omega) (lk_eq hY)) (lk_eq (lk_ne (show Y ≠ (Y + 17) by omega) a17)) (by omega) (show c ≤ 9999 by omega)) ?_
            rintro _ w9 ⟨rfl, s6, es6, ls6, e9⟩
            refine GP.weq _ e9 ?_
            refine GP.weq ((w.set Y (.inr (11, .int th :: .int st :: .ref (Y + 1) :: .ref (Y + 2) :: .ref (Y + 3) :: .ref (Y + 4) :: .int nu :: .ref (Y + 5) :: .ref (Y + 6) :: .ref (Y + 7) :: .int dg :: .ref (Y + 8) :: .int dd :: .ref (Y + 9) :: .ref (Y + 10) :: .ref (Y + 11) :: .ref (Y + 12) :: .int ld :: .int be :: .int ib :: .ref (Y + 13) :: .ref (Y + 14) :: .ref (Y + 15) :: .ref (Y + 16) :: .ref (Y + 17) :: .int (nI s6.2) :: .int fa :: .int re :: .int ig :: .ref (Y + 18) :: .ref (Y + 19) :: .ref (Y + 20) :: .ref (Y + 21) :: []))).set (Y + 17) (aI 2 400 s6.1)) (by rw [show (((w.set Y (.inr (11, .int th :: .int st :: .ref (Y + 1) :: .ref (Y + 2) :: .ref (Y + 3) :: .ref (Y + 4) :: .int nu :: .ref (Y + 5) :: .ref (Y + 6) :: .ref (Y + 7) :: .int dg :: .ref (Y + 8) :: .int dd :: .ref (Y + 9) :: .ref (Y + 10) :: .ref (Y + 11) :: .ref (Y + 12) :: .int ld :: .int be :: .int ib :: .ref (Y + 13) :: .ref (Y + 14) :: .ref (Y + 15) :: .ref (Y + 16) :: .ref (Y + 17) :: .int (nI s5.2) :: .int fa :: .int re :: .int ig :: .ref (Y + 18) :: .ref (Y + 19) :: .ref (Y + 20) :: .ref (Y + 21) :: []))).set (Y + 17) (aI 2 400 s5.1)).set (Y + 17) (aI 2 400 s6.1)) = ((w.set Y (.inr (11, .int th :: .int st :: .ref (Y + 1) :: .ref (Y + 2) :: .ref (Y + 3) :: .ref (Y + 4) :: .int nu :: .ref (Y + 5) :: .ref (Y + 6) :: .ref (Y + 7) :: .int dg :: .ref (Y + 8) :: .int dd :: .ref (Y + 9) :: .ref (Y + 10) :: .ref (Y + 11) :: .ref (Y + 12) :: .int ld :: .int be :: .int ib :: .ref (Y + 13) :: .ref (Y + 14) :: .ref (Y + 15) :: .ref (Y + 16) :: .ref (Y + 17) :: .int (nI s5.2) :: .int fa :: .int re :: .int ig :: .ref (Y + 18) :: .ref (Y + 19) :: .ref (Y + 20) :: .ref (Y + 21) :: []))).set (Y + 17) (aI 2 400 s6.1)) from by rw [List.set_set], show (((w.set Y (.inr (11, .int th :: .int st :: .ref (Y + 1) :: .ref (Y + 2) :: .ref (Y + 3) :: .ref (Y + 4) :: .int nu :: .ref (Y + 5) :: .ref (Y + 6) :: .ref (Y + 7) :: .int dg :: .ref (Y + 8) :: .int dd :: .ref (Y + 9) :: .ref (Y + 10) :: .ref (Y + 11) :: .ref (Y + 12) :: .int ld :: .int be :: .int ib :: .ref (Y + 13) :: .ref (Y + 14) :: .ref (Y + 15) :: .ref (Y + 16) :: .ref (Y + 17) :: .int (nI s5.2) :: .int fa :: .int re :: .int ig :: .ref (Y + 18) :: .ref (Y + 19) :: .ref (Y + 20) :: .ref (Y + 21) :: []))).set (Y + 17) (aI 2 400 s6.1)).set Y (.inr (11, .int th :: .int st :: .ref (Y + 1) :: .ref (Y + 2) :: .ref (Y + 3) :: .ref (Y + 4) :: .int nu :: .ref (Y + 5) :: .ref (Y + 6) :: .ref (Y + 7) :: .int dg :: .ref (Y + 8) :: .int dd :: .ref (Y + 9) :: .ref (Y + 10) :: .ref (Y + 11) :: .ref (Y + 12) :: .int ld :: .int be :: .int ib :: .ref (Y + 13) :: .ref (Y + 14) :: .ref (Y + 15) :: .ref (Y + 16) :: .ref (Y + 17) :: .int (nI s6.2) :: .int fa :: .int re :: .int ig :: .ref (Y + 18) :: .ref (Y + 19) :: .ref (Y + 20) :: .ref (Y + 21) :: []))) = ((w.set Y (.inr (11, .int th :: .int st :: .ref (Y + 1) :: .ref (Y + 2) :: .ref (Y + 3) :: .ref (Y + 4) :: .int nu :: .ref (Y + 5) :: .ref (Y + 6) :: .ref (Y + 7) :: .int dg :: .ref (Y + 8) :: .int dd :: .ref (Y + 9) :: .ref (Y + 10) :: .ref (Y + 11) :: .ref (Y + 12) :: .int ld :: .int be :: .int ib :: .ref (Y + 13) :: .ref (Y + 14) :: .ref (Y + 15) :: .ref (Y + 16) :: .ref (Y + 17) :: .int (nI s6.2) :: .int fa :: .int re :: .int ig :: .ref (Y + 18) :: .ref (Y + 19) :: .ref (Y + 20) :: .ref (Y + 21) :: []))).set (Y + 17) (aI 2 400 s6.1)) from by rw [List.set_comm _ _ (show (Y + 17) ≠ Y by omega), List.set_set]]) ?_
            exact GP.lsub _ (by simp) (K4 s6 (by show _ = wT3 (wT2 (wT1 (wT0 s ((V.1 i).2 c)) ((V.1 i).2 c).natAbs c) c) c; unfold wT3; rw [if_pos (by omega), ← hs3, es6, es5]))
        have K2 : ∀ s2 : (Nat → Int32) × Nat, s2 = wT1 (wT0 s ((V.1 i).2 c)) ((V.1 i).2 c).natAbs c → BX12_listing w0 Q ((w.set Y (.inr (11, .int th :: .int st :: .ref (Y + 1) :: .ref (Y + 2) :: .ref (Y + 3) :: .ref (Y + 4) :: .int nu :: .ref (Y + 5) :: .ref (Y + 6) :: .ref (Y + 7) :: .int dg :: .ref (Y + 8) :: .int dd :: .ref (Y + 9) :: .ref (Y + 10) :: .ref (Y + 11) :: .ref (Y + 12) :: .int ld :: .int be :: .int ib :: .ref (Y + 13) :: .ref (Y + 14) :: .ref (Y + 15) :: .ref (Y + 16) :: .ref (Y + 17) :: .int (nI s2.2) :: .int fa :: .int re :: .int ig :: .ref (Y + 18) :: .ref (Y + 19) :: .ref (Y + 20) :: .ref (Y + 21) :: []))).set (Y + 17) (aI 2 400 s2.1)) 95 [(3, .int v), (2, .int (nI c)), (1, .int (nI i)), (0, .ref Y)] [] := by
          intro s2 hs2
          have q0 := wT0_le (s := s) (v := ((V.1 i).2 c))
          have q1 := wT1_le (s := wT0 s ((V.1 i).2 c)) (a := ((V.1 i).2 c).natAbs) (p := c)
          rw [← hs2] at q1
          refine g_iload_n (pc := 95) 1 dX12_listing_95 rfl rfl ?_
          refine n_if_le (pc := 96) 105 dX12_listing_96 (by decide) (by omega) (fun hp => ?_) (fun hp => ?_)
          · exact GP.lsub _ (by simp) (K3 s2 (by unfold wT2; rw [if_neg (by omega)]; exact hs2))
          · refine g_aload_n (pc := 99) 3 dX12_listing_99 rfl rfl ?_
            refine g_bipush (pc := 100) (v := nI 120) dX12_listing_100 (by decide) ?_
            refine g_callV (pc := 102) [.int (nI 120)] dX12_listing_102 cv_X12_289.1 cv_X12_289.2.1 cv_X12_289.2.2.1 cv_X12_289.2.2.2 (lk_ne (show (Y + 17) ≠ Y by omega) (lk_eq hY)) rfl rfl (Nat.le_of_ble_eq_true rfl) (by decide) (by decide) (mp_write _ (s := s2) (lk_ne (show (Y + 17) ≠ Y by omega) (lk_eq hY)) (lk_eq (lk_ne (show Y ≠ (Y + 17) by omega) a17)) (by omega)) ?_
            rintro _ w9 ⟨rfl, s5, es5, ls5, e9⟩
            refine GP.weq _ e9 ?_
            refine GP.weq ((w.set Y (.inr (11, .int th :: .int st :: .ref (Y + 1) :: .ref (Y + 2) :: .ref (Y + 3) :: .ref (Y + 4) :: .int nu :: .ref (Y + 5) :: .ref (Y + 6) :: .ref (Y + 7) :: .int dg :: .ref (Y + 8) :: .int dd :: .ref (Y + 9) :: .ref (Y + 10) :: .ref (Y + 11) :: .ref (Y + 12) :: .int ld :: .int be :: .int ib :: .ref (Y + 13) :: .ref (Y + 14) :: .ref (Y + 15) :: .ref (Y + 16) :: .ref (Y + 17) :: .int (nI s5.2) :: .int fa :: .int re :: .int ig :: .ref (Y + 18) :: .ref (Y + 19) :: .ref (Y + 20) :: .ref (Y + 21) :: []))).set (Y + 17) (aI 2 400 s5.1)) (by rw [show (((w.set Y (.inr (11, .int th :: .int st :: .ref (Y + 1) :: .ref (Y + 2) :: .ref (Y + 3) :: .ref (Y + 4) :: .int nu :: .ref (Y + 5) :: .ref (Y + 6) :: .ref (Y + 7) :: .int dg :: .ref (Y + 8) :: .int dd :: .ref (Y + 9) :: .ref (Y + 10) :: .ref (Y + 11) :: .ref (Y + 12) :: .int ld :: .int be :: .int ib :: .ref (Y + 13) :: .ref (Y + 14) :: .ref (Y + 15) :: .ref (Y + 16) :: .ref (Y + 17) :: .int (nI s2.2) :: .int fa :: .int re :: .int ig :: .ref (Y + 18) :: .ref (Y + 19) :: .ref (Y + 20) :: .ref (Y + 21) :: []))).set (Y + 17) (aI 2 400 s2.1)).set (Y + 17) (aI 2 400 s5.1)) = ((w.set Y (.inr (11, .int th :: .int st :: .ref (Y + 1) :: .ref (Y + 2) :: .ref (Y + 3) :: .ref (Y + 4) :: .int nu :: .ref (Y + 5) :: .ref (Y + 6) :: .ref (Y + 7) :: .int dg :: .ref (Y + 8) :: .int dd :: .ref (Y + 9) :: .ref (Y + 10) :: .ref (Y + 11) :: .ref (Y + 12) :: .int ld :: .int be :: .int ib :: .ref (Y + 13) :: .ref (Y + 14) :: .ref (Y + 15) :: .ref (Y + 16) :: .ref (Y + 17) :: .int (nI s2.2) :: .int fa :: .int re :: .int ig :: .ref (Y + 18) :: .ref (Y + 19) :: .ref (Y + 20) :: .ref (Y + 21) :: []))).set (Y + 17) (aI 2 400 s5.1)) from by rw [List.set_set], show (((w.set Y (.inr (11, .int th :: .int st :: .ref (Y + 1) :: .ref (Y + 2) :: .ref (Y + 3) :: .ref (Y + 4) :: .int nu :: .ref (Y + 5) :: .ref (Y + 6) :: .ref (Y + 7) :: .int dg :: .ref (Y + 8) :: .int dd :: .ref (Y + 9) :: .ref (Y + 10) :: .ref (Y + 11) :: .ref (Y + 12) :: .int ld :: .int be :: .int ib :: .ref (Y + 13) :: .ref (Y + 14) :: .ref (Y + 15) :: .ref (Y + 16) :: .ref (Y + 17) :: .int (nI s2.2) :: .int fa :: .int re :: .int ig :: .ref (Y + 18) :: .ref (Y + 19) :: .ref (Y + 20) :: .ref (Y + 21) :: []))).set (Y + 17) (aI 2 400 s5.1)).set Y (.inr (11, .int th :: .int st :: .ref (Y + 1) :: .ref (Y + 2) :: .ref (Y + 3) :: .ref (Y + 4) :: .int nu :: .ref (Y + 5) :: .ref (Y + 6) :: .ref (Y + 7) :: .int dg :: .ref (Y + 8) :: .int dd :: .ref (Y + 9) :: .ref (Y + 10) :: .ref (Y + 11) :: .ref (Y + 12) :: .int ld :: .int be :: .int ib :: .ref (Y + 13) :: .ref (Y + 14) :: .ref (Y + 15) :: .ref (Y + 16) :: .ref (Y + 17) :: .int (nI s5.2) :: .int fa :: .int re :: .int ig :: .ref (Y + 18) :: .ref (Y + 19) :: .ref (Y + 20) :: .ref (Y + 21) :: []))) = ((w.set Y (.inr (11, .int th :: .int st :: .ref (Y + 1) :: .ref (Y + 2) :: .ref (Y + 3) :: .ref (Y + 4) :: .int nu :: .ref (Y + 5) :: .ref (Y + 6) :: .ref (Y + 7) :: .int dg :: .ref (Y + 8) :: .int dd :: .ref (Y + 9) :: .ref (Y + 10) :: .ref (Y + 11) :: .ref (Y + 12) :: .int ld :: .int be :: .int ib :: .ref (Y + 13) :: .ref (Y + 14) :: .ref (Y + 15) :: .ref (Y + 16) :: .ref (Y + 17) :: .int (nI s5.2) :: .int fa :: .int re :: .int ig :: .ref (Y + 18) :: .ref (Y + 19) :: .ref (Y + 20) :: .ref (Y + 21) :: []))).set (Y + 17) (aI 2 400 s5.1)) from by rw [List.set_comm _ _ (show (Y + 17) ≠ Y by omega), List.set_set]]) ?_
            exact GP.lsub _ (by simp) (K3 s5 (by unfold wT2; rw [if_pos (by omega), ← hs2, es5]))
        have K1 : ∀ s1 : (Nat → Int32) × Nat, s1 = wT0 s ((V.1 i).2 c) → BX12_listing w0 Q ((w.set Y (.inr (11, .int th :: .int st :: .ref (Y + 1) :: .ref (Y + 2) :: .ref (Y + 3) :: .ref (Y + 4) :: .int nu :: .ref (Y + 5) :: .ref (Y + 6) :: .ref (Y + 7) :: .int dg :: .ref (Y + 8) :: .int dd :: .ref (Y + 9) :: .ref (Y + 10) :: .ref (Y + 11) :: .ref (Y + 12) :: .int ld :: .int be :: .int ib :: .ref (Y + 13) :: .ref (Y + 14) :: .ref (Y + 15) :: .ref (Y + 16) :: .ref (Y + 17) :: .int (nI s1.2) :: .int fa :: .int re :: .int ig :: .ref (Y + 18) :: .ref (Y + 19) :: .ref (Y + 20) :: .ref (Y + 21) :: []))).set (Y + 17) (aI 2 400 s1.1)) 71 [(3, .int v), (2, .int (nI c)), (1, .int (nI i)), (0, .ref Y)] [] := by
          intro s1 hs1
          have q0 := wT0_le (s := s) (v := ((V.1 i).2 c))
          rw [← hs1] at q0
          refine g_iload_n (pc := 71) 1 dX12_listing_71 rfl rfl ?_
          refine n_if_eq (pc := 72) 85 dX12_listing_72 (by decide) (by omega) (fun hc0 => ?_) (fun hc0 => ?_)
          · refine g_aload_n (pc := 85) 3 dX12_listing_85 rfl rfl ?_
            refine g_iload_n (pc := 86) 0 dX12_listing_86 rfl rfl ?_
            refine g_i2l (pc := 87) dX12_listing_87 ?_
            refine g_callS (pc := 88) [.long v.toInt64] dX12_listing_88 cs_X12_146.1 cs_X12_146.2 rfl rfl (Nat.le_of_ble_eq_true rfl) (by decide) (by decide) (mp_size _) ?_
            rintro _ w9 ⟨x2, rfl, hx1, hx2, e9⟩
            refine GP.weq _ e9 ?_
            have hx3 : x2.toInt = (((V.1 i).2 c).natAbs : Int) := by
              rw [IL, hv9] at hx1 hx2
              by_cases g : ((V.1 i).2 c) < 0
              · rw [hx1 g, L_neg (by rw [IL, hv9]; omega), IL, hv9]; omega
              · rw [hx2 g, IL, hv9]; omega
            refine g_l2i (pc := 91) dX12_listing_91 ?_
            refine GP.ti (nI ((V.1 i).2 c).natAbs) (Int32.toInt_inj.mp (by rw [LI (by omega) (by omega), hx3, nI_toInt (by omega)])) ?_
            refine g_callV (pc := 92) [.int (nI (((V.1 i).2 c).natAbs))] dX12_listing_92 cv_X12_292.1 cv_X12_292.2.1 cv_X12_292.2.2.1 cv_X12_292.2.2.2 (lk_ne (show (Y + 17) ≠ Y by omega) (lk_eq hY)) rfl rfl (Nat.le_of_ble_eq_true rfl) (by decide) (by decide) (mp_writeNumber _ (s := s1) (lk_ne (show (Y + 17) ≠ Y by omega) (lk_eq hY)) (lk_eq (lk_ne (show Y ≠ (Y + 17) by omega) a17)) (by omega) (by omega)) ?_
            rintro _ w9 ⟨rfl, s5, es5, ls5, e9⟩
            refine GP.weq _ e9 ?_
            refine GP.weq ((w.set Y (.inr (11, .int th :: .int st :: .ref (Y + 1) :: .ref (Y + 2) :: .ref (Y + 3) :: .ref (Y + 4) :: .int nu :: .ref (Y + 5) :: .ref (Y + 6) :: .ref (Y + 7) :: .int dg :: .ref (Y + 8) :: .int dd :: .ref (Y + 9) :: .ref (Y + 10) :: .ref (Y + 11) :: .ref (Y + 12) :: .int ld :: .int be :: .int ib :: .ref (Y + 13) :: .ref (Y + 14) :: .ref (Y + 15) :: .ref (Y + 16) :: .ref (Y + 17) :: .int (nI s5.2) :: .int fa :: .int re :: .int ig :: .ref (Y + 18) :: .ref (Y + 19) :: .ref (Y + 20) :: .ref (Y + 21) :: []))).set (Y + 17) (aI 2 400 s5.1)) (by rw [show (((w.set Y (.inr (11, .int th :: .int st :: .ref (Y + 1) :: .ref (Y + 2) :: .ref (Y + 3) :: .ref (Y + 4) :: .int nu :: .ref (Y + 5) :: .ref (Y + 6) :: .ref (Y + 7) :: .int dg :: .ref (Y + 8) :: .int dd :: .ref (Y + 9) :: .ref (Y + 10) :: .ref (Y + 11) :: .ref (Y + 12) :: .int ld :: .int be :: .int ib :: .ref (Y + 13) :: .ref (Y + 14) :: .ref (Y + 15) :: .ref (Y + 16) :: .ref (Y + 17) :: .int (nI s1.2) :: .int fa :: .int re :: .int ig :: .ref (Y + 18) :: .ref (Y + 19) :: .ref (Y + 20) :: .ref (Y + 21) :: []))).set (Y + 17) (aI 2 400 s1.1)).set (Y + 17) (aI 2 400 s5.1)) = ((w.set Y (.inr (11, .int th :: .int st :: .ref (Y + 1) :: .ref (Y + 2) :: .ref (Y + 3) :: .ref (Y + 4) :: .int nu :: .ref (Y + 5) :: .ref (Y + 6) :: .ref (Y + 7) :: .int dg :: .ref (Y + 8) :: .int dd :: .ref (Y + 9) :: .ref (Y + 10) :: .ref (Y + 11) :: .ref (Y + 12) :: .int ld :: .int be :: .int ib :: .ref (Y + 13) :: .ref (Y + 14) :: .ref (Y + 15) :: .ref (Y + 16) :: .ref (Y + 17) :: .int (nI s1.2) :: .int fa :: .int re :: .int ig :: .ref (Y + 18) :: .ref (Y + 19) :: .ref (Y + 20) :: .ref (Y + 21) :: []))).set (Y + 17) (aI 2 400 s5.1)) from by rw [List.set_set], show (((w.set Y (.inr (11, .int th :: .int st :: .ref (Y + 1) :: .ref (Y + 2) :: .ref (Y + 3) :: .ref (Y + 4) :: .int nu :: .ref (Y + 5) :: .ref (Y + 6) :: .ref (Y + 7) :: .int dg :: .ref (Y + 8) :: .int dd :: .ref (Y + 9) :: .ref (Y + 10) :: .ref (Y + 11) :: .ref (Y + 12) :: .int ld :: .int be :: .int ib :: .ref (Y + 13) :: .ref (Y + 14) :: .ref (Y + 15) :: .ref (Y + 16) :: .ref (Y + 17) :: .int (nI s1.2) :: .int fa :: .int re :: .int ig :: .ref (Y + 18) :: .ref (Y + 19) :: .ref (Y + 20) :: .ref (Y + 21) :: []))).set (Y + 17) (aI 2 400 s5.1)).set Y (.inr (11, .int th :: .int st :: .ref (Y + 1) :: .ref (Y + 2) :: .ref (Y + 3) :: .ref (Y + 4) :: .int nu :: .ref (Y + 5) :: .ref (Y + 6) :: .ref (Y + 7) :: .int dg :: .ref (Y + 8) :: .int dd :: .ref (Y + 9) :: .ref (Y + 10) :: .ref (Y + 11) :: .ref (Y + 12) :: .int ld :: .int be :: .int ib :: .ref (Y + 13) :: .ref (Y + 14) :: .ref (Y + 15) :: .ref (Y + 16) :: .ref (Y + 17) :: .int (nI s5.2) :: .int fa :: .int re :: .int ig :: .ref (Y + 18) :: .ref (Y + 19) :: .ref (Y + 20) :: .ref (Y + 21) :: []))) = ((w.set Y (.inr (11, .int th :: .int st :: .ref (Y + 1) :: .ref (Y + 2) :: .ref (Y + 3) :: .ref (Y + 4) :: .int nu :: .ref (Y + 5) :: .ref (Y + 6) :: .ref (Y + 7) :: .int dg :: .ref (Y + 8) :: .int dd :: .ref (Y + 9) :: .ref (Y + 10) :: .ref (Y + 11) :: .ref (Y + 12) :: .int ld :: .int be :: .int ib :: .ref (Y + 13) :: .ref (Y + 14) :: .ref (Y + 15) :: .ref (Y + 16) :: .ref (Y + 17) :: .int (nI s5.2) :: .int fa :: .int re :: .int ig :: .ref (Y + 18) :: .ref (Y + 19) :: .ref (Y + 20) :: .ref (Y + 21) :: []))).set (Y + 17) (aI 2 400 s5.1)) from by rw [List.set_comm _ _ (show (Y + 17) ≠ Y by omega), List.set_set]]) ?_
            exact GP.lsub _ (by simp) (K2 s5 (by unfold wT1; rw [if_pos (Or.inr hc0), ← hs1, es5]))
          · refine g_iload_n (pc := 75) 0 dX12_listing_75 rfl rfl ?_
            refine g_iconst (pc := 76) (v := nI 1) dX12_listing_76 (by decide) ?_
            refine g_icmp_eq (pc := 77) 95 dX12_listing_77 (by decide) (fun h1 => ?_) (fun h1 => ?_)
            · exact GP.lsub _ (by simp) (K2 s1 (by unfold wT1; rw [if_neg (by rw [show ((V.1 i).2 c) = 1 by rw [← hv9, h1]; rfl]; omega)]; exact hs1))
            · refine g_iload_n (pc := 80) 0 dX12_listing_80 rfl rfl ?_
              refine g_iconst (pc := 81) (v := -1) dX12_listing_81 (by decide) ?_
              refine g_icmp_eq (pc := 82) 95 dX12_listing_82 (by decide) (fun h2 => ?_) (fun h2 => ?_)
              · exact GP.lsub _ (by simp) (K2 s1 (by unfold wT1; rw [if_neg (by rw [show ((V.1 i).2 c) = -1 by rw [← hv9, h2]; rfl]; omega)]; exact hs1))
              · have hn1 : ((V.1 i).2 c) ≠ 1 := fun g => h1 (Int32.toInt_inj.mp (by rw [hv9, g]; rfl))
                have hn2 : ((V.1 i).2 c) ≠ -1 := fun g => h2 (Int32.toInt_inj.mp (by rw [hv9, g]; rfl))
                refine g_aload_n (pc := 85) 3 dX12_listing_85 rfl rfl ?_
                refine g_iload_n (pc := 86) 0 dX12_listing_86 rfl rfl ?_
                refine g_i2l (pc := 87) dX12_listing_87 ?_
                refine g_callS (pc := 88) [.long v.toInt64] dX12_listing_88 cs_X12_146.1 cs_X12_146.2 rfl rfl (Nat.le_of_ble_eq_true rfl) (by decide) (by decide) (mp_size _) ?_
                rintro _ w9 ⟨x2, rfl, hx1, hx2, e9⟩
                refine GP.weq _ e9 ?_
                have hx3 : x2.toInt = (((V.1 i).2 c).natAbs : Int) := by
                  rw [IL, hv9] at hx1 hx2
                  by_cases g : ((V.1 i).2 c) < 0
                  · rw [hx1 g, L_neg (by rw [IL, hv9]; omega), IL, hv9]; omega
                  · rw [hx2 g, IL, hv9]; omega
                refine g_l2i (pc := 91) dX12_listing_91 ?_
                refine GP.ti (nI ((V.1 i).2 c).natAbs) (Int32.toInt_inj.mp (by rw [LI (by omega) (by omega), hx3, nI_toInt (by omega)])) ?_
                refine g_callV (pc := 92) [.int (nI (((V.1 i).2 c).natAbs))] dX12_listing_92 cv_X12_292.1 cv_X12_292.2.1 cv_X12_292.2.2.1 cv_X12_292.2.2.2 (lk_ne (show (Y + 17) ≠ Y by omega) (lk_eq hY)) rfl rfl (Nat.le_of_ble_eq_true rfl) (by decide) (by decide) (mp_writeNumber _ (s := s1) (lk_ne (show (Y + 17) ≠ Y by omega) (lk_eq hY)) (lk_eq (lk_ne (show Y ≠ (Y + 17) by omega) a17)) (by omega) (by omega)) ?_
                rintro _ w9 ⟨rfl, s5, es5, ls5, e9⟩
                refine GP.weq _ e9 ?_
                refine GP.weq ((w.set Y (.inr (11, .int th :: .int st :: .ref (Y + 1) :: .ref (Y + 2) :: .ref (Y + 3) :: .ref (Y + 4) :: .int nu :: .ref (Y + 5) :: .ref (Y + 6) :: .ref (Y + 7) :: .int dg :: .ref (Y + 8) :: .int dd :: .ref (Y + 9) :: .ref (Y + 10) :: .ref (Y + 11) :: .ref (Y + 12) :: .int ld :: .int be :: .int ib :: .ref (Y + 13) :: .ref (Y + 14) :: .ref (Y + 15) :: .ref (Y + 16) :: .ref (Y + 17) :: .int (nI s5.2) :: .int fa :: .int re :: .int ig :: .ref (Y + 18) :: .ref (Y + 19) :: .ref (Y + 20) :: .ref (Y + 21) :: []))).set (Y + 17) (aI 2 400 s5.1)) (by rw [show (((w.set Y (.inr (11, .int th :: .int st :: .ref (Y + 1) :: .ref (Y + 2) :: .ref (Y + 3) :: .ref (Y + 4) :: .int nu :: .ref (Y + 5) :: .ref (Y + 6) :: .ref (Y + 7) :: .int dg :: .ref (Y + 8) :: .int dd :: .ref (Y + 9) :: .ref (Y + 10) :: .ref (Y + 11) :: .ref (Y + 12) :: .int ld :: .int be :: .int ib :: .ref (Y + 13) :: .ref (Y + 14) :: .ref (Y + 15) :: .ref (Y + 16) :: .ref (Y + 17) :: .int (nI s1.2) :: .int fa :: .int re :: .int ig :: .ref (Y + 18) :: .ref (Y + 19) :: .ref (Y + 20) :: .ref (Y + 21) :: []))).set (Y + 17) (aI 2 400 s1.1)).set (Y + 17) (aI 2 400 s5.1)) = ((w.set Y (.inr (11, .int th :: .int st :: .ref (Y + 1) :: .ref (Y + 2) :: .ref (Y + 3) :: .ref (Y + 4) :: .int nu :: .ref (Y + 5) :: .ref (Y + 6) :: .ref (Y + 7) :: .int dg :: .ref (Y + 8) :: .int dd :: .ref (Y + 9) :: .ref (Y + 10) :: .ref (Y + 11) :: .ref (Y + 12) :: .int ld :: .int be :: .int ib :: .ref (Y + 13) :: .ref (Y + 14) :: .ref (Y + 15) :: .ref (Y + 16) :: .ref (Y + 17) :: .int (nI s1.2) :: .int fa :: .int re :: .int ig :: .ref (Y + 18) :: .ref (Y + 19) :: .ref (Y + 20) :: .ref (Y + 21) :: []))).set (Y + 17) (aI 2 400 s5.1)) from by rw [List.set_set], show (((w.set Y (.inr (11, .int th :: .int st :: .ref (Y + 1) :: .ref (Y + 2) :: .ref (Y + 3) :: .ref (Y + 4) :: .int nu :: .ref (Y + 5) :: .ref (Y + 6) :: .ref (Y + 7) :: .int dg :: .ref (Y + 8) :: .int dd :: .ref (Y + 9) :: .ref (Y + 10) :: .ref (Y + 11) :: .ref (Y + 12) :: .int ld :: .int be :: .int ib :: .ref (Y + 13) :: .ref (Y + 14) :: .ref (Y + 15) :: .ref (Y + 16) :: .ref (Y + 17) :: .int (nI s1.2) :: .int fa :: .int re :: .int ig :: .ref (Y + 18) :: .ref (Y + 19) :: .ref (Y + 20) :: .ref (Y + 21) :: []))).set (Y + 17) (aI 2 400 s5.1)).set Y (.inr (11, .int th :: .int st :: .ref (Y + 1) :: .ref (Y + 2) :: .ref (Y + 3) :: .ref (Y + 4) :: .int nu :: .ref (Y + 5) :: .ref (Y + 6) :: .ref (Y + 7) :: .int dg :: .ref (Y + 8) :: .int dd :: .ref (Y + 9) :: .ref (Y + 10) :: .ref (Y + 11) :: .ref (Y + 12) :: .int ld :: .int be :: .int ib :: .ref (Y + 13) :: .ref (Y + 14) :: .ref (Y + 15) :: .ref (Y + 16) :: .ref (Y + 17) :: .int (nI s5.2) :: .int fa :: .int re :: .int ig :: .ref (Y + 18) :: .ref (Y + 19) :: .ref (Y + 20) :: .ref (Y + 21) :: []))) = ((w.set Y (.inr (11, .int th :: .int st :: .ref (Y + 1) :: .ref (Y + 2) :: .ref (Y + 3) :: .ref (Y + 4) :: .int nu :: .ref (Y + 5) :: .ref (Y + 6) :: .ref (Y + 7) :: .int dg :: .ref (Y + 8) :: .int dd :: .ref (Y + 9) :: .ref (Y + 10) :: .ref (Y + 11) :: .ref (Y + 12) :: .int ld :: .int be :: .int ib :: .ref (Y + 13) :: .ref (Y + 14) :: .ref (Y + 15) :: .ref (Y + 16) :: .ref (Y + 17) :: .int (nI s5.2) :: .int fa :: .int re :: .int ig :: .ref (Y + 18) :: .ref (Y + 19) :: .ref (Y + 20) :: .ref (Y + 21) :: []))).set (Y + 17) (aI 2 400 s5.1)) from by rw [List.set_comm _ _ (show (Y + 17) ≠ Y by omega), List.set_set]]) ?_
                exact GP.lsub _ (by simp) (K2 s5 (by unfold wT1; rw [if_pos (Or.inl (by omega)), ← hs1, es5]))
        refine g_iload_n (pc := 30) 0 dX12_listing_30 rfl rfl ?_
        refine n_if_lt (pc := 31) 127 dX12_listing_31 (by decide) (by omega) ?_
        refine g_aload_n (pc := 34) 2 dX12_listing_34 rfl rfl ?_
        refine g_iload_n (pc := 35) 1 dX12_listing_35 rfl rfl ?_
        refine g_iload_n (pc := 36) 0 dX12_listing_36 rfl rfl ?_
        refine g_callV (pc := 37) [.int (nI i), .int (nI c)] dX12_listing_37 cv_X12_122.1 cv_X12_122.2.1 cv_X12_122.2.2.1 cv_X12_122.2.2.2 (lk_ne (show (Y + 17) ≠ Y by omega) (lk_eq hY)) rfl rfl (Nat.le_of_ble_eq_true rfl) (by decide) (by decide) (mp_at _ (lk_ne (show (Y + 17) ≠ Y by omega) (lk_eq hY)) (lk_ne (show (Y + 17) ≠ (Y + 2) by omega) (lk_ne (show Y ≠ (Y + 2) by omega) a2)) hi (show c < 13 by omega)) ?_
        rintro _ w9 ⟨rfl, e9⟩
        refine GP.weq _ e9 ?_
        refine GP.ti v hve.symm ?_
        refine g_istore_n (pc := 40) [(3, .int v), (2, .int (nI c)), (1, .int (nI i)), (0, .ref Y)] dX12_listing_40 rfl (by decide) rfl ?_
        refine g_iload_n (pc := 41) 0 dX12_listing_41 rfl rfl ?_
        refine g_if_eq (pc := 42) 121 dX12_listing_42 (by decide) (fun hz => ?_) (fun hz => ?_)
        · exact absurd (by rw [← hv9, hz]; rfl) hv0
        · refine g_iload_n (pc := 45) 0 dX12_listing_45 rfl rfl ?_
          refine g_if_lt (pc := 46) 56 dX12_listing_46 (by decide) (fun hn => ?_) (fun hn => ?_)
          · rw [Int32.lt_iff_toInt_lt, z0, hv9] at hn
            refine g_aload_n (pc := 56) 3 dX12_listing_56 rfl rfl ?_
            refine g_iload_n (pc := 57) 0 dX12_listing_57 rfl rfl ?_
            refine g_if_ge (pc := 58) 66 dX12_listing_58 (by decide) (fun hn2 => ?_) (fun hn2 => ?_)
            · rw [Int32.le_iff_toInt_le, z0, hv9] at hn2
              exact absurd hn2 (by omega)
            · refine g_bipush (pc := 61) (v := nI 45) dX12_listing_61 (by decide) ?_
              refine g_goto (pc := 63) 68 dX12_listing_63 (by decide) ?_
              refine g_callV (pc := 68) [.int (nI 45)] dX12_listing_68 cv_X12_289.1 cv_X12_289.2.1 cv_X12_289.2.2.1 cv_X12_289.2.2.2 (lk_ne (show (Y + 17) ≠ Y by omega) (lk_eq hY)) rfl rfl (Nat.le_of_ble_eq_true rfl) (by decide) (by decide) (mp_write _ (s := s) (lk_ne (show (Y + 17) ≠ Y by omega) (lk_eq hY)) (lk_eq (lk_ne (show Y ≠ (Y + 17) by omega) a17)) (by omega)) ?_
              rintro _ w9 ⟨rfl, s5, es5, ls5, e9⟩
              refine GP.weq _ e9 ?_
              refine GP.weq ((w.set Y (.inr (11, .int th :: .int st :: .ref (Y + 1) :: .ref (Y + 2) :: .ref (Y + 3) :: .ref (Y + 4) :: .int nu :: .ref (Y + 5) :: .ref (Y + 6) :: .ref (Y + 7) :: .int dg :: .ref (Y + 8) :: .int dd :: .ref (Y + 9) :: .ref (Y + 10) :: .ref (Y + 11) :: .ref (Y + 12) :: .int ld :: .int be :: .int ib :: .ref (Y + 13) :: .ref (Y + 14) :: .ref (Y + 15) :: .ref (Y + 16) :: .ref (Y + 17) :: .int (nI s5.2) :: .int fa :: .int re :: .int ig :: .ref (Y + 18) :: .ref (Y + 19) :: .ref (Y + 20) :: .ref (Y + 21) :: []))).set (Y + 17) (aI 2 400 s5.1)) (by rw [show (((w.set Y (.inr (11, .int th :: .int st :: .ref (Y + 1) :: .ref (Y + 2) :: .ref (Y + 3) :: .ref (Y + 4) :: .int nu :: .ref (Y + 5) :: .ref (Y + 6) :: .ref (Y + 7) :: .int dg :: .ref (Y + 8) :: .int dd :: .ref (Y + 9) :: .ref (Y + 10) :: .ref (Y + 11) :: .ref (Y + 12) :: .int ld :: .int be :: .int ib :: .ref (Y + 13) :: .ref (Y + 14) :: .ref (Y + 15) :: .ref (Y + 16) :: .ref (Y + 17) :: .int (nI s.2) :: .int fa :: .int re :: .int ig :: .ref (Y + 18) :: .ref (Y + 19) :: .ref (Y + 20) :: .ref (Y + 21) :: []))).set (Y + 17) (aI 2 400 s.1)).set (Y + 17) (aI 2 400 s5.1)) = ((w.set Y (.inr (11, .int th :: .int st :: .ref (Y + 1) :: .ref (Y + 2) :: .ref (Y + 3) :: .ref (Y + 4) :: .int nu :: .ref (Y + 5) :: .ref (Y + 6) :: .ref (Y + 7) :: .int dg :: .ref (Y + 8) :: .int dd :: .ref (Y + 9) :: .ref (Y + 10) :: .ref (Y + 11) :: .ref (Y + 12) :: .int ld :: .int be :: .int ib :: .ref (Y + 13) :: .ref (Y + 14) :: .ref (Y + 15) :: .ref (Y + 16) :: .ref (Y + 17) :: .int (nI s.2) :: .int fa :: .int re :: .int ig :: .ref (Y + 18) :: .ref (Y + 19) :: .ref (Y + 20) :: .ref (Y + 21) :: []))).set (Y + 17) (aI 2 400 s5.1)) from by rw [List.set_set], show (((w.set Y (.inr (11, .int th :: .int st :: .ref (Y + 1) :: .ref (Y + 2) :: .ref (Y + 3) :: .ref (Y + 4) :: .int nu :: .ref (Y + 5) :: .ref (Y + 6) :: .ref (Y + 7) :: .int dg :: .ref (Y + 8) :: .int dd :: .ref (Y + 9) :: .ref (Y + 10) :: .ref (Y + 11) :: .ref (Y + 12) :: .int ld :: .int be :: .int ib :: .ref (Y + 13) :: .ref (Y + 14) :: .ref (Y + 15) :: .ref (Y + 16) :: .ref (Y + 17) :: .int (nI s.2) :: .int fa :: .int re :: .int ig :: .ref (Y + 18) :: .ref (Y + 19) :: .ref (Y + 20) :: .ref (Y + 21) :: []))).set (Y + 17) (aI 2 400 s5.1)).set Y (.inr (11, .int th :: .int st :: .ref (Y + 1) :: .ref (Y + 2) :: .ref (Y + 3) :: .ref (Y + 4) :: .int nu :: .ref (Y + 5) :: .ref (Y + 6) :: .ref (Y + 7) :: .int dg :: .ref (Y + 8) :: .int dd :: .ref (Y + 9) :: .ref (Y + 10) :: .ref (Y + 11) :: .ref (Y + 12) :: .int ld :: .int be :: .int ib :: .ref (Y + 13) :: .ref (Y + 14) :: .ref (Y + 15) :: .ref (Y + 16) :: .ref (Y + 17) :: .int (nI s5.2) :: .int fa :: .int re :: .int ig :: .ref (Y + 18) :: .ref (Y + 19) :: .ref (Y + 20) :: .ref (Y + 21) :: []))) = ((w.set Y (.inr (11, .int th :: .int st :: .ref (Y + 1) :: .ref (Y + 2) :: .ref (Y + 3) :: .ref (Y + 4) :: .int nu :: .ref (Y + 5) :: .ref (Y + 6) :: .ref (Y + 7) :: .int dg :: .ref (Y + 8) :: .int dd :: .ref (Y + 9) :: .ref (Y + 10) :: .ref (Y + 11) :: .ref (Y + 12) :: .int ld :: .int be :: .int ib :: .ref (Y + 13) :: .ref (Y + 14) :: .ref (Y + 15) :: .ref (Y + 16) :: .ref (Y + 17) :: .int (nI s5.2) :: .int fa :: .int re :: .int ig :: .ref (Y + 18) :: .ref (Y + 19) :: .ref (Y + 20) :: .ref (Y + 21) :: []))).set (Y + 17) (aI 2 400 s5.1)) from by rw [List.set_comm _ _ (show (Y + 17) ≠ Y by omega), List.set_set]]) ?_
              exact GP.lsub _ (by simp) (K1 s5 (by unfold wT0; rw [if_pos hn, es5]))
          · rw [Int32.lt_iff_toInt_lt, z0, hv9] at hn
            refine g_aload_n (pc := 49) 3 dX12_listing_49 rfl rfl ?_
            refine g_get (pc := 50) dX12_listing_50 fk_X12_249 (lk_ne (show (Y + 17) ≠ Y by omega) (lk_eq hY)) rfl ?_
            refine n_if_le (pc := 53) 71 dX12_listing_53 (by decide) (by omega) (fun ht => ?_) (fun ht => ?_)
            · exact GP.lsub _ (by simp) (K1 s (by unfold wT0; rw [if_neg hn, if_neg (by omega)]))
            · refine g_aload_n (pc := 56) 3 dX12_listing_56 rfl rfl ?_
              refine g_iload_n (pc := 57) 0 dX12_listing_57 rfl rfl ?_
              refine g_if_ge (pc := 58) 66 dX12_listing_58 (by decide) (fun hn2 => ?_) (fun hn2 => ?_)
              · refine g_bipush (pc := 66) (v := nI 43) dX12_listing_66 (by decide) ?_
                refine g_callV (pc := 68) [.int (nI 43)] dX12_listing_68 cv_X12_289.1 cv_X12_289.2.1 cv_X12_289.2.2.1 cv_X12_289.2.2.2 (lk_ne (show (Y + 17) ≠ Y by omega) (lk_eq hY)) rfl rfl (Nat.le_of_ble_eq_true rfl) (by decide) (by decide) (mp_write _ (s := s) (lk_ne (show (Y + 17) ≠ Y by omega) (lk_eq hY)) (lk_eq (lk_ne (show Y ≠ (Y + 17) by omega) a17)) (by omega)) ?_
                rintro _ w9 ⟨rfl, s5, es5, ls5, e9⟩
                refine GP.weq _ e9 ?_
                refine GP.weq ((w.set Y (.inr (11, .int th :: .int st :: .ref (Y + 1) :: .ref (Y + 2) :: .ref (Y + 3) :: .ref (Y + 4) :: .int nu :: .ref (Y + 5) :: .ref (Y + 6) :: .ref (Y + 7) :: .int dg :: .ref (Y + 8) :: .int dd :: .ref (Y + 9) :: .ref (Y + 10) :: .ref (Y + 11) :: .ref (Y + 12) :: .int ld :: .int be :: .int ib :: .ref (Y + 13) :: .ref (Y + 14) :: .ref (Y + 15) :: .ref (Y + 16) :: .ref (Y + 17) :: .int (nI s5.2) :: .int fa :: .int re :: .int ig :: .ref (Y + 18) :: .ref (Y + 19) :: .ref (Y + 20) :: .ref (Y + 21) :: []))).set (Y + 17) (aI 2 400 s5.1)) (by rw [show (((w.set Y (.inr (11, .int th :: .int st :: .ref (Y + 1) :: .ref (Y + 2) :: .ref (Y + 3) :: .ref (Y + 4) :: .int nu :: .ref (Y + 5) :: .ref (Y + 6) :: .ref (Y + 7) :: .int dg :: .ref (Y + 8) :: .int dd :: .ref (Y + 9) :: .ref (Y + 10) :: .ref (Y + 11) :: .ref (Y + 12) :: .int ld :: .int be :: .int ib :: .ref (Y + 13) :: .ref (Y + 14) :: .ref (Y + 15) :: .ref (Y + 16) :: .ref (Y + 17) :: .int (nI s.2) :: .int fa :: .int re :: .int ig :: .ref (Y + 18) :: .ref (Y + 19) :: .ref (Y + 20) :: .ref (Y + 21) :: []))).set (Y + 17) (aI 2 400 s.1)).set (Y + 17) (aI 2 400 s5.1)) = ((w.set Y (.inr (11, .int th :: .int st :: .ref (Y + 1) :: .ref (Y + 2) :: .ref (Y + 3) :: .ref (Y + 4) :: .int nu :: .ref (Y + 5) :: .ref (Y + 6) :: .ref (Y + 7) :: .int dg :: .ref (Y + 8) :: .int dd :: .ref (Y + 9) :: .ref (Y + 10) :: .ref (Y + 11) :: .ref (Y + 12) :: .int ld :: .int be :: .int ib :: .ref (Y + 13) :: .ref (Y + 14) :: .ref (Y + 15) :: .ref (Y + 16) :: .ref (Y + 17) :: .int (nI s.2) :: .int fa :: .int re :: .int ig :: .ref (Y + 18) :: .ref (Y + 19) :: .ref (Y + 20) :: .ref (Y + 21) :: []))).set (Y + 17) (aI 2 400 s5.1)) from by rw [List.set_set], show (((w.set Y (.inr (11, .int th :: .int st :: .ref (Y + 1) :: .ref (Y + 2) :: .ref (Y + 3) :: .ref (Y + 4) :: .int nu :: .ref (Y + 5) :: .ref (Y + 6) :: .ref (Y + 7) :: .int dg :: .ref (Y + 8) :: .int dd :: .ref (Y + 9) :: .ref (Y + 10) :: .ref (Y + 11) :: .ref (Y + 12) :: .int ld :: .int be :: .int ib :: .ref (Y + 13) :: .ref (Y + 14) :: .ref (Y + 15) :: .ref (Y + 16) :: .ref (Y + 17) :: .int (nI s.2) :: .int fa :: .int re :: .int ig :: .ref (Y + 18) :: .ref (Y + 19) :: .ref (Y + 20) :: .ref (Y + 21) :: []))).set (Y + 17) (aI 2 400 s5.1)).set Y (.inr (11, .int th :: .int st :: .ref (Y + 1) :: .ref (Y + 2) :: .ref (Y + 3) :: .ref (Y + 4) :: .int nu :: .ref (Y + 5) :: .ref (Y + 6) :: .ref (Y + 7) :: .int dg :: .ref (Y + 8) :: .int dd :: .ref (Y + 9) :: .ref (Y + 10) :: .ref (Y + 11) :: .ref (Y + 12) :: .int ld :: .int be :: .int ib :: .ref (Y + 13) :: .ref (Y + 14) :: .ref (Y + 15) :: .ref (Y + 16) :: .ref (Y + 17) :: .int (nI s5.2) :: .int fa :: .int re :: .int ig :: .ref (Y + 18) :: .ref (Y + 19) :: .ref (Y + 20) :: .ref (Y + 21) :: []))) = ((w.set Y (.inr (11, .int th :: .int st :: .ref (Y + 1) :: .ref (Y + 2) :: .ref (Y + 3) :: .ref (Y + 4) :: .int nu :: .ref (Y + 5) :: .ref (Y + 6) :: .ref (Y + 7) :: .int dg :: .ref (Y + 8) :: .int dd :: .ref (Y + 9) :: .ref (Y + 10) :: .ref (Y + 11) :: .ref (Y + 12) :: .int ld :: .int be :: .int ib :: .ref (Y + 13) :: .ref (Y + 14) :: .ref (Y + 15) :: .ref (Y + 16) :: .ref (Y + 17) :: .int (nI s5.2) :: .int fa :: .int re :: .int ig :: .ref (Y + 18) :: .ref (Y + 19) :: .ref (Y + 20) :: .ref (Y + 21) :: []))).set (Y + 17) (aI 2 400 s5.1)) from by rw [List.set_comm _ _ (show (Y + 17) ≠ Y by omega), List.set_set]]) ?_
                exact GP.lsub _ (by simp) (K1 s5 (by unfold wT0; rw [if_neg hn, if_pos (by omega), es5]))
              · rw [Int32.le_iff_toInt_le, z0, hv9] at hn2
                exact absurd (show (0 : Int) ≤ (V.1 i).2 c by omega) hn2
theorem lis_0 : True := trivial
theorem mq_listing (w : Wd) {Y tl : Nat} {tb : Nat → Int32} {fa st : Int32} {rf : Nat → Nat} {sh : SV} {pn : Nat} {pk : Nat → Nat} {ps : Nat → SV} {im : Nat → Option SV} (hM : mdC w Y tl tb fa st rf sh pn pk ps im) {x : Int32} : EX12_listing [.ref Y, .int x] w (fun r w' => (¬ isPl x ∧ rfM (-2) 1 w Y tl tb fa rf sh pn pk ps im r w') ∨ (∃ i, x = nI i ∧ i < 8 ∧ r = some (.int (nI (wAll (sh.1 i).2 (tb, 0) (sh.1 i).1 ((sh.1 i).1 + 1)).2)) ∧ mdC w' Y ((wAll (sh.1 i).2 (tb, 0) (sh.1 i).1 ((sh.1 i).1 + 1)).2) ((wAll (sh.1 i).2 (tb, 0) (sh.1 i).1 ((sh.1 i).1 + 1)).1) fa (nI 0) rf sh pn pk ps im ∧ FR (modS Y) w w')) := by
  refine EP.of (plainFor_of_name (by decide)) [(0, .ref Y), (1, .int x)] rfl (Nat.le_of_ble_eq_true rfl) (fun r wf h => by rcases h with ⟨-, rfl, -⟩ | ⟨i, -, -, rfl, -⟩ <;> trivial) ?_
  show BX12_listing w _ w 0 [(0, .ref Y), (1, .int x)] []
  obtain ⟨⟨th, dg, dd, ld, be, ib, re, ig, hY⟩, ⟨⟨g1, a1, b1⟩, ⟨g2, a2, b2⟩, ⟨g3, g4, a3, a4, b3, b4⟩, ⟨g5, g6, a5, a6, b5⟩, ⟨g11, a11, b11⟩, ⟨g17, a17, b17⟩⟩, ⟨g7, g8, g9, g10, g12, g13, g14, g18, g19, g20, g21, a7, a8, a9, a10, a12, a13, a14, a18, a19, a20, a21⟩, ⟨g15, g16, a15, a16, b15⟩⟩ := id hM
  refine g_aload_n (pc := 0) 0 dX12_listing_0 rfl rfl ?_
  refine g_iconst (pc := 1) (v := nI 0) dX12_listing_1 (by decide) ?_
  refine g_put (pc := 2) (.int (nI 0) :: .int st :: .ref (Y + 1) :: .ref (Y + 2) :: .ref (Y + 3) :: .ref (Y + 4) :: .int (nI pn) :: .ref (Y + 5) :: .ref (Y + 6) :: .ref (Y + 7) :: .int dg :: .ref (Y + 8) :: .int dd :: .ref (Y + 9) :: .ref (Y + 10) :: .ref (Y + 11) :: .ref (Y + 12) :: .int ld :: .int be :: .int ib :: .ref (Y + 13) :: .ref (Y + 14) :: .ref (Y + 15) :: .ref (Y + 16) :: .ref (Y + 17) :: .int (nI tl) :: .int fa :: .int re :: .int ig :: .ref (Y + 18) :: .ref (Y + 19) :: .ref (Y + 20) :: .ref (Y + 21) :: []) dX12_listing_2 fk_X12_83 hY (Nat.le_of_ble_eq_true rfl) rfl rfl ?_
  refine g_iload_n (pc := 5) 1 dX12_listing_5 rfl rfl ?_
  refine g_callS (pc := 6) [.int x] dX12_listing_6 cs_X12_277.1 cs_X12_277.2 rfl rfl (Nat.le_of_ble_eq_true rfl) (by decide) (by decide) (mp_isStore _) ?_
  rintro _ w9 (⟨rfl, hpi, e9⟩ | ⟨rfl, hpi, e9⟩)
  · refine GP.weq _ e9 ?_
    obtain ⟨i, rfl, hi⟩ := pl_of hpi
    refine n_if_ne (pc := 9) 19 dX12_listing_9 (by decide) (by omega) (fun hd9 => ?_) (fun hd9 => ?_)
    · refine g_aload_n (pc := 19) 0 dX12_listing_19 rfl rfl ?_
      refine g_iconst (pc := 20) (v := nI 0) dX12_listing_20 (by decide) ?_
      refine g_put (pc := 21) (.int (nI 0) :: .int st :: .ref (Y + 1) :: .ref (Y + 2) :: .ref (Y + 3) :: .ref (Y + 4) :: .int (nI pn) :: .ref (Y + 5) :: .ref (Y + 6) :: .ref (Y + 7) :: .int dg :: .ref (Y + 8) :: .int dd :: .ref (Y + 9) :: .ref (Y + 10) :: .ref (Y + 11) :: .ref (Y + 12) :: .int ld :: .int be :: .int ib :: .ref (Y + 13) :: .ref (Y + 14) :: .ref (Y + 15) :: .ref (Y + 16) :: .ref (Y + 17) :: .int (nI 0) :: .int fa :: .int re :: .int ig :: .ref (Y + 18) :: .ref (Y + 19) :: .ref (Y + 20) :: .ref (Y + 21) :: []) dX12_listing_21 fk_X12_249 (lk_eq hY) (Nat.le_of_ble_eq_true rfl) rfl rfl ?_
      refine GP.weq (w.set Y (.inr (11, .int (nI 0) :: .int st :: .ref (Y + 1) :: .ref (Y + 2) :: .ref (Y + 3) :: .ref (Y + 4) :: .int (nI pn) :: .ref (Y + 5) :: .ref (Y + 6) :: .ref (Y + 7) :: .int dg :: .ref (Y + 8) :: .int dd :: .ref (Y + 9) :: .ref (Y + 10) :: .ref (Y + 11) :: .ref (Y + 12) :: .int ld :: .int be :: .int ib :: .ref (Y + 13) :: .ref (Y + 14) :: .ref (Y + 15) :: .ref (Y + 16) :: .ref (Y + 17) :: .int (nI 0) :: .int fa :: .int re :: .int ig :: .ref (Y + 18) :: .ref (Y + 19) :: .ref (Y + 20) :: .ref (Y + 21) :: []))) (by rw [List.set_set]) ?_
      refine g_aload_n (pc := 24) 0 dX12_listing_24 rfl rfl ?_
      refine g_iload_n (pc := 25) 1 dX12_listing_25 rfl rfl ?_
      refine g_callV (pc := 26) [.int (nI i)] dX12_listing_26 cv_X12_119.1 cv_X12_119.2.1 cv_X12_119.2.2.1 cv_X12_119.2.2.2 (lk_eq hY) rfl rfl (Nat.le_of_ble_eq_true rfl) (by decide) (by decide) (mp_degreeOf _ (lk_eq hY) (lk_ne (show Y ≠ (Y + 2) by omega) a2) hi) ?_
      rintro _ w9 ⟨rfl, e9⟩
      refine GP.weq _ e9 ?_
      refine GP.ti (nI (sh.1 i).1) (row_dg b2 i hi) ?_
      refine g_istore_n (pc := 29) [(2, .int (nI ((sh.1 i).1))), (0, .ref Y), (1, .int (nI i))] dX12_listing_29 rfl (by decide) rfl ?_
      obtain ⟨w1, ew1⟩ : ∃ wy : Wd, wy = (w.set Y (.inr (11, .int (nI 0) :: .int st :: .ref (Y + 1) :: .ref (Y + 2) :: .ref (Y + 3) :: .ref (Y + 4) :: .int (nI pn) :: .ref (Y + 5) :: .ref (Y + 6) :: .ref (Y + 7) :: .int dg :: .ref (Y + 8) :: .int dd :: .ref (Y + 9) :: .ref (Y + 10) :: .ref (Y + 11) :: .ref (Y + 12) :: .int ld :: .int be :: .int ib :: .ref (Y + 13) :: .ref (Y + 14) :: .ref (Y + 15) :: .ref (Y + 16) :: .ref (Y + 17) :: .int (nI 0) :: .int fa :: .int re :: .int ig :: .ref (Y + 18) :: .ref (Y + 19) :: .ref (Y + 20) :: .ref (Y + 21) :: []))) := ⟨_, rfl⟩
      refine GP.weq w1 ew1.symm ?_
      have hMb : mdC w1 Y 0 tb fa st rf sh pn pk ps im := by rw [ew1]; exact ⟨⟨_, _, _, _, _, _, _, _, (lk_eq hY)⟩, ⟨⟨_, (lk_ne (show Y ≠ (Y + 1) by omega) a1), b1⟩, ⟨_, (lk_ne (show Y ≠ (Y + 2) by omega) a2), b2⟩, ⟨_, _, (lk_ne (show Y ≠ (Y + 3) by omega) a3), (lk_ne (show Y ≠ (Y + 4) by omega) a4), b3, b4⟩, ⟨_, _, (lk_ne (show Y ≠ (Y + 5) by omega) a5), (lk_ne (show Y ≠ (Y + 6) by omega) a6), b5⟩, ⟨_, (lk_ne (show Y ≠ (Y + 11) by omega) a11), b11⟩, ⟨_, (lk_ne (show Y ≠ (Y + 17) by omega) a17), ⟨Nat.zero_le _, fun i hi => absurd hi (by omega)⟩⟩⟩, ⟨_, _, _, _, _, _, _, _, _, _, _, (lk_ne (show Y ≠ (Y + 7) by omega) a7), (lk_ne (show Y ≠ (Y + 8) by omega) a8), (lk_ne (show Y ≠ (Y + 9) by omega) a9), (lk_ne (show Y ≠ (Y + 10) by omega) a10), (lk_ne (show Y ≠ (Y + 12) by omega) a12), (lk_ne (show Y ≠ (Y + 13) by omega) a13), (lk_ne (show Y ≠ (Y + 14) by omega) a14), (lk_ne (show Y ≠ (Y + 18) by omega) a18), (lk_ne (show Y ≠ (Y + 19) by omega) a19), (lk_ne (show Y ≠ (Y + 20) by omega) a20), (lk_ne (show Y ≠ (Y + 21) by omega) a21)⟩, ⟨_, _, (lk_ne (show Y ≠ (Y + 15) by omega) a15), (lk_ne (show Y ≠ (Y + 16) by omega) a16), b15⟩⟩
      have hFb : FR (modS Y) w w1 := by rw [ew1]; exact (FR.st (c' := .inr (11, .int (nI 0) :: .int st :: .ref (Y + 1) :: .ref (Y + 2) :: .ref (Y + 3) :: .ref (Y + 4) :: .int (nI pn) :: .ref (Y + 5) :: .ref (Y + 6) :: .ref (Y + 7) :: .int dg :: .ref (Y + 8) :: .int dd :: .ref (Y + 9) :: .ref (Y + 10) :: .ref (Y + 11) :: .ref (Y + 12) :: .int ld :: .int be :: .int ib :: .ref (Y + 13) :: .ref (Y + 14) :: .ref (Y + 15) :: .ref (Y + 16) :: .ref (Y + 17) :: .int (nI 0) :: .int fa :: .int re :: .int ig :: .ref (Y + 18) :: .ref (Y + 19) :: .ref (Y + 20) :: .ref (Y + 21) :: [])) FR.rf hY rfl (by unfold modS; omega))
      have c17b : w1[Y + 17]? = some (aI 2 400 g17) := by rw [ew1]; exact (lk_ne (show Y ≠ (Y + 17) by omega) a17)
      have c2b : w1[Y + 2]? = some (aI 0 626 g2) := by rw [ew1]; exact (lk_ne (show Y ≠ (Y + 2) by omega) a2)
      have cYb : w1[Y]? = some (.inr (11, .int (nI 0) :: .int st :: .ref (Y + 1) :: .ref (Y + 2) :: .ref (Y + 3) :: .ref (Y + 4) :: .int (nI pn) :: .ref (Y + 5) :: .ref (Y + 6) :: .ref (Y + 7) :: .int dg :: .ref (Y + 8) :: .int dd :: .ref (Y + 9) :: .ref (Y + 10) :: .ref (Y + 11) :: .ref (Y + 12) :: .int ld :: .int be :: .int ib :: .ref (Y + 13) :: .ref (Y + 14) :: .ref (Y + 15) :: .ref (Y + 16) :: .ref (Y + 17) :: .int (nI 0) :: .int fa :: .int re :: .int ig :: .ref (Y + 18) :: .ref (Y + 19) :: .ref (Y + 20) :: .ref (Y + 21) :: [])) := by rw [ew1]; exact (lk_eq hY)
      obtain ⟨⟨thb, dgb, ddb, ldb, beb, ibb, reb, igb, hYb⟩, ⟨⟨g1b, a1b, b1b⟩, ⟨g2b, a2b, b2b⟩, ⟨g3b, g4b, a3b, a4b, b3b, b4b⟩, ⟨g5b, g6b, a5b, a6b, b5b⟩, ⟨g11b, a11b, b11b⟩, ⟨g17b, a17b, b17b⟩⟩, ⟨g7b, g8b, g9b, g10b, g12b, g13b, g14b, g18b, g19b, g20b, g21b, a7b, a8b, a9b, a10b, a12b, a13b, a14b, a18b, a19b, a20b, a21b⟩, ⟨g15b, g16b, a15b, a16b, b15b⟩⟩ := id hMb
      refine GP.weq ((w1.set Y (.inr (11, .int (nI 0) :: .int st :: .ref (Y + 1) :: .ref (Y + 2) :: .ref (Y + 3) :: .ref (Y + 4) :: .int (nI pn) :: .ref (Y + 5) :: .ref (Y + 6) :: .ref (Y + 7) :: .int dg :: .ref (Y + 8) :: .int dd :: .ref (Y + 9) :: .ref (Y + 10) :: .ref (Y + 11) :: .ref (Y + 12) :: .int ld :: .int be :: .int ib :: .ref (Y + 13) :: .ref (Y + 14) :: .ref (Y + 15) :: .ref (Y + 16) :: .ref (Y + 17) :: .int (nI 0) :: .int fa :: .int re :: .int ig :: .ref (Y + 18) :: .ref (Y + 19) :: .ref (Y + 20) :: .ref (Y + 21) :: []))).set (Y + 17) (aI 2 400 g17)) (by rw [set_same (lk_ne (by omega) c17b), set_same cYb]) ?_
      refine GP.lsub _ (by simp only [nI_pred1]; simp) (lis_loop cYb c2b c17b b2 hi (fun s hs hsl => ?_) ((sh.1 i).1 + 1) (g17, 0) (Nat.le_refl _) (by rw [Nat.sub_self]; rfl))
      have hE := wAll_eq (F := (sh.1 i).2) (F' := (sh.1 i).2) (s := (g17, 0)) (t := (tb, 0)) (n := (sh.1 i).1) ⟨rfl, fun i hi => absurd hi (by have h0 : ((g17, 0) : (Nat → Int32) × Nat).2 = 0 := rfl; rw [h0] at hi; omega)⟩ (fun _ _ => rfl) ((sh.1 i).1 + 1)
      rw [← hs] at hE
      obtain ⟨hE1, hE2⟩ := hE
      have hSb : sbO s := by rw [hs]; exact sbO_A (fun i hi => absurd hi (by have h0 : ((g17, 0) : (Nat → Int32) × Nat).2 = 0 := rfl; rw [h0] at hi; omega)) _
      refine g_aload_n (pc := 127) 0 dX12_listing_127 rfl rfl ?_
      refine g_aload_n (pc := 128) 0 dX12_listing_128 rfl rfl ?_
      refine g_get (pc := 129) dX12_listing_129 fk_X12_249 (lk_ne (show (Y + 17) ≠ Y by omega) (lk_eq cYb)) rfl ?_
      refine g_callV (pc := 132) [.int (nI s.2)] dX12_listing_132 cv_X12_100.1 cv_X12_100.2.1 cv_X12_100.2.2.1 cv_X12_100.2.2.2 (lk_ne (show (Y + 17) ≠ Y by omega) (lk_eq cYb)) rfl rfl (Nat.le_of_ble_eq_true rfl) (by decide) (by decide) (mp_tell _ (lk_ne (show (Y + 17) ≠ Y by omega) (lk_eq cYb))) ?_
      rintro _ w9 ⟨rfl, e9⟩
      refine GP.weq _ e9 ?_
      refine GP.weq ((w1.set Y (.inr (11, .int (nI 0) :: .int (nI 0) :: .ref (Y + 1) :: .ref (Y + 2) :: .ref (Y + 3) :: .ref (Y + 4) :: .int (nI pn) :: .ref (Y + 5) :: .ref (Y + 6) :: .ref (Y + 7) :: .int dg :: .ref (Y + 8) :: .int dd :: .ref (Y + 9) :: .ref (Y + 10) :: .ref (Y + 11) :: .ref (Y + 12) :: .int ld :: .int be :: .int ib :: .ref (Y + 13) :: .ref (Y + 14) :: .ref (Y + 15) :: .ref (Y + 16) :: .ref (Y + 17) :: .int (nI s.2) :: .int fa :: .int re :: .int ig :: .ref (Y + 18) :: .ref (Y + 19) :: .ref (Y + 20) :: .ref (Y + 21) :: []))).set (Y + 17) (aI 2 400 s.1)) (by rw [show (((w1.set Y (.inr (11, .int (nI 0) :: .int st :: .ref (Y + 1) :: .ref (Y + 2) :: .ref (Y + 3) :: .ref (Y + 4) :: .int (nI pn) :: .ref (Y + 5) :: .ref (Y + 6) :: .ref (Y + 7) :: .int dg :: .ref (Y + 8) :: .int dd :: .ref (Y + 9) :: .ref (Y + 10) :: .ref (Y + 11) :: .ref (Y + 12) :: .int ld :: .int be :: .int ib :: .ref (Y + 13) :: .ref (Y + 14) :: .ref (Y + 15) :: .ref (Y + 16) :: .ref (Y + 17) :: .int (nI s.2) :: .int fa :: .int re :: .int ig :: .ref (Y + 18) :: .ref (Y + 19) :: .ref (Y + 20) :: .ref (Y + 21) :: []))).set (Y + 17) (aI 2 400 s.1)).set Y (.inr (11, .int (nI 0) :: .int (nI 0) :: .ref (Y + 1) :: .ref (Y + 2) :: .ref (Y + 3) :: .ref (Y + 4) :: .int (nI pn) :: .ref (Y + 5) :: .ref (Y + 6) :: .ref (Y + 7) :: .int dg :: .ref (Y + 8) :: .int dd :: .ref (Y + 9) :: .ref (Y + 10) :: .ref (Y + 11) :: .ref (Y + 12) :: .int ld :: .int be :: .int ib :: .ref (Y + 13) :: .ref (Y + 14) :: .ref (Y + 15) :: .ref (Y + 16) :: .ref (Y + 17) :: .int (nI s.2) :: .int fa :: .int re :: .int ig :: .ref (Y + 18) :: .ref (Y + 19) :: .ref (Y + 20) :: .ref (Y + 21) :: []))) = ((w1.set Y (.inr (11, .int (nI 0) :: .int (nI 0) :: .ref (Y + 1) :: .ref (Y + 2) :: .ref (Y + 3) :: .ref (Y + 4) :: .int (nI pn) :: .ref (Y + 5) :: .ref (Y + 6) :: .ref (Y + 7) :: .int dg :: .ref (Y + 8) :: .int dd :: .ref (Y + 9) :: .ref (Y + 10) :: .ref (Y + 11) :: .ref (Y + 12) :: .int ld :: .int be :: .int ib :: .ref (Y + 13) :: .ref (Y + 14) :: .ref (Y + 15) :: .ref (Y + 16) :: .ref (Y + 17) :: .int (nI s.2) :: .int fa :: .int re :: .int ig :: .ref (Y + 18) :: .ref (Y + 19) :: .ref (Y + 20) :: .ref (Y + 21) :: []))).set (Y + 17) (aI 2 400 s.1)) from by rw [List.set_comm _ _ (show (Y + 17) ≠ Y by omega), List.set_set]]) ?_
      have e17 : s.2 = (wAll (sh.1 i).2 (tb, 0) (sh.1 i).1 ((sh.1 i).1 + 1)).2 := hE1
      rw [e17]
      exact g_iret (pc := 135) dX12_listing_135 (Or.inr ⟨i, rfl, hi, rfl, ⟨⟨_, _, _, _, _, _, _, _, (lk_ne (show (Y + 17) ≠ Y by omega) (lk_eq cYb))⟩, ⟨⟨_, (lk_ne (show (Y + 17) ≠ (Y + 1) by omega) (lk_ne (show Y ≠ (Y + 1) by omega) a1b)), b1b⟩, ⟨_, (lk_ne (show (Y + 17) ≠ (Y + 2) by omega) (lk_ne (show Y ≠ (Y + 2) by omega) c2b)), b2⟩, ⟨_, _, (lk_ne (show (Y + 17) ≠ (Y + 3) by omega) (lk_ne (show Y ≠ (Y + 3) by omega) a3b)), (lk_ne (show (Y + 17) ≠ (Y + 4) by omega) (lk_ne (show Y ≠ (Y + 4) by omega) a4b)), b3b, b4b⟩, ⟨_, _, (lk_ne (show (Y + 17) ≠ (Y + 5) by omega) (lk_ne (show Y ≠ (Y + 5) by omega) a5b)), (lk_ne (show (Y + 17) ≠ (Y + 6) by omega) (lk_ne (show Y ≠ (Y + 6) by omega) a6b)), b5b⟩, ⟨_, (lk_ne (show (Y + 17) ≠ (Y + 11) by omega) (lk_ne (show Y ≠ (Y + 11) by omega) a11b)), b11b⟩, ⟨_, (lk_eq (lk_ne (show Y ≠ (Y + 17) by omega) c17b)), ⟨by show (wAll _ _ _ _).2 ≤ 400; rw [← hE1]; omega, fun i hi => ⟨hE2 i (by rw [hE1]; exact hi), hSb i (by rw [hE1]; exact hi)⟩⟩⟩⟩, ⟨_, _, _, _, _, _, _, _, _, _, _, (lk_ne (show (Y + 17) ≠ (Y + 7) by omega) (lk_ne (show Y ≠ (Y + 7) by omega) a7b)), (lk_ne (show (Y + 17) ≠ (Y + 8) by omega) (lk_ne (show Y ≠ (Y + 8) by omega) a8b)), (lk_ne (show (Y + 17) ≠ (Y + 9) by omega) (lk_ne (show Y ≠ (Y + 9) by omega) a9b)), (lk_ne (show (Y + 17) ≠ (Y + 10) by omega) (lk_ne (show Y ≠ (Y + 10) by omega) a10b)), (lk_ne (show (Y + 17) ≠ (Y + 12) by omega) (lk_ne (show Y ≠ (Y + 12) by omega) a12b)), (lk_ne (show (Y + 17) ≠ (Y + 13) by omega) (lk_ne (show Y ≠ (Y + 13) by omega) a13b)), (lk_ne (show (Y + 17) ≠ (Y + 14) by omega) (lk_ne (show Y ≠ (Y + 14) by omega) a14b)), (lk_ne (show (Y + 17) ≠ (Y + 18) by omega) (lk_ne (show Y ≠ (Y + 18) by omega) a18b)), (lk_ne (show (Y + 17) ≠ (Y + 19) by omega) (lk_ne (show Y ≠ (Y + 19) by omega) a19b)), (lk_ne (show (Y + 17) ≠ (Y + 20) by omega) (lk_ne (show Y ≠ (Y + 20) by omega) a20b)), (lk_ne (show (Y + 17) ≠ (Y + 21) by omega) (lk_ne (show Y ≠ (Y + 21) by omega) a21b))⟩, ⟨_, _, (lk_ne (show (Y + 17) ≠ (Y + 15) by omega) (lk_ne (show Y ≠ (Y + 15) by omega) a15b)), (lk_ne (show (Y + 17) ≠ (Y + 16) by omega) (lk_ne (show Y ≠ (Y + 16) by omega) a16b)), b15b⟩⟩, hFb.tr (FR.st (c' := aI 2 400 s.1) (FR.st (c' := .inr (11, .int (nI 0) :: .int (nI 0) :: .ref (Y + 1) :: .ref (Y + 2) :: .ref (Y + 3) :: .ref (Y + 4) :: .int (nI pn) :: .ref (Y + 5) :: .ref (Y + 6) :: .ref (Y + 7) :: .int dg :: .ref (Y + 8) :: .int dd :: .ref (Y + 9) :: .ref (Y + 10) :: .ref (Y + 11) :: .ref (Y + 12) :: .int ld :: .int be :: .int ib :: .ref (Y + 13) :: .ref (Y + 14) :: .ref (Y + 15) :: .ref (Y + 16) :: .ref (Y + 17) :: .int (nI ((wAll (sh.1 i).2 (tb, 0) (sh.1 i).1 ((sh.1 i).1 + 1)).2)) :: .int fa :: .int re :: .int ig :: .ref (Y + 18) :: .ref (Y + 19) :: .ref (Y + 20) :: .ref (Y + 21) :: [])) FR.rf cYb rfl (by unfold modS; omega)) (lk_ne (show Y ≠ (Y + 17) by omega) c17b) rfl (by unfold modS; omega))⟩)
    · exact absurd hd9 (by decide)
  · refine GP.weq _ e9 ?_
    refine n_if_ne (pc := 9) 19 dX12_listing_9 (by decide) (by omega) (fun hd9 => ?_) (fun hd9 => ?_)
    · exact absurd rfl hd9
    · refine g_aload_n (pc := 12) 0 dX12_listing_12 rfl rfl ?_
      refine g_bipush (pc := 13) (v := -2) dX12_listing_13 (by decide) ?_
      obtain ⟨wr, ewr⟩ : ∃ wy : Wd, wy = (w.set Y (.inr (11, .int (nI 0) :: .int st :: .ref (Y + 1) :: .ref (Y + 2) :: .ref (Y + 3) :: .ref (Y + 4) :: .int (nI pn) :: .ref (Y + 5) :: .ref (Y + 6) :: .ref (Y + 7) :: .int dg :: .ref (Y + 8) :: .int dd :: .ref (Y + 9) :: .ref (Y + 10) :: .ref (Y + 11) :: .ref (Y + 12) :: .int ld :: .int be :: .int ib :: .ref (Y + 13) :: .ref (Y + 14) :: .ref (Y + 15) :: .ref (Y + 16) :: .ref (Y + 17) :: .int (nI tl) :: .int fa :: .int re :: .int ig :: .ref (Y + 18) :: .ref (Y + 19) :: .ref (Y + 20) :: .ref (Y + 21) :: []))) := ⟨_, rfl⟩
      refine GP.weq wr ewr.symm ?_
      have hMr : mdC wr Y tl tb fa st rf sh pn pk ps im := by rw [ewr]; exact ⟨⟨_, _, _, _, _, _, _, _, (lk_eq hY)⟩, ⟨⟨_, (lk_ne (show Y ≠ (Y + 1) by omega) a1), b1⟩, ⟨_, (lk_ne (show Y ≠ (Y + 2) by omega) a2), b2⟩, ⟨_, _, (lk_ne (show Y ≠ (Y + 3) by omega) a3), (lk_ne (show Y ≠ (Y + 4) by omega) a4), b3, b4⟩, ⟨_, _, (lk_ne (show Y ≠ (Y + 5) by omega) a5), (lk_ne (show Y ≠ (Y + 6) by omega) a6), b5⟩, ⟨_, (lk_ne (show Y ≠ (Y + 11) by omega) a11), b11⟩, ⟨_, (lk_ne (show Y ≠ (Y + 17) by omega) a17), b17⟩⟩, ⟨_, _, _, _, _, _, _, _, _, _, _, (lk_ne (show Y ≠ (Y + 7) by omega) a7), (lk_ne (show Y ≠ (Y + 8) by omega) a8), (lk_ne (show Y ≠ (Y + 9) by omega) a9), (lk_ne (show Y ≠ (Y + 10) by omega) a10), (lk_ne (show Y ≠ (Y + 12) by omega) a12), (lk_ne (show Y ≠ (Y + 13) by omega) a13), (lk_ne (show Y ≠ (Y + 14) by omega) a14), (lk_ne (show Y ≠ (Y + 18) by omega) a18), (lk_ne (show Y ≠ (Y + 19) by omega) a19), (lk_ne (show Y ≠ (Y + 20) by omega) a20), (lk_ne (show Y ≠ (Y + 21) by omega) a21)⟩, ⟨_, _, (lk_ne (show Y ≠ (Y + 15) by omega) a15), (lk_ne (show Y ≠ (Y + 16) by omega) a16), b15⟩⟩
      have hFr : FR (modS Y) w wr := by rw [ewr]; exact (FR.st (c' := .inr (11, .int (nI 0) :: .int st :: .ref (Y + 1) :: .ref (Y + 2) :: .ref (Y + 3) :: .ref (Y + 4) :: .int (nI pn) :: .ref (Y + 5) :: .ref (Y + 6) :: .ref (Y + 7) :: .int dg :: .ref (Y + 8) :: .int dd :: .ref (Y + 9) :: .ref (Y + 10) :: .ref (Y + 11) :: .ref (Y + 12) :: .int ld :: .int be :: .int ib :: .ref (Y + 13) :: .ref (Y + 14) :: .ref (Y + 15) :: .ref (Y + 16) :: .ref (Y + 17) :: .int (nI tl) :: .int fa :: .int re :: .int ig :: .ref (Y + 18) :: .ref (Y + 19) :: .ref (Y + 20) :: .ref (Y + 21) :: [])) FR.rf hY rfl (by unfold modS; omega))
      refine g_callV (pc := 15) [.int (-2)] dX12_listing_15 cv_X12_96.1 cv_X12_96.2.1 cv_X12_96.2.2.1 cv_X12_96.2.2.2 (by rw [ewr]; exact (lk_eq hY)) rfl rfl (Nat.le_of_ble_eq_true rfl) (by decide) (by decide) (mq_refuse2 _ hMr) ?_
      rintro _ wq ⟨rfl, hR⟩
      exact g_iret (pc := 18) dX12_listing_18 (Or.inl ⟨hpi, ⟨rfl, hR.1, hFr.tr hR.2⟩⟩)
