/-! the reference: fault, status, tape, end, feed, undo, image, back -/
theorem sb_sb2 (x : Int32) : x.toInt8.toInt32.toInt8.toInt32 = sb x := sb_sb x
theorem L1 : (1 : Int64).toInt = 1 := by decide
abbrev BX12_fault (w0 : Wd) (Post : Option Value → Wd → Prop) (w : Wd) (pc : Nat) (ls : List (Nat × Value)) (st : List Value) : Prop := GP "fault" RX12 cX12_fault 1 (some .int) 0 0 none w0 Post w pc ls st
abbrev EX12_fault (As : List Value) (w : Wd) (Post : Option Value → Wd → Prop) : Prop := EP yX12_fault cX12_fault 1 (some .int) 0 As w Post
theorem mq_fault (w : Wd) {Y tl : Nat} {tb : Nat → Int32} {fa st : Int32} {rf : Nat → Nat} {sh : SV} {pn : Nat} {pk : Nat → Nat} {ps : Nat → SV} {im : Nat → Option SV} (hM : mdC w Y tl tb fa st rf sh pn pk ps im) : EX12_fault [.ref Y] w (fun r w' => r = some (.int fa) ∧ mdC w' Y tl tb fa st rf sh pn pk ps im ∧ FR (modS Y) w w') := by
  refine EP.of (plainFor_of_name (by decide)) [(0, .ref Y)] rfl (Nat.le_of_ble_eq_true rfl) (fun r wf h => by obtain ⟨rfl, -⟩ := h; trivial) ?_
  show BX12_fault w _ w 0 [(0, .ref Y)] []
  obtain ⟨⟨th, dg, dd, ld, be, ib, re, ig, hY⟩, ⟨⟨g1, a1, b1⟩, ⟨g2, a2, b2⟩, ⟨g3, g4, a3, a4, b3, b4⟩, ⟨g5, g6, a5, a6, b5⟩, ⟨g11, a11, b11⟩, ⟨g17, a17, b17⟩⟩, ⟨g7, g8, g9, g10, g12, g13, g14, g18, g19, g20, g21, a7, a8, a9, a10, a12, a13, a14, a18, a19, a20, a21⟩, ⟨g15, g16, a15, a16, b15⟩⟩ := id hM
  refine g_aload_n (pc := 0) 0 dX12_fault_0 rfl rfl ?_
  refine g_iconst (pc := 1) (v := nI 0) dX12_fault_1 (by decide) ?_
  refine g_put (pc := 2) (.int (nI 0) :: .int st :: .ref (Y + 1) :: .ref (Y + 2) :: .ref (Y + 3) :: .ref (Y + 4) :: .int (nI pn) :: .ref (Y + 5) :: .ref (Y + 6) :: .ref (Y + 7) :: .int dg :: .ref (Y + 8) :: .int dd :: .ref (Y + 9) :: .ref (Y + 10) :: .ref (Y + 11) :: .ref (Y + 12) :: .int ld :: .int be :: .int ib :: .ref (Y + 13) :: .ref (Y + 14) :: .ref (Y + 15) :: .ref (Y + 16) :: .ref (Y + 17) :: .int (nI tl) :: .int fa :: .int re :: .int ig :: .ref (Y + 18) :: .ref (Y + 19) :: .ref (Y + 20) :: .ref (Y + 21) :: []) dX12_fault_2 fk_X12_83 hY (Nat.le_of_ble_eq_true rfl) rfl rfl ?_
  refine g_aload_n (pc := 5) 0 dX12_fault_5 rfl rfl ?_
  refine g_get (pc := 6) dX12_fault_6 fk_X12_64 (lk_eq hY) rfl ?_
  exact g_iret (pc := 9) dX12_fault_9 (⟨rfl, ⟨⟨_, _, _, _, _, _, _, _, (lk_eq hY)⟩, ⟨⟨_, (lk_ne (show Y ≠ (Y + 1) by omega) a1), b1⟩, ⟨_, (lk_ne (show Y ≠ (Y + 2) by omega) a2), b2⟩, ⟨_, _, (lk_ne (show Y ≠ (Y + 3) by omega) a3), (lk_ne (show Y ≠ (Y + 4) by omega) a4), b3, b4⟩, ⟨_, _, (lk_ne (show Y ≠ (Y + 5) by omega) a5), (lk_ne (show Y ≠ (Y + 6) by omega) a6), b5⟩, ⟨_, (lk_ne (show Y ≠ (Y + 11) by omega) a11), b11⟩, ⟨_, (lk_ne (show Y ≠ (Y + 17) by omega) a17), b17⟩⟩, ⟨_, _, _, _, _, _, _, _, _, _, _, (lk_ne (show Y ≠ (Y + 7) by omega) a7), (lk_ne (show Y ≠ (Y + 8) by omega) a8), (lk_ne (show Y ≠ (Y + 9) by omega) a9), (lk_ne (show Y ≠ (Y + 10) by omega) a10), (lk_ne (show Y ≠ (Y + 12) by omega) a12), (lk_ne (show Y ≠ (Y + 13) by omega) a13), (lk_ne (show Y ≠ (Y + 14) by omega) a14), (lk_ne (show Y ≠ (Y + 18) by omega) a18), (lk_ne (show Y ≠ (Y + 19) by omega) a19), (lk_ne (show Y ≠ (Y + 20) by omega) a20), (lk_ne (show Y ≠ (Y + 21) by omega) a21)⟩, ⟨_, _, (lk_ne (show Y ≠ (Y + 15) by omega) a15), (lk_ne (show Y ≠ (Y + 16) by omega) a16), b15⟩⟩, (FR.st (c' := .inr (11, .int (nI 0) :: .int st :: .ref (Y + 1) :: .ref (Y + 2) :: .ref (Y + 3) :: .ref (Y + 4) :: .int (nI pn) :: .ref (Y + 5) :: .ref (Y + 6) :: .ref (Y + 7) :: .int dg :: .ref (Y + 8) :: .int dd :: .ref (Y + 9) :: .ref (Y + 10) :: .ref (Y + 11) :: .ref (Y + 12) :: .int ld :: .int be :: .int ib :: .ref (Y + 13) :: .ref (Y + 14) :: .ref (Y + 15) :: .ref (Y + 16) :: .ref (Y + 17) :: .int (nI tl) :: .int fa :: .int re :: .int ig :: .ref (Y + 18) :: .ref (Y + 19) :: .ref (Y + 20) :: .ref (Y + 21) :: [])) FR.rf hY rfl (by unfold modS; omega))⟩)
abbrev BX12_status (w0 : Wd) (Post : Option Value → Wd → Prop) (w : Wd) (pc : Nat) (ls : List (Nat × Value)) (st : List Value) : Prop := GP "status" RX12 cX12_status 1 (some .int) 0 0 none w0 Post w pc ls st
abbrev EX12_status (As : List Value) (w : Wd) (Post : Option Value → Wd → Prop) : Prop := EP yX12_status cX12_status 1 (some .int) 0 As w Post
theorem mq_status (w : Wd) {Y tl : Nat} {tb : Nat → Int32} {fa st : Int32} {rf : Nat → Nat} {sh : SV} {pn : Nat} {pk : Nat → Nat} {ps : Nat → SV} {im : Nat → Option SV} (hM : mdC w Y tl tb fa st rf sh pn pk ps im) : EX12_status [.ref Y] w (fun r w' => r = some (.int st) ∧ mdC w' Y tl tb fa st rf sh pn pk ps im ∧ FR (modS Y) w w') := by
  refine EP.of (plainFor_of_name (by decide)) [(0, .ref Y)] rfl (Nat.le_of_ble_eq_true rfl) (fun r wf h => by obtain ⟨rfl, -⟩ := h; trivial) ?_
  show BX12_status w _ w 0 [(0, .ref Y)] []
  obtain ⟨⟨th, dg, dd, ld, be, ib, re, ig, hY⟩, ⟨⟨g1, a1, b1⟩, ⟨g2, a2, b2⟩, ⟨g3, g4, a3, a4, b3, b4⟩, ⟨g5, g6, a5, a6, b5⟩, ⟨g11, a11, b11⟩, ⟨g17, a17, b17⟩⟩, ⟨g7, g8, g9, g10, g12, g13, g14, g18, g19, g20, g21, a7, a8, a9, a10, a12, a13, a14, a18, a19, a20, a21⟩, ⟨g15, g16, a15, a16, b15⟩⟩ := id hM
  refine g_aload_n (pc := 0) 0 dX12_status_0 rfl rfl ?_
  refine g_iconst (pc := 1) (v := nI 0) dX12_status_1 (by decide) ?_
  refine g_put (pc := 2) (.int (nI 0) :: .int st :: .ref (Y + 1) :: .ref (Y + 2) :: .ref (Y + 3) :: .ref (Y + 4) :: .int (nI pn) :: .ref (Y + 5) :: .ref (Y + 6) :: .ref (Y + 7) :: .int dg :: .ref (Y + 8) :: .int dd :: .ref (Y + 9) :: .ref (Y + 10) :: .ref (Y + 11) :: .ref (Y + 12) :: .int ld :: .int be :: .int ib :: .ref (Y + 13) :: .ref (Y + 14) :: .ref (Y + 15) :: .ref (Y + 16) :: .ref (Y + 17) :: .int (nI tl) :: .int fa :: .int re :: .int ig :: .ref (Y + 18) :: .ref (Y + 19) :: .ref (Y + 20) :: .ref (Y + 21) :: []) dX12_status_2 fk_X12_83 hY (Nat.le_of_ble_eq_true rfl) rfl rfl ?_
  refine g_aload_n (pc := 5) 0 dX12_status_5 rfl rfl ?_
  refine g_get (pc := 6) dX12_status_6 fk_X12_86 (lk_eq hY) rfl ?_
  exact g_iret (pc := 9) dX12_status_9 (⟨rfl, ⟨⟨_, _, _, _, _, _, _, _, (lk_eq hY)⟩, ⟨⟨_, (lk_ne (show Y ≠ (Y + 1) by omega) a1), b1⟩, ⟨_, (lk_ne (show Y ≠ (Y + 2) by omega) a2), b2⟩, ⟨_, _, (lk_ne (show Y ≠ (Y + 3) by omega) a3), (lk_ne (show Y ≠ (Y + 4) by omega) a4), b3, b4⟩, ⟨_, _, (lk_ne (show Y ≠ (Y + 5) by omega) a5), (lk_ne (show Y ≠ (Y + 6) by omega) a6), b5⟩, ⟨_, (lk_ne (show Y ≠ (Y + 11) by omega) a11), b11⟩, ⟨_, (lk_ne (show Y ≠ (Y + 17) by omega) a17), b17⟩⟩, ⟨_, _, _, _, _, _, _, _, _, _, _, (lk_ne (show Y ≠ (Y + 7) by omega) a7), (lk_ne (show Y ≠ (Y + 8) by omega) a8), (lk_ne (show Y ≠ (Y + 9) by omega) a9), (lk_ne (show Y ≠ (Y + 10) by omega) a10), (lk_ne (show Y ≠ (Y + 12) by omega) a12), (lk_ne (show Y ≠ (Y + 13) by omega) a13), (lk_ne (show Y ≠ (Y + 14) by omega) a14), (lk_ne (show Y ≠ (Y + 18) by omega) a18), (lk_ne (show Y ≠ (Y + 19) by omega) a19), (lk_ne (show Y ≠ (Y + 20) by omega) a20), (lk_ne (show Y ≠ (Y + 21) by omega) a21)⟩, ⟨_, _, (lk_ne (show Y ≠ (Y + 15) by omega) a15), (lk_ne (show Y ≠ (Y + 16) by omega) a16), b15⟩⟩, (FR.st (c' := .inr (11, .int (nI 0) :: .int st :: .ref (Y + 1) :: .ref (Y + 2) :: .ref (Y + 3) :: .ref (Y + 4) :: .int (nI pn) :: .ref (Y + 5) :: .ref (Y + 6) :: .ref (Y + 7) :: .int dg :: .ref (Y + 8) :: .int dd :: .ref (Y + 9) :: .ref (Y + 10) :: .ref (Y + 11) :: .ref (Y + 12) :: .int ld :: .int be :: .int ib :: .ref (Y + 13) :: .ref (Y + 14) :: .ref (Y + 15) :: .ref (Y + 16) :: .ref (Y + 17) :: .int (nI tl) :: .int fa :: .int re :: .int ig :: .ref (Y + 18) :: .ref (Y + 19) :: .ref (Y + 20) :: .ref (Y + 21) :: [])) FR.rf hY rfl (by unfold modS; omega))⟩)
abbrev BX12_tape (w0 : Wd) (Post : Option Value → Wd → Prop) (w : Wd) (pc : Nat) (ls : List (Nat × Value)) (st : List Value) : Prop := GP "tape" RX12 cX12_tape 2 (some .int) 1 39 none w0 Post w pc ls st
abbrev EX12_tape (As : List Value) (w : Wd) (Post : Option Value → Wd → Prop) : Prop := EP yX12_tape cX12_tape 2 (some .int) 1 As w Post
theorem mq_tape (w : Wd) {Y tl : Nat} {tb : Nat → Int32} {fa st : Int32} {rf : Nat → Nat} {sh : SV} {pn : Nat} {pk : Nat → Nat} {ps : Nat → SV} {im : Nat → Option SV} (hM : mdC w Y tl tb fa st rf sh pn pk ps im) {x : Int32} : EX12_tape [.ref Y, .int x] w (fun r w' => r = some (.int (if x < 0 then -1 else bAt tb tl x.toInt.toNat)) ∧ mdC w' Y tl tb fa st rf sh pn pk ps im ∧ FR (modS Y) w w') := by
  refine EP.of (plainFor_of_name (by decide)) [(0, .ref Y), (1, .int x)] rfl (Nat.le_of_ble_eq_true rfl) (fun r wf h => by obtain ⟨rfl, -⟩ := h; trivial) ?_
  show BX12_tape w _ w 0 [(0, .ref Y), (1, .int x)] []
  obtain ⟨⟨th, dg, dd, ld, be, ib, re, ig, hY⟩, ⟨⟨g1, a1, b1⟩, ⟨g2, a2, b2⟩, ⟨g3, g4, a3, a4, b3, b4⟩, ⟨g5, g6, a5, a6, b5⟩, ⟨g11, a11, b11⟩, ⟨g17, a17, b17⟩⟩, ⟨g7, g8, g9, g10, g12, g13, g14, g18, g19, g20, g21, a7, a8, a9, a10, a12, a13, a14, a18, a19, a20, a21⟩, ⟨g15, g16, a15, a16, b15⟩⟩ := id hM
  refine g_aload_n (pc := 0) 0 dX12_tape_0 rfl rfl ?_
  refine g_iconst (pc := 1) (v := nI 0) dX12_tape_1 (by decide) ?_
  refine g_put (pc := 2) (.int (nI 0) :: .int st :: .ref (Y + 1) :: .ref (Y + 2) :: .ref (Y + 3) :: .ref (Y + 4) :: .int (nI pn) :: .ref (Y + 5) :: .ref (Y + 6) :: .ref (Y + 7) :: .int dg :: .ref (Y + 8) :: .int dd :: .ref (Y + 9) :: .ref (Y + 10) :: .ref (Y + 11) :: .ref (Y + 12) :: .int ld :: .int be :: .int ib :: .ref (Y + 13) :: .ref (Y + 14) :: .ref (Y + 15) :: .ref (Y + 16) :: .ref (Y + 17) :: .int (nI tl) :: .int fa :: .int re :: .int ig :: .ref (Y + 18) :: .ref (Y + 19) :: .ref (Y + 20) :: .ref (Y + 21) :: []) dX12_tape_2 fk_X12_83 hY (Nat.le_of_ble_eq_true rfl) rfl rfl ?_
  refine g_iload_n (pc := 5) 1 dX12_tape_5 rfl rfl ?_
  refine g_i2l (pc := 6) dX12_tape_6 ?_
  refine g_lconst (pc := 7) (v := 0) dX12_tape_7 (by decide) ?_
  refine g_aload_n (pc := 8) 0 dX12_tape_8 rfl rfl ?_
  refine g_get (pc := 9) dX12_tape_9 fk_X12_249 (lk_eq hY) rfl ?_
  refine g_i2l (pc := 12) dX12_tape_12 ?_
  refine g_lconst (pc := 13) (v := 1) dX12_tape_13 (by decide) ?_
  refine g_lsub (pc := 14) dX12_tape_14 ?_
  have htl := b17.1
  have hlo : ((nI tl).toInt64 - 1).toInt = (tl : Int) - 1 := by rw [L_sub (by rw [IL, nI_toInt (by omega), L1]; omega) (by rw [IL, nI_toInt (by omega), L1]; omega), IL, nI_toInt (by omega), L1]
  refine g_callS (pc := 15) [.long x.toInt64, .long 0, .long (((nI tl).toInt64) - 1)] dX12_tape_15 cs_X12_103.1 cs_X12_103.2 rfl rfl (Nat.le_of_ble_eq_true rfl) (by decide) (by decide) (mp_in _) ?_
  rintro _ w9 (⟨rfl, hi, e9⟩ | ⟨rfl, hi, e9⟩)
  · refine GP.weq _ e9 ?_
    rw [IL, L00, hlo] at hi
    obtain ⟨i, rfl, hi8⟩ : ∃ i, x = nI i ∧ i < tl := ⟨x.toInt.toNat, nI_toNat hi.1, by omega⟩
    rw [nI_toInt (by omega)] at hi
    refine n_if_eq (pc := 18) 34 dX12_tape_18 (by decide) (by omega) (fun hd9 => ?_) (fun hd9 => ?_)
    · exact absurd hd9 (by decide)
    · refine g_aload_n (pc := 21) 0 dX12_tape_21 rfl rfl ?_
      refine g_get (pc := 22) dX12_tape_22 fk_X12_60 (lk_eq hY) rfl ?_
      refine g_iload_n (pc := 25) 1 dX12_tape_25 rfl rfl ?_
      refine g_bald (pc := 26) i dX12_tape_26 (lk_ne (show Y ≠ (Y + 17) by omega) a17) (IXn (by omega) (by omega)) ?_
      refine g_sipush (pc := 27) (v := nI 255) dX12_tape_27 (by decide) ?_
      refine g_iand (pc := 30) dX12_tape_30 ?_
      refine g_goto (pc := 31) 35 dX12_tape_31 (by decide) ?_
      refine GP.ti (nI (ub (g17 i))) (and255 _) ?_
      exact g_iret (pc := 35) dX12_tape_35 (⟨by rw [if_neg (by rw [Int32.lt_iff_toInt_lt, nI_toInt (by omega)]; show ¬ (i : Int) < 0; omega), nI_toInt (by omega)]; unfold bAt; rw [if_pos (show (i : Int).toNat < tl by omega), show (i : Int).toNat = i by omega, (b17.2 i hi8).1], ⟨⟨_, _, _, _, _, _, _, _, (lk_eq hY)⟩, ⟨⟨_, (lk_ne (show Y ≠ (Y + 1) by omega) a1), b1⟩, ⟨_, (lk_ne (show Y ≠ (Y + 2) by omega) a2), b2⟩, ⟨_, _, (lk_ne (show Y ≠ (Y + 3) by omega) a3), (lk_ne (show Y ≠ (Y + 4) by omega) a4), b3, b4⟩, ⟨_, _, (lk_ne (show Y ≠ (Y + 5) by omega) a5), (lk_ne (show Y ≠ (Y + 6) by omega) a6), b5⟩, ⟨_, (lk_ne (show Y ≠ (Y + 11) by omega) a11), b11⟩, ⟨_, (lk_ne (show Y ≠ (Y + 17) by omega) a17), b17⟩⟩, ⟨_, _, _, _, _, _, _, _, _, _, _, (lk_ne (show Y ≠ (Y + 7) by omega) a7), (lk_ne (show Y ≠ (Y + 8) by omega) a8), (lk_ne (show Y ≠ (Y + 9) by omega) a9), (lk_ne (show Y ≠ (Y + 10) by omega) a10), (lk_ne (show Y ≠ (Y + 12) by omega) a12), (lk_ne (show Y ≠ (Y + 13) by omega) a13), (lk_ne (show Y ≠ (Y + 14) by omega) a14), (lk_ne (show Y ≠ (Y + 18) by omega) a18), (lk_ne (show Y ≠ (Y + 19) by omega) a19), (lk_ne (show Y ≠ (Y + 20) by omega) a20), (lk_ne (show Y ≠ (Y + 21) by omega) a21)⟩, ⟨_, _, (lk_ne (show Y ≠ (Y + 15) by omega) a15), (lk_ne (show Y ≠ (Y + 16) by omega) a16), b15⟩⟩, (FR.st (c' := .inr (11, .int (nI 0) :: .int st :: .ref (Y + 1) :: .ref (Y + 2) :: .ref (Y + 3) :: .ref (Y + 4) :: .int (nI pn) :: .ref (Y + 5) :: .ref (Y + 6) :: .ref (Y + 7) :: .int dg :: .ref (Y + 8) :: .int dd :: .ref (Y + 9) :: .ref (Y + 10) :: .ref (Y + 11) :: .ref (Y + 12) :: .int ld :: .int be :: .int ib :: .ref (Y + 13) :: .ref (Y + 14) :: .ref (Y + 15) :: .ref (Y + 16) :: .ref (Y + 17) :: .int (nI tl) :: .int fa :: .int re :: .int ig :: .ref (Y + 18) :: .ref (Y + 19) :: .ref (Y + 20) :: .ref (Y + 21) :: [])) FR.rf hY rfl (by unfold modS; omega))⟩)
  · refine GP.weq _ e9 ?_
    rw [IL, L00, hlo] at hi
    refine n_if_eq (pc := 18) 34 dX12_tape_18 (by decide) (by omega) (fun hd9 => ?_) (fun hd9 => ?_)
    · refine g_iconst (pc := 34) (v := -1) dX12_tape_34 (by decide) ?_
      exact g_iret (pc := 35) dX12_tape_35 (⟨by by_cases h9 : x < 0; · { rw [if_pos h9] }; · { rw [if_neg h9]; unfold bAt; rw [Int32.lt_iff_toInt_lt] at h9; have h8 : ¬ x.toInt < 0 := h9; rw [if_neg (by omega)] }, ⟨⟨_, _, _, _, _, _, _, _, (lk_eq hY)⟩, ⟨⟨_, (lk_ne (show Y ≠ (Y + 1) by omega) a1), b1⟩, ⟨_, (lk_ne (show Y ≠ (Y + 2) by omega) a2), b2⟩, ⟨_, _, (lk_ne (show Y ≠ (Y + 3) by omega) a3), (lk_ne (show Y ≠ (Y + 4) by omega) a4), b3, b4⟩, ⟨_, _, (lk_ne (show Y ≠ (Y + 5) by omega) a5), (lk_ne (show Y ≠ (Y + 6) by omega) a6), b5⟩, ⟨_, (lk_ne (show Y ≠ (Y + 11) by omega) a11), b11⟩, ⟨_, (lk_ne (show Y ≠ (Y + 17) by omega) a17), b17⟩⟩, ⟨_, _, _, _, _, _, _, _, _, _, _, (lk_ne (show Y ≠ (Y + 7) by omega) a7), (lk_ne (show Y ≠ (Y + 8) by omega) a8), (lk_ne (show Y ≠ (Y + 9) by omega) a9), (lk_ne (show Y ≠ (Y + 10) by omega) a10), (lk_ne (show Y ≠ (Y + 12) by omega) a12), (lk_ne (show Y ≠ (Y + 13) by omega) a13), (lk_ne (show Y ≠ (Y + 14) by omega) a14), (lk_ne (show Y ≠ (Y + 18) by omega) a18), (lk_ne (show Y ≠ (Y + 19) by omega) a19), (lk_ne (show Y ≠ (Y + 20) by omega) a20), (lk_ne (show Y ≠ (Y + 21) by omega) a21)⟩, ⟨_, _, (lk_ne (show Y ≠ (Y + 15) by omega) a15), (lk_ne (show Y ≠ (Y + 16) by omega) a16), b15⟩⟩, (FR.st (c' := .inr (11, .int (nI 0) :: .int st :: .ref (Y + 1) :: .ref (Y + 2) :: .ref (Y + 3) :: .ref (Y + 4) :: .int (nI pn) :: .ref (Y + 5) :: .ref (Y + 6) :: .ref (Y + 7) :: .int dg :: .ref (Y + 8) :: .int dd :: .ref (Y + 9) :: .ref (Y + 10) :: .ref (Y + 11) :: .ref (Y + 12) :: .int ld :: .int be :: .int ib :: .ref (Y + 13) :: .ref (Y + 14) :: .ref (Y + 15) :: .ref (Y + 16) :: .ref (Y + 17) :: .int (nI tl) :: .int fa :: .int re :: .int ig :: .ref (Y + 18) :: .ref (Y + 19) :: .ref (Y + 20) :: .ref (Y + 21) :: [])) FR.rf hY rfl (by unfold modS; omega))⟩)
    · exact absurd rfl hd9
abbrev BX12_end (w0 : Wd) (Post : Option Value → Wd → Prop) (w : Wd) (pc : Nat) (ls : List (Nat × Value)) (st : List Value) : Prop := GP "end" RX12 cX12_end 2 (some .int) 1 39 none w0 Post w pc ls st
abbrev EX12_end (As : List Value) (w : Wd) (Post : Option Value → Wd → Prop) : Prop := EP yX12_end cX12_end 2 (some .int) 1 As w Post
theorem mq_end (w : Wd) {Y tl : Nat} {tb : Nat → Int32} {fa st : Int32} {rf : Nat → Nat} {sh : SV} {pn : Nat} {pk : Nat → Nat} {ps : Nat → SV} {im : Nat → Option SV} (hM : mdC w Y tl tb fa st rf sh pn pk ps im) {x : Int32} : EX12_end [.ref Y, .int x] w (fun r w' => (∃ n : Nat, x = nI n ∧ n ≤ tl ∧ r = some (.int (nI n)) ∧ mdC w' Y n tb fa st rf sh pn pk ps im ∧ FR (modS Y) w w') ∨ (¬ (0 ≤ x.toInt ∧ x.toInt ≤ tl) ∧ r = some (.int (-1)) ∧ mdC w' Y tl tb fa st rf sh pn pk ps im ∧ FR (modS Y) w w')) := by
  refine EP.of (plainFor_of_name (by decide)) [(0, .ref Y), (1, .int x)] rfl (Nat.le_of_ble_eq_true rfl) (fun r wf h => by rcases h with ⟨n, -, -, rfl, -⟩ | ⟨-, rfl, -⟩ <;> trivial) ?_
  show BX12_end w _ w 0 [(0, .ref Y), (1, .int x)] []
  obtain ⟨⟨th, dg, dd, ld, be, ib, re, ig, hY⟩, ⟨⟨g1, a1, b1⟩, ⟨g2, a2, b2⟩, ⟨g3, g4, a3, a4, b3, b4⟩, ⟨g5, g6, a5, a6, b5⟩, ⟨g11, a11, b11⟩, ⟨g17, a17, b17⟩⟩, ⟨g7, g8, g9, g10, g12, g13, g14, g18, g19, g20, g21, a7, a8, a9, a10, a12, a13, a14, a18, a19, a20, a21⟩, ⟨g15, g16, a15, a16, b15⟩⟩ := id hM
  refine g_aload_n (pc := 0) 0 dX12_end_0 rfl rfl ?_
  refine g_iconst (pc := 1) (v := nI 0) dX12_end_1 (by decide) ?_
  refine g_put (pc := 2) (.int (nI 0) :: .int st :: .ref (Y + 1) :: .ref (Y + 2) :: .ref (Y + 3) :: .ref (Y + 4) :: .int (nI pn) :: .ref (Y + 5) :: .ref (Y + 6) :: .ref (Y + 7) :: .int dg :: .ref (Y + 8) :: .int dd :: .ref (Y + 9) :: .ref (Y + 10) :: .ref (Y + 11) :: .ref (Y + 12) :: .int ld :: .int be :: .int ib :: .ref (Y + 13) :: .ref (Y + 14) :: .ref (Y + 15) :: .ref (Y + 16) :: .ref (Y + 17) :: .int (nI tl) :: .int fa :: .int re :: .int ig :: .ref (Y + 18) :: .ref (Y + 19) :: .ref (Y + 20) :: .ref (Y + 21) :: []) dX12_end_2 fk_X12_83 hY (Nat.le_of_ble_eq_true rfl) rfl rfl ?_
  refine g_iload_n (pc := 5) 1 dX12_end_5 rfl rfl ?_
  refine g_i2l (pc := 6) dX12_end_6 ?_
  refine g_lconst (pc := 7) (v := 0) dX12_end_7 (by decide) ?_
  refine g_aload_n (pc := 8) 0 dX12_end_8 rfl rfl ?_
  refine g_get (pc := 9) dX12_end_9 fk_X12_249 (lk_eq hY) rfl ?_
  refine g_i2l (pc := 12) dX12_end_12 ?_
  have htl := b17.1
  refine g_callS (pc := 13) [.long x.toInt64, .long 0, .long ((nI tl).toInt64)] dX12_end_13 cs_X12_103.1 cs_X12_103.2 rfl rfl (Nat.le_of_ble_eq_true rfl) (by decide) (by decide) (mp_in _) ?_
  rintro _ w9 (⟨rfl, hi, e9⟩ | ⟨rfl, hi, e9⟩)
  · refine GP.weq _ e9 ?_
    rw [IL, IL, L00, nI_toInt (by omega)] at hi
    obtain ⟨i, rfl, hi8⟩ : ∃ i, x = nI i ∧ i ≤ tl := ⟨x.toInt.toNat, nI_toNat hi.1, by omega⟩
    refine n_if_ne (pc := 16) 21 dX12_end_16 (by decide) (by omega) (fun hd9 => ?_) (fun hd9 => ?_)
    · refine g_aload_n (pc := 21) 0 dX12_end_21 rfl rfl ?_
      refine g_iload_n (pc := 22) 1 dX12_end_22 rfl rfl ?_
      refine g_put (pc := 23) (.int (nI 0) :: .int st :: .ref (Y + 1) :: .ref (Y + 2) :: .ref (Y + 3) :: .ref (Y + 4) :: .int (nI pn) :: .ref (Y + 5) :: .ref (Y + 6) :: .ref (Y + 7) :: .int dg :: .ref (Y + 8) :: .int dd :: .ref (Y + 9) :: .ref (Y + 10) :: .ref (Y + 11) :: .ref (Y + 12) :: .int ld :: .int be :: .int ib :: .ref (Y + 13) :: .ref (Y + 14) :: .ref (Y + 15) :: .ref (Y + 16) :: .ref (Y + 17) :: .int (nI i) :: .int fa :: .int re :: .int ig :: .ref (Y + 18) :: .ref (Y + 19) :: .ref (Y + 20) :: .ref (Y + 21) :: []) dX12_end_23 fk_X12_249 (lk_eq hY) (Nat.le_of_ble_eq_true rfl) rfl rfl ?_
      refine GP.weq (w.set Y (.inr (11, .int (nI 0) :: .int st :: .ref (Y + 1) :: .ref (Y + 2) :: .ref (Y + 3) :: .ref (Y + 4) :: .int (nI pn) :: .ref (Y + 5) :: .ref (Y + 6) :: .ref (Y + 7) :: .int dg :: .ref (Y + 8) :: .int dd :: .ref (Y + 9) :: .ref (Y + 10) :: .ref (Y + 11) :: .ref (Y + 12) :: .int ld :: .int be :: .int ib :: .ref (Y + 13) :: .ref (Y + 14) :: .ref (Y + 15) :: .ref (Y + 16) :: .ref (Y + 17) :: .int (nI i) :: .int fa :: .int re :: .int ig :: .ref (Y + 18) :: .ref (Y + 19) :: .ref (Y + 20) :: .ref (Y + 21) :: []))) (by rw [List.set_set]) ?_
      refine g_iload_n (pc := 26) 1 dX12_end_26 rfl rfl ?_
      exact g_iret (pc := 27) dX12_end_27 (Or.inl ⟨i, rfl, hi8, rfl, ⟨⟨_, _, _, _, _, _, _, _, (lk_eq hY)⟩, ⟨⟨_, (lk_ne (show Y ≠ (Y + 1) by omega) a1), b1⟩, ⟨_, (lk_ne (show Y ≠ (Y + 2) by omega) a2), b2⟩, ⟨_, _, (lk_ne (show Y ≠ (Y + 3) by omega) a3), (lk_ne (show Y ≠ (Y + 4) by omega) a4), b3, b4⟩, ⟨_, _, (lk_ne (show Y ≠ (Y + 5) by omega) a5), (lk_ne (show Y ≠ (Y + 6) by omega) a6), b5⟩, ⟨_, (lk_ne (show Y ≠ (Y + 11) by omega) a11), b11⟩, ⟨_, (lk_ne (show Y ≠ (Y + 17) by omega) a17), ⟨by omega, fun j hj => b17.2 j (by omega)⟩⟩⟩, ⟨_, _, _, _, _, _, _, _, _, _, _, (lk_ne (show Y ≠ (Y + 7) by omega) a7), (lk_ne (show Y ≠ (Y + 8) by omega) a8), (lk_ne (show Y ≠ (Y + 9) by omega) a9), (lk_ne (show Y ≠ (Y + 10) by omega) a10), (lk_ne (show Y ≠ (Y + 12) by omega) a12), (lk_ne (show Y ≠ (Y + 13) by omega) a13), (lk_ne (show Y ≠ (Y + 14) by omega) a14), (lk_ne (show Y ≠ (Y + 18) by omega) a18), (lk_ne (show Y ≠ (Y + 19) by omega) a19), (lk_ne (show Y ≠ (Y + 20) by omega) a20), (lk_ne (show Y ≠ (Y + 21) by omega) a21)⟩, ⟨_, _, (lk_ne (show Y ≠ (Y + 15) by omega) a15), (lk_ne (show Y ≠ (Y + 16) by omega) a16), b15⟩⟩, (FR.st (c' := .inr (11, .int (nI 0) :: .int st :: .ref (Y + 1) :: .ref (Y + 2) :: .ref (Y + 3) :: .ref (Y + 4) :: .int (nI pn) :: .ref (Y + 5) :: .ref (Y + 6) :: .ref (Y + 7) :: .int dg :: .ref (Y + 8) :: .int dd :: .ref (Y + 9) :: .ref (Y + 10) :: .ref (Y + 11) :: .ref (Y + 12) :: .int ld :: .int be :: .int ib :: .ref (Y + 13) :: .ref (Y + 14) :: .ref (Y + 15) :: .ref (Y + 16) :: .ref (Y + 17) :: .int (nI i) :: .int fa :: .int re :: .int ig :: .ref (Y + 18) :: .ref (Y + 19) :: .ref (Y + 20) :: .ref (Y + 21) :: [])) FR.rf hY rfl (by unfold modS; omega))⟩)
    · exact absurd hd9 (by decide)
  · refine GP.weq _ e9 ?_
    rw [IL, IL, L00, nI_toInt (by omega)] at hi
    refine n_if_ne (pc := 16) 21 dX12_end_16 (by decide) (by omega) (fun hd9 => ?_) (fun hd9 => ?_)
    · exact absurd rfl hd9
    · refine g_iconst (pc := 19) (v := -1) dX12_end_19 (by decide) ?_
      exact g_iret (pc := 20) dX12_end_20 (Or.inr ⟨hi, rfl, ⟨⟨_, _, _, _, _, _, _, _, (lk_eq hY)⟩, ⟨⟨_, (lk_ne (show Y ≠ (Y + 1) by omega) a1), b1⟩, ⟨_, (lk_ne (show Y ≠ (Y + 2) by omega) a2), b2⟩, ⟨_, _, (lk_ne (show Y ≠ (Y + 3) by omega) a3), (lk_ne (show Y ≠ (Y + 4) by omega) a4), b3, b4⟩, ⟨_, _, (lk_ne (show Y ≠ (Y + 5) by omega) a5), (lk_ne (show Y ≠ (Y + 6) by omega) a6), b5⟩, ⟨_, (lk_ne (show Y ≠ (Y + 11) by omega) a11), b11⟩, ⟨_, (lk_ne (show Y ≠ (Y + 17) by omega) a17), b17⟩⟩, ⟨_, _, _, _, _, _, _, _, _, _, _, (lk_ne (show Y ≠ (Y + 7) by omega) a7), (lk_ne (show Y ≠ (Y + 8) by omega) a8), (lk_ne (show Y ≠ (Y + 9) by omega) a9), (lk_ne (show Y ≠ (Y + 10) by omega) a10), (lk_ne (show Y ≠ (Y + 12) by omega) a12), (lk_ne (show Y ≠ (Y + 13) by omega) a13), (lk_ne (show Y ≠ (Y + 14) by omega) a14), (lk_ne (show Y ≠ (Y + 18) by omega) a18), (lk_ne (show Y ≠ (Y + 19) by omega) a19), (lk_ne (show Y ≠ (Y + 20) by omega) a20), (lk_ne (show Y ≠ (Y + 21) by omega) a21)⟩, ⟨_, _, (lk_ne (show Y ≠ (Y + 15) by omega) a15), (lk_ne (show Y ≠ (Y + 16) by omega) a16), b15⟩⟩, (FR.st (c' := .inr (11, .int (nI 0) :: .int st :: .ref (Y + 1) :: .ref (Y + 2) :: .ref (Y + 3) :: .ref (Y + 4) :: .int (nI pn) :: .ref (Y + 5) :: .ref (Y + 6) :: .ref (Y + 7) :: .int dg :: .ref (Y + 8) :: .int dd :: .ref (Y + 9) :: .ref (Y + 10) :: .ref (Y + 11) :: .ref (Y + 12) :: .int ld :: .int be :: .int ib :: .ref (Y + 13) :: .ref (Y + 14) :: .ref (Y + 15) :: .ref (Y + 16) :: .ref (Y + 17) :: .int (nI tl) :: .int fa :: .int re :: .int ig :: .ref (Y + 18) :: .ref (Y + 19) :: .ref (Y + 20) :: .ref (Y + 21) :: [])) FR.rf hY rfl (by unfold modS; omega))⟩)
abbrev BX12_comes (w0 : Wd) (Post : Option Value → Wd → Prop) (w : Wd) (pc : Nat) (ls : List (Nat × Value)) (st : List Value) : Prop := GP "comes" RX12 cX12_comes 3 none 0 0 none w0 Post w pc ls st
abbrev EX12_comes (As : List Value) (w : Wd) (Post : Option Value → Wd → Prop) : Prop := EP yX12_comes cX12_comes 3 none 0 As w Post
theorem mp_comes (w : Wd) {Y : Nat} {th st nu dg dd ld be ib fa re ig : Int32} {s : (Nat → Int32) × Nat} (hY : w[Y]? = some (oM Y th st nu dg dd ld be ib (nI s.2) fa re ig)) (h17 : w[Y + 17]? = some (aI 2 400 s.1)) {x : Int32} (hs : s.2 + 4 ≤ 400) : EX12_comes [.ref Y, .int x] w (fun r w' => r = none ∧ w' = (w.set (Y + 17) (aI 2 400 (wW s x).1)).set Y (oM Y th st nu dg dd ld be ib (nI (wW s x).2) fa re ig)) := by
  refine EP.of (plainFor_of_name (by decide)) [(0, .ref Y), (1, .int x)] rfl (Nat.le_of_ble_eq_true rfl) (fun r wf h => by obtain ⟨rfl, -⟩ := h; trivial) ?_
  show BX12_comes w _ w 0 [(0, .ref Y), (1, .int x)] []
  refine g_bipush (pc := 0) (v := nI 24) dX12_comes_0 (by decide) ?_
  refine g_istore_n (pc := 2) [(2, .int (nI 24)), (0, .ref Y), (1, .int x)] dX12_comes_2 rfl (by decide) rfl ?_
  refine g_iload_n (pc := 3) 0 dX12_comes_3 rfl rfl ?_
  refine n_if_lt (pc := 4) 36 dX12_comes_4 (by decide) (by omega) ?_
  refine g_aload_n (pc := 7) 1 dX12_comes_7 rfl rfl ?_
  refine g_get (pc := 8) dX12_comes_8 fk_X12_60 hY rfl ?_
  refine g_aload_n (pc := 11) 1 dX12_comes_11 rfl rfl ?_
  refine g_get (pc := 12) dX12_comes_12 fk_X12_249 hY rfl ?_
  refine g_iload_n (pc := 15) 2 dX12_comes_15 rfl rfl ?_
  refine g_iload_n (pc := 16) 0 dX12_comes_16 rfl rfl ?_
  refine g_iushr (pc := 17) dX12_comes_17 ?_
  refine g_i2b (pc := 18) dX12_comes_18 ?_
  refine g_bast (pc := 19) s.2 dX12_comes_19 h17 (IXn (by omega) (by omega)) ?_
  refine g_aload_n (pc := 20) 1 dX12_comes_20 rfl rfl ?_
  refine g_dup (pc := 21) dX12_comes_21 rfl ?_
  refine g_get (pc := 22) dX12_comes_22 fk_X12_249 (lk_ne (show (Y + 17) ≠ Y by omega) hY) rfl ?_
  refine g_iconst (pc := 25) (v := nI 1) dX12_comes_25 (by decide) ?_
  refine n_iadd (pc := 26) dX12_comes_26 ?_
  refine g_put (pc := 27) (.int th :: .int st :: .ref (Y + 1) :: .ref (Y + 2) :: .ref (Y + 3) :: .ref (Y + 4) :: .int nu :: .ref (Y + 5) :: .ref (Y + 6) :: .ref (Y + 7) :: .int dg :: .ref (Y + 8) :: .int dd :: .ref (Y + 9) :: .ref (Y + 10) :: .ref (Y + 11) :: .ref (Y + 12) :: .int ld :: .int be :: .int ib :: .ref (Y + 13) :: .ref (Y + 14) :: .ref (Y + 15) :: .ref (Y + 16) :: .ref (Y + 17) :: .int (nI (s.2 + 1)) :: .int fa :: .int re :: .int ig :: .ref (Y + 18) :: .ref (Y + 19) :: .ref (Y + 20) :: .ref (Y + 21) :: []) dX12_comes_27 fk_X12_249 (lk_ne (show (Y + 17) ≠ Y by omega) hY) (Nat.le_of_ble_eq_true rfl) rfl rfl ?_
  refine n_idec (pc := 30) (c := 8) [(2, .int (nI (24 - 8))), (0, .ref Y), (1, .int x)] 0 dX12_comes_30 rfl (by decide) (by omega) (by decide) rfl ?_
  refine GP.lsub [(2, .int (nI 16)), (0, .ref Y), (1, .int x)] (by simp) ?_
  refine g_goto (pc := 33) 3 dX12_comes_33 (by decide) ?_
  refine g_iload_n (pc := 3) 0 dX12_comes_3 rfl rfl ?_
  refine n_if_lt (pc := 4) 36 dX12_comes_4 (by decide) (by omega) ?_
  refine g_aload_n (pc := 7) 1 dX12_comes_7 rfl rfl ?_
  refine g_get (pc := 8) dX12_comes_8 fk_X12_60 (lk_eq (lk_ne (show (Y + 17) ≠ Y by omega) hY)) rfl ?_
  refine g_aload_n (pc := 11) 1 dX12_comes_11 rfl rfl ?_
  refine g_get (pc := 12) dX12_comes_12 fk_X12_249 (lk_eq (lk_ne (show (Y + 17) ≠ Y by omega) hY)) rfl ?_
  refine g_iload_n (pc := 15) 2 dX12_comes_15 rfl rfl ?_
  refine g_iload_n (pc := 16) 0 dX12_comes_16 rfl rfl ?_
  refine g_iushr (pc := 17) dX12_comes_17 ?_
  refine g_i2b (pc := 18) dX12_comes_18 ?_
  refine g_bast (pc := 19) (s.2 + 1) dX12_comes_19 (lk_ne (show Y ≠ (Y + 17) by omega) (lk_eq h17)) (IXn (by omega) (by omega)) ?_
  refine GP.weq ((w.set (Y + 17) (aI 2 400 (upd (upd s.1 s.2 (((x.toUInt32 >>> ((nI 24).toUInt32 &&& Int32.toUInt32 31)).toInt32).toInt8.toInt32).toInt8.toInt32) (s.2 + 1) (((x.toUInt32 >>> ((nI 16).toUInt32 &&& Int32.toUInt32 31)).toInt32).toInt8.toInt32).toInt8.toInt32))).set Y (.inr (11, .int th :: .int st :: .ref (Y + 1) :: .ref (Y + 2) :: .ref (Y + 3) :: .ref (Y + 4) :: .int nu :: .ref (Y + 5) :: .ref (Y + 6) :: .ref (Y + 7) :: .int dg :: .ref (Y + 8) :: .int dd :: .ref (Y + 9) :: .ref (Y + 10) :: .ref (Y + 11) :: .ref (Y + 12) :: .int ld :: .int be :: .int ib :: .ref (Y + 13) :: .ref (Y + 14) :: .ref (Y + 15) :: .ref (Y + 16) :: .ref (Y + 17) :: .int (nI (s.2 + 1)) :: .int fa :: .int re :: .int ig :: .ref (Y + 18) :: .ref (Y + 19) :: .ref (Y + 20) :: .ref (Y + 21) :: []))) (by rw [List.set_comm _ _ (show Y ≠ (Y + 17) by omega), List.set_set]) ?_
  refine g_aload_n (pc := 20) 1 dX12_comes_20 rfl rfl ?_
  refine g_dup (pc := 21) dX12_comes_21 rfl ?_
  refine g_get (pc := 22) dX12_comes_22 fk_X12_249 (lk_eq (lk_ne (show (Y + 17) ≠ Y by omega) hY)) rfl ?_
  refine g_iconst (pc := 25) (v := nI 1) dX12_comes_25 (by decide) ?_
  refine n_iadd (pc := 26) dX12_comes_26 ?_
  refine g_put (pc := 27) (.int th :: .int st :: .ref (Y + 1) :: .ref (Y + 2) :: .ref (Y + 3) :: .ref (Y + 4) :: .int nu :: .ref (Y + 5) :: .ref (Y + 6) :: .ref (Y + 7) :: .int dg :: .ref (Y + 8) :: .int dd :: .ref (Y + 9) :: .ref (Y + 10) :: .ref (Y + 11) :: .ref (Y + 12) :: .int ld :: .int be :: .int ib :: .ref (Y + 13) :: .ref (Y + 14) :: .ref (Y + 15) :: .ref (Y + 16) :: .ref (Y + 17) :: .int (nI ((s.2 + 1) + 1)) :: .int fa :: .int re :: .int ig :: .ref (Y + 18) :: .ref (Y + 19) :: .ref (Y + 20) :: .ref (Y + 21) :: []) dX12_comes_27 fk_X12_249 (lk_eq (lk_ne (show (Y + 17) ≠ Y by omega) hY)) (Nat.le_of_ble_eq_true rfl) rfl rfl ?_
  refine GP.weq ((w.set (Y + 17) (aI 2 400 (upd (upd s.1 s.2 (((x.toUInt32 >>> ((nI 24).toUInt32 &&& Int32.toUInt32 31)).toInt32).toInt8.toInt32).toInt8.toInt32) (s.2 + 1) (((x.toUInt32 >>> ((nI 16).toUInt32 &&& Int32.toUInt32 31)).toInt32).toInt8.toInt32).toInt8.toInt32))).set Y (.inr (11, .int th :: .int st :: .ref (Y + 1) :: .ref (Y + 2) :: .ref (Y + 3) :: .ref (Y + 4) :: .int nu :: .ref (Y + 5) :: .ref (Y + 6) :: .ref (Y + 7) :: .int dg :: .ref (Y + 8) :: .int dd :: .ref (Y + 9) :: .ref (Y + 10) :: .ref (Y + 11) :: .ref (Y + 12) :: .int ld :: .int be :: .int ib :: .ref (Y + 13) :: .ref (Y + 14) :: .ref (Y + 15) :: .ref (Y + 16) :: .ref (Y + 17) :: .int (nI ((s.2 + 1) + 1)) :: .int fa :: .int re :: .int ig :: .ref (Y + 18) :: .ref (Y + 19) :: .ref (Y + 20) :: .ref (Y + 21) :: []))) (by rw [List.set_set]) ?_
  refine n_idec (pc := 30) (c := 8) [(2, .int (nI (16 - 8))), (0, .ref Y), (1, .int x)] 0 dX12_comes_30 rfl (by decide) (by omega) (by decide) rfl ?_
  refine GP.lsub [(2, .int (nI 8)), (0, .ref Y), (1, .int x)] (by simp) ?_
  refine g_goto (pc := 33) 3 dX12_comes_33 (by decide) ?_
  refine g_iload_n (pc := 3) 0 dX12_comes_3 rfl rfl ?_
  refine n_if_lt (pc := 4) 36 dX12_comes_4 (by decide) (by omega) ?_
  refine g_aload_n (pc := 7) 1 dX12_comes_7 rfl rfl ?_
  refine g_get (pc := 8) dX12_comes_8 fk_X12_60 (lk_eq (lk_ne (show (Y + 17) ≠ Y by omega) hY)) rfl ?_
  refine g_aload_n (pc := 11) 1 dX12_comes_11 rfl rfl ?_
  refine g_get (pc := 12) dX12_comes_12 fk_X12_249 (lk_eq (lk_ne (show (Y + 17) ≠ Y by omega) hY)) rfl ?_
  refine g_iload_n (pc := 15) 2 dX12_comes_15 rfl rfl ?_
  refine g_iload_n (pc := 16) 0 dX12_comes_16 rfl rfl ?_
  refine g_iushr (pc := 17) dX12_comes_17 ?_
  refine g_i2b (pc := 18) dX12_comes_18 ?_
  refine g_bast (pc := 19) ((s.2 + 1) + 1) dX12_comes_19 (lk_ne (show Y ≠ (Y + 17) by omega) (lk_eq h17)) (IXn (by omega) (by omega)) ?_
  refine GP.weq ((w.set (Y + 17) (aI 2 400 (upd (upd (upd s.1 s.2 (((x.toUInt32 >>> ((nI 24).toUInt32 &&& Int32.toUInt32 31)).toInt32).toInt8.toInt32).toInt8.toInt32) (s.2 + 1) (((x.toUInt32 >>> ((nI 16).toUInt32 &&& Int32.toUInt32 31)).toInt32).toInt8.toInt32).toInt8.toInt32) ((s.2 + 1) + 1) (((x.toUInt32 >>> ((nI 8).toUInt32 &&& Int32.toUInt32 31)).toInt32).toInt8.toInt32).toInt8.toInt32))).set Y (.inr (11, .int th :: .int st :: .ref (Y + 1) :: .ref (Y + 2) :: .ref (Y + 3) :: .ref (Y + 4) :: .int nu :: .ref (Y + 5) :: .ref (Y + 6) :: .ref (Y + 7) :: .int dg :: .ref (Y + 8) :: .int dd :: .ref (Y + 9) :: .ref (Y + 10) :: .ref (Y + 11) :: .ref (Y + 12) :: .int ld :: .int be :: .int ib :: .ref (Y + 13) :: .ref (Y + 14) :: .ref (Y + 15) :: .ref (Y + 16) :: .ref (Y + 17) :: .int (nI ((s.2 + 1) + 1)) :: .int fa :: .int re :: .int ig :: .ref (Y + 18) :: .ref (Y + 19) :: .ref (Y + 20) :: .ref (Y + 21) :: []))) (by rw [List.set_comm _ _ (show Y ≠ (Y + 17) by omega), List.set_set]) ?_
  refine g_aload_n (pc := 20) 1 dX12_comes_20 rfl rfl ?_
  refine g_dup (pc := 21) dX12_comes_21 rfl ?_
  refine g_get (pc := 22) dX12_comes_22 fk_X12_249 (lk_eq (lk_ne (show (Y + 17) ≠ Y by omega) hY)) rfl ?_
  refine g_iconst (pc := 25) (v := nI 1) dX12_comes_25 (by decide) ?_
  refine n_iadd (pc := 26) dX12_comes_26 ?_
  refine g_put (pc := 27) (.int th :: .int st :: .ref (Y + 1) :: .ref (Y + 2) :: .ref (Y + 3) :: .ref (Y + 4) :: .int nu :: .ref (Y + 5) :: .ref (Y + 6) :: .ref (Y + 7) :: .int dg :: .ref (Y + 8) :: .int dd :: .ref (Y + 9) :: .ref (Y + 10) :: .ref (Y + 11) :: .ref (Y + 12) :: .int ld :: .int be :: .int ib :: .ref (Y + 13) :: .ref (Y + 14) :: .ref (Y + 15) :: .ref (Y + 16) :: .ref (Y + 17) :: .int (nI (((s.2 + 1) + 1) + 1)) :: .int fa :: .int re :: .int ig :: .ref (Y + 18) :: .ref (Y + 19) :: .ref (Y + 20) :: .ref (Y + 21) :: []) dX12_comes_27 fk_X12_249 (lk_eq (lk_ne (show (Y + 17) ≠ Y by omega) hY)) (Nat.le_of_ble_eq_true rfl) rfl rfl ?_
  refine GP.weq ((w.set (Y + 17) (aI 2 400 (upd (upd (upd s.1 s.2 (((x.toUInt32 >>> ((nI 24).toUInt32 &&& Int32.toUInt32 31)).toInt32).toInt8.toInt32).toInt8.toInt32) (s.2 + 1) (((x.toUInt32 >>> ((nI 16).toUInt32 &&& Int32.toUInt32 31)).toInt32).toInt8.toInt32).toInt8.toInt32) ((s.2 + 1) + 1) (((x.toUInt32 >>> ((nI 8).toUInt32 &&& Int32.toUInt32 31)).toInt32).toInt8.toInt32).toInt8.toInt32))).set Y (.inr (11, .int th :: .int st :: .ref (Y + 1) :: .ref (Y + 2) :: .ref (Y + 3) :: .ref (Y + 4) :: .int nu :: .ref (Y + 5) :: .ref (Y + 6) :: .ref (Y + 7) :: .int dg :: .ref (Y + 8) :: .int dd :: .ref (Y + 9) :: .ref (Y + 10) :: .ref (Y + 11) :: .ref (Y + 12) :: .int ld :: .int be :: .int ib :: .ref (Y + 13) :: .ref (Y + 14) :: .ref (Y + 15) :: .ref (Y + 16) :: .ref (Y + 17) :: .int (nI (((s.2 + 1) + 1) + 1)) :: .int fa :: .int re :: .int ig :: .ref (Y + 18) :: .ref (Y + 19) :: .ref (Y + 20) :: .ref (Y + 21) :: []))) (by rw [List.set_set]) ?_
  refine n_idec (pc := 30) (c := 8) [(2, .int (nI (8 - 8))), (0, .ref Y), (1, .int x)] 0 dX12_comes_30 rfl (by decide) (by omega) (by decide) rfl ?_
  refine GP.lsub [(2, .int (nI 0)), (0, .ref Y), (1, .int x)] (by simp) ?_
  refine g_goto (pc := 33) 3 dX12_comes_33 (by decide) ?_
  refine g_iload_n (pc := 3) 0 dX12_comes_3 rfl rfl ?_
  refine n_if_lt (pc := 4) 36 dX12_comes_4 (by decide) (by omega) ?_
  refine g_aload_n (pc := 7) 1 dX12_comes_7 rfl rfl ?_
  refine g_get (pc := 8) dX12_comes_8 fk_X12_60 (lk_eq (lk_ne (show (Y + 17) ≠ Y by omega) hY)) rfl ?_
  refine g_aload_n (pc := 11) 1 dX12_comes_11 rfl rfl ?_
  refine g_get (pc := 12) dX12_comes_12 fk_X12_249 (lk_eq (lk_ne (show (Y + 17) ≠ Y by omega) hY)) rfl ?_
  refine g_iload_n (pc := 15) 2 dX12_comes_15 rfl rfl ?_
  refine g_iload_n (pc := 16) 0 dX12_comes_16 rfl rfl ?_
  refine g_iushr (pc := 17) dX12_comes_17 ?_
  refine g_i2b (pc := 18) dX12_comes_18 ?_
  refine g_bast (pc := 19) (((s.2 + 1) + 1) + 1) dX12_comes_19 (lk_ne (show Y ≠ (Y + 17) by omega) (lk_eq h17)) (IXn (by omega) (by omega)) ?_
  refine GP.weq ((w.set (Y + 17) (aI 2 400 (upd (upd (upd (upd s.1 s.2 (((x.toUInt32 >>> ((nI 24).toUInt32 &&& Int32.toUInt32 31)).toInt32).toInt8.toInt32).toInt8.toInt32) (s.2 + 1) (((x.toUInt32 >>> ((nI 16).toUInt32 &&& Int32.toUInt32 31)).toInt32).toInt8.toInt32).toInt8.toInt32) ((s.2 + 1) + 1) (((x.toUInt32 >>> ((nI 8).toUInt32 &&& Int32.toUInt32 31)).toInt32).toInt8.toInt32).toInt8.toInt32) (((s.2 + 1) + 1) + 1) (((x.toUInt32 >>> ((nI 0).toUInt32 &&& Int32.toUInt32 31)).toInt32).toInt8.toInt32).toInt8.toInt32))).set Y (.inr (11, .int th :: .int st :: .ref (Y + 1) :: .ref (Y + 2) :: .ref (Y + 3) :: .ref (Y + 4) :: .int nu :: .ref (Y + 5) :: .ref (Y + 6) :: .ref (Y + 7) :: .int dg :: .ref (Y + 8) :: .int dd :: .ref (Y + 9) :: .ref (Y + 10) :: .ref (Y + 11) :: .ref (Y + 12) :: .int ld :: .int be :: .int ib :: .ref (Y + 13) :: .ref (Y + 14) :: .ref (Y + 15) :: .ref (Y + 16) :: .ref (Y + 17) :: .int (nI (((s.2 + 1) + 1) + 1)) :: .int fa :: .int re :: .int ig :: .ref (Y + 18) :: .ref (Y + 19) :: .ref (Y + 20) :: .ref (Y + 21) :: []))) (by rw [List.set_comm _ _ (show Y ≠ (Y + 17) by omega), List.set_set]) ?_
  refine g_aload_n (pc := 20) 1 dX12_comes_20 rfl rfl ?_
  refine g_dup (pc := 21) dX12_comes_21 rfl ?_
  refine g_get (pc := 22) dX12_comes_22 fk_X12_249 (lk_eq (lk_ne (show (Y + 17) ≠ Y by omega) hY)) rfl ?_
  refine g_iconst (pc := 25) (v := nI 1) dX12_comes_25 (by decide) ?_
  refine n_iadd (pc := 26) dX12_comes_26 ?_
  refine g_put (pc := 27) (.int th :: .int st :: .ref (Y + 1) :: .ref (Y + 2) :: .ref (Y + 3) :: .ref (Y + 4) :: .int nu :: .ref (Y + 5) :: .ref (Y + 6) :: .ref (Y + 7) :: .int dg :: .ref (Y + 8) :: .int dd :: .ref (Y + 9) :: .ref (Y + 10) :: .ref (Y + 11) :: .ref (Y + 12) :: .int ld :: .int be :: .int ib :: .ref (Y + 13) :: .ref (Y + 14) :: .ref (Y + 15) :: .ref (Y + 16) :: .ref (Y + 17) :: .int (nI ((((s.2 + 1) + 1) + 1) + 1)) :: .int fa :: .int re :: .int ig :: .ref (Y + 18) :: .ref (Y + 19) :: .ref (Y + 20) :: .ref (Y + 21) :: []) dX12_comes_27 fk_X12_249 (lk_eq (lk_ne (show (Y + 17) ≠ Y by omega) hY)) (Nat.le_of_ble_eq_true rfl) rfl rfl ?_
  refine GP.weq ((w.set (Y + 17) (aI 2 400 (upd (upd (upd (upd s.1 s.2 (((x.toUInt32 >>> ((nI 24).toUInt32 &&& Int32.toUInt32 31)).toInt32).toInt8.toInt32).toInt8.toInt32) (s.2 + 1) (((x.toUInt32 >>> ((nI 16).toUInt32 &&& Int32.toUInt32 31)).toInt32).toInt8.toInt32).toInt8.toInt32) ((s.2 + 1) + 1) (((x.toUInt32 >>> ((nI 8).toUInt32 &&& Int32.toUInt32 31)).toInt32).toInt8.toInt32).toInt8.toInt32) (((s.2 + 1) + 1) + 1) (((x.toUInt32 >>> ((nI 0).toUInt32 &&& Int32.toUInt32 31)).toInt32).toInt8.toInt32).toInt8.toInt32))).set Y (.inr (11, .int th :: .int st :: .ref (Y + 1) :: .ref (Y + 2) :: .ref (Y + 3) :: .ref (Y + 4) :: .int nu :: .ref (Y + 5) :: .ref (Y + 6) :: .ref (Y + 7) :: .int dg :: .ref (Y + 8) :: .int dd :: .ref (Y + 9) :: .ref (Y + 10) :: .ref (Y + 11) :: .ref (Y + 12) :: .int ld :: .int be :: .int ib :: .ref (Y + 13) :: .ref (Y + 14) :: .ref (Y + 15) :: .ref (Y + 16) :: .ref (Y + 17) :: .int (nI ((((s.2 + 1) + 1) + 1) + 1)) :: .int fa :: .int re :: .int ig :: .ref (Y + 18) :: .ref (Y + 19) :: .ref (Y + 20) :: .ref (Y + 21) :: []))) (by rw [List.set_set]) ?_
  refine g_iinc (pc := 30) [(2, .int ((nI 0) + Int32.ofInt (-8))), (0, .ref Y), (1, .int x)] 0 dX12_comes_30 rfl rfl (by decide) rfl ?_
  refine g_goto (pc := 33) 3 dX12_comes_33 (by decide) ?_
  refine g_iload_n (pc := 3) 0 dX12_comes_3 rfl rfl ?_
  refine g_if_lt (pc := 4) 36 dX12_comes_4 (by decide) (fun h9 => ?_) (fun h9 => ?_)
  · exact g_vret (pc := 36) dX12_comes_36 ⟨rfl, by simp only [sb_sb2]; rfl⟩
  · exact absurd (by decide) h9
