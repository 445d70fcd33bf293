/-! MahlerBox: tape, numbers told, images, undo -/
theorem EX.one {w : Wd} {X o : Nat} {c c' : Ce} (h : w[o]? = some c) (hs : slE c' = slE c) (ho : X ≤ o ∧ o ≤ X + 138) : EX (boxS X) 0 0 w (w.set o c') := EX.of (FR.set (S := fun i => i = o) h hs rfl) (fun i hi => by rw [hi]; exact ho)
/-- the same bytes as far as they go -/
def tEq (s t : (Nat → Int32) × Nat) : Prop := s.2 = t.2 ∧ ∀ i, i < s.2 → ub (s.1 i) = ub (t.1 i)
theorem wB_eq {s t : (Nat → Int32) × Nat} (h : tEq s t) (x : Int32) : tEq (wB s x) (wB t x) := by
  obtain ⟨h1, h2⟩ := h
  refine ⟨by show s.2 + 1 = t.2 + 1; rw [h1], fun i hi => ?_⟩
  have hi : i < s.2 + 1 := hi
  show ub (upd s.1 s.2 (sb x) i) = ub (upd t.1 t.2 (sb x) i)
  by_cases e : i = s.2
  · rw [← h1, e, upd_s, upd_s]
  · rw [← h1, upd_n e, upd_n e]
    exact h2 i (by omega)
theorem wW_eq {s t : (Nat → Int32) × Nat} (h : tEq s t) (x : Int32) : tEq (wW s x) (wW t x) := wB_eq (wB_eq (wB_eq (wB_eq h _) _) _) _
def feed5 (s : (Nat → Int32) × Nat) (a b c d e : Int32) : (Nat → Int32) × Nat := wW (wW (wW (wW (wW s a) b) c) d) e
theorem feed5_eq {s t : (Nat → Int32) × Nat} (h : tEq s t) (a b c d e : Int32) : tEq (feed5 s a b c d e) (feed5 t a b c d e) := wW_eq (wW_eq (wW_eq (wW_eq (wW_eq h _) _) _) _) _
theorem bAt_cg {f g : Nat → Int32} {n i : Nat} (h : ∀ i, i < n → ub (f i) = ub (g i)) : bAt f n i = bAt g n i := by
  unfold bAt
  by_cases e : i < n
  · rw [if_pos e, if_pos e, h i e]
  · rw [if_neg e, if_neg e]
abbrev BX11_fault (w0 : Wd) (Post : Option Value → Wd → Prop) (w : Wd) (pc : Nat) (ls : List (Nat × Value)) (st : List Value) : Prop := GP "fault" RX11 cX11_fault 1 (some .int) 0 0 none w0 Post w pc ls st
abbrev EX11_fault (As : List Value) (w : Wd) (Post : Option Value → Wd → Prop) : Prop := EP yX11_fault cX11_fault 1 (some .int) 0 As w Post
theorem sp_fault (w : Wd) {X tl : Nat} {tb : Nat → Int32} {fa st : Int32} {rf : Nat → Nat} {sh : SV} {pn : Nat} {pk : Nat → Nat} {ps : Nat → SV} {im : Nat → Option SV} (hB : bxC w X tl tb fa st rf sh pn pk ps im) : EX11_fault [.ref X] w (fun r w' => r = some (.int fa) ∧ bxC w' X tl tb fa st rf sh pn pk ps im ∧ EX (boxS X) 0 0 w w') := by
  refine EP.of (plainFor_of_name (by decide)) [(0, .ref X)] rfl (Nat.le_of_ble_eq_true rfl) (fun r wf h => by obtain ⟨rfl, -⟩ := h; trivial) ?_
  show BX11_fault w _ w 0 [(0, .ref X)] []
  have hB0 := id hB
  obtain ⟨⟨s, hX, hs⟩, htp, hW, hpa, him, hrf⟩ := hB
  have hs0 := id hs
  obtain ⟨sp9, sf9, sh9, hs1, hs2, hs3, hs4, hs5, hs6⟩ := hs
  obtain ⟨htl, tpl, tf, ht1, ht2, ht3⟩ := id htp
  obtain ⟨row9, hrow9⟩ := hW.2.2.2.2.1
  obtain ⟨spa9, hspa9⟩ := hW.2.2.2.2.2
  refine g_aload_n (pc := 0) 0 dX11_fault_0 rfl rfl ?_
  refine g_get (pc := 1) dX11_fault_1 fk_X11_73 hX rfl ?_
  exact g_iret (pc := 4) dX11_fault_4 ⟨rfl, hB0, EX.rf⟩
abbrev BX11_status (w0 : Wd) (Post : Option Value → Wd → Prop) (w : Wd) (pc : Nat) (ls : List (Nat × Value)) (st : List Value) : Prop := GP "status" RX11 cX11_status 1 (some .int) 0 0 none w0 Post w pc ls st
abbrev EX11_status (As : List Value) (w : Wd) (Post : Option Value → Wd → Prop) : Prop := EP yX11_status cX11_status 1 (some .int) 0 As w Post
theorem sp_status (w : Wd) {X tl : Nat} {tb : Nat → Int32} {fa st : Int32} {rf : Nat → Nat} {sh : SV} {pn : Nat} {pk : Nat → Nat} {ps : Nat → SV} {im : Nat → Option SV} (hB : bxC w X tl tb fa st rf sh pn pk ps im) : EX11_status [.ref X] w (fun r w' => r = some (.int st) ∧ bxC w' X tl tb fa st rf sh pn pk ps im ∧ EX (boxS X) 0 0 w w') := by
  refine EP.of (plainFor_of_name (by decide)) [(0, .ref X)] rfl (Nat.le_of_ble_eq_true rfl) (fun r wf h => by obtain ⟨rfl, -⟩ := h; trivial) ?_
  show BX11_status w _ w 0 [(0, .ref X)] []
  have hB0 := id hB
  obtain ⟨⟨s, hX, hs⟩, htp, hW, hpa, him, hrf⟩ := hB
  have hs0 := id hs
  obtain ⟨sp9, sf9, sh9, hs1, hs2, hs3, hs4, hs5, hs6⟩ := hs
  obtain ⟨htl, tpl, tf, ht1, ht2, ht3⟩ := id htp
  obtain ⟨row9, hrow9⟩ := hW.2.2.2.2.1
  obtain ⟨spa9, hspa9⟩ := hW.2.2.2.2.2
  refine g_aload_n (pc := 0) 0 dX11_status_0 rfl rfl ?_
  refine g_get (pc := 1) dX11_status_1 fk_X11_77 hX rfl ?_
  exact g_iret (pc := 4) dX11_status_4 ⟨rfl, hB0, EX.rf⟩
abbrev BX11_tape (w0 : Wd) (Post : Option Value → Wd → Prop) (w : Wd) (pc : Nat) (ls : List (Nat × Value)) (st : List Value) : Prop := GP "tape" RX11 cX11_tape 2 (some .int) 1 39 none w0 Post w pc ls st
abbrev EX11_tape (As : List Value) (w : Wd) (Post : Option Value → Wd → Prop) : Prop := EP yX11_tape cX11_tape 2 (some .int) 1 As w Post
theorem sp_tape (w : Wd) {X tl : Nat} {tb : Nat → Int32} {fa st : Int32} {rf : Nat → Nat} {sh : SV} {pn : Nat} {pk : Nat → Nat} {ps : Nat → SV} {im : Nat → Option SV} (hB : bxC w X tl tb fa st rf sh pn pk ps im) {x : Int32} : EX11_tape [.ref X, .int x] w (fun r w' => r = some (.int (if x < 0 then -1 else bAt tb tl x.toInt.toNat)) ∧ bxC w' X tl tb fa st rf sh pn pk ps im ∧ EX (boxS X) 0 0 w w') := by
  refine EP.of (plainFor_of_name (by decide)) [(0, .ref X), (1, .int x)] rfl (Nat.le_of_ble_eq_true rfl) (fun r wf h => by obtain ⟨rfl, -⟩ := h; trivial) ?_
  show BX11_tape w _ w 0 [(0, .ref X), (1, .int x)] []
  have hB0 := id hB
  obtain ⟨⟨s, hX, hs⟩, htp, hW, hpa, him, hrf⟩ := hB
  have hs0 := id hs
  obtain ⟨sp9, sf9, sh9, hs1, hs2, hs3, hs4, hs5, hs6⟩ := hs
  obtain ⟨htl, tpl, tf, ht1, ht2, ht3⟩ := id htp
  obtain ⟨row9, hrow9⟩ := hW.2.2.2.2.1
  obtain ⟨spa9, hspa9⟩ := hW.2.2.2.2.2
  refine g_aload_n (pc := 0) 0 dX11_tape_0 rfl rfl ?_
  refine g_get (pc := 1) dX11_tape_1 fk_X11_12 hX rfl ?_
  refine g_iload_n (pc := 4) 1 dX11_tape_4 rfl rfl ?_
  by_cases hx : x < 0
  · refine g_callV (pc := 5) [.int x] dX11_tape_5 cv_X11_91.1 cv_X11_91.2.1 cv_X11_91.2.2.1 cv_X11_91.2.2.2 ht1 rfl rfl (Nat.le_of_ble_eq_true rfl) (by decide) (by decide) (sp_byteAtNeg _ hx) ?_
    rintro _ w9 ⟨rfl, e9⟩
    refine GP.weq _ e9 ?_
    exact g_iret (pc := 8) dX11_tape_8 ⟨by rw [if_pos hx], hB0, EX.rf⟩
  · have hx0 : 0 ≤ x.toInt := by
      rw [Int32.lt_iff_toInt_lt, show (0 : Int32).toInt = 0 by decide] at hx
      omega
    have hxh := I_hi x
    obtain ⟨i, hie⟩ : ∃ i : Nat, x = nI i ∧ i < 2147483648 := ⟨x.toInt.toNat, nI_toNat hx0, by omega⟩
    obtain ⟨hie, hi⟩ := hie
    subst hie
    refine g_callV (pc := 5) [.int (nI i)] dX11_tape_5 cv_X11_91.1 cv_X11_91.2.1 cv_X11_91.2.2.1 cv_X11_91.2.2.2 ht1 rfl rfl (Nat.le_of_ble_eq_true rfl) (by decide) (by decide) (sp_byteAt _ (x := i) ht1 ht2 (by omega) htl hi) ?_
    rintro _ w9 ⟨rfl, e9⟩
    refine GP.weq _ e9 ?_
    exact g_iret (pc := 8) dX11_tape_8 ⟨by rw [if_neg hx, bAt_cg ht3, nI_toInt hi]; rfl, hB0, EX.rf⟩
abbrev BX11_end (w0 : Wd) (Post : Option Value → Wd → Prop) (w : Wd) (pc : Nat) (ls : List (Nat × Value)) (st : List Value) : Prop := GP "end" RX11 cX11_end 2 (some .int) 0 0 none w0 Post w pc ls st
abbrev EX11_end (As : List Value) (w : Wd) (Post : Option Value → Wd → Prop) : Prop := EP yX11_end cX11_end 2 (some .int) 0 As w Post
theorem sp_end (w : Wd) {X tl : Nat} {tb : Nat → Int32} {fa st : Int32} {rf : Nat → Nat} {sh : SV} {pn : Nat} {pk : Nat → Nat} {ps : Nat → SV} {im : Nat → Option SV} (hB : bxC w X tl tb fa st rf sh pn pk ps im) {x : Int32} : EX11_end [.ref X, .int x] w (fun r w' => (∃ n : Nat, x = nI n ∧ n ≤ tl ∧ r = some (.int (nI n)) ∧ bxC w' X n tb fa st rf sh pn pk ps im ∧ EX (boxS X) 0 0 w w') ∨ (¬ (0 ≤ x.toInt ∧ x.toInt ≤ tl) ∧ r = some (.int (-1)) ∧ bxC w' X tl tb fa st rf sh pn pk ps im ∧ EX (boxS X) 0 0 w w')) := by
  refine EP.of (plainFor_of_name (by decide)) [(0, .ref X), (1, .int x)] rfl (Nat.le_of_ble_eq_true rfl) (fun r wf h => by obtain ⟨n, -, -, rfl, -⟩ | ⟨-, rfl, -⟩ := h <;> trivial) ?_
  show BX11_end w _ w 0 [(0, .ref X), (1, .int x)] []
  have hB0 := id hB
  obtain ⟨⟨s, hX, hs⟩, htp, hW, hpa, him, hrf⟩ := hB
  have hs0 := id hs
  obtain ⟨sp9, sf9, sh9, hs1, hs2, hs3, hs4, hs5, hs6⟩ := hs
  obtain ⟨htl, tpl, tf, ht1, ht2, ht3⟩ := id htp
  obtain ⟨row9, hrow9⟩ := hW.2.2.2.2.1
  obtain ⟨spa9, hspa9⟩ := hW.2.2.2.2.2
  have z0 : (0 : Int32).toInt = 0 := by decide
  have zt : (nI tl).toInt = tl := nI_toInt (by omega)
  refine g_iload_n (pc := 0) 1 dX11_end_0 rfl rfl ?_
  refine g_if_lt (pc := 1) 15 dX11_end_1 (by decide) (fun h1 => ?_) (fun h1 => ?_)
  · rw [Int32.lt_iff_toInt_lt, z0] at h1
    refine g_iconst (pc := 15) (v := -1) dX11_end_15 (by decide) ?_
    exact g_iret (pc := 16) dX11_end_16 (Or.inr ⟨by omega, rfl, hB0, EX.rf⟩)
  · rw [Int32.lt_iff_toInt_lt, z0] at h1
    refine g_iload_n (pc := 4) 1 dX11_end_4 rfl rfl ?_
    refine g_aload_n (pc := 5) 0 dX11_end_5 rfl rfl ?_
    refine g_get (pc := 6) dX11_end_6 fk_X11_12 hX rfl ?_
    refine g_get (pc := 9) dX11_end_9 fk_X11_88 ht1 rfl ?_
    refine g_icmp_le (pc := 12) 17 dX11_end_12 (by decide) (fun h2 => ?_) (fun h2 => ?_)
    · rw [Int32.le_iff_toInt_le, zt] at h2
      obtain ⟨n, hne, hn⟩ : ∃ n : Nat, x = nI n ∧ n ≤ tl := ⟨x.toInt.toNat, nI_toNat (by omega), by omega⟩
      subst hne
      refine g_aload_n (pc := 17) 0 dX11_end_17 rfl rfl ?_
      refine g_get (pc := 18) dX11_end_18 fk_X11_12 hX rfl ?_
      refine g_iload_n (pc := 21) 1 dX11_end_21 rfl rfl ?_
      refine g_put (pc := 22) [.ref (X + 2), .int (nI n), .int (nI tpl)] dX11_end_22 fk_X11_88 ht1 (Nat.le_of_ble_eq_true rfl) rfl rfl ?_
      refine g_iload_n (pc := 25) 1 dX11_end_25 rfl rfl ?_
      have hE := EX.one (X := X) (c' := oT (X + 2) n tpl) ht1 rfl (by omega)
      have hE1 : EX (fun i => i = X + 1) 0 0 w (w.set (X + 1) (oT (X + 2) n tpl)) := EX.of (FR.set (S := fun i => i = X + 1) ht1 rfl rfl) (fun _ h => h)
      have hS : ∀ i, i = X + 1 → i < X + 139 := fun i hi => by omega
      exact g_iret (pc := 26) dX11_end_26 (Or.inl ⟨n, rfl, hn, rfl, ⟨⟨s, (lk_ne (by omega) hX), hs0.ex hE1 hS⟩, ⟨by omega, tpl, tf, (lk_eq ht1), (lk_ne (by omega) ht2), fun i hi => ht3 i (by omega)⟩, hW.ex hE1 (fun i h => by omega), hpa.ex hE1 (fun i _ _ => by omega) hS, him.ex hE1 (by omega) hS, hrf.ex hE1 (by omega)⟩, hE⟩)
    · rw [Int32.le_iff_toInt_le, zt] at h2
      refine g_iconst (pc := 15) (v := -1) dX11_end_15 (by decide) ?_
      exact g_iret (pc := 16) dX11_end_16 (Or.inr ⟨by omega, rfl, hB0, EX.rf⟩)
abbrev BX11_feed (w0 : Wd) (Post : Option Value → Wd → Prop) (w : Wd) (pc : Nat) (ls : List (Nat × Value)) (st : List Value) : Prop := GP "feed" RX11 cX11_feed 6 (some .int) 2 78 none w0 Post w pc ls st
abbrev EX11_feed (As : List Value) (w : Wd) (Post : Option Value → Wd → Prop) : Prop := EP yX11_feed cX11_feed 6 (some .int) 2 As w Post
theorem sp_feed (w : Wd) {X tl : Nat} {tb : Nat → Int32} {fa st : Int32} {rf : Nat → Nat} {sh : SV} {pn : Nat} {pk : Nat → Nat} {ps : Nat → SV} {im : Nat → Option SV} (hB : bxC w X tl tb fa st rf sh pn pk ps im) {xa xb xc xd xe : Int32} : EX11_feed [.ref X, .int xa, .int xb, .int xc, .int xd, .int xe] w (fun r w' => (tl + 20 ≤ 400 ∧ r = some (.int (nI (tl + 20))) ∧ bxC w' X (tl + 20) (feed5 (tb, tl) xa xb xc xd xe).1 fa st rf sh pn pk ps im ∧ EX (boxS X) 0 0 w w') ∨ (¬ (tl + 20 ≤ 400) ∧ r = some (.int (-1)) ∧ bxC w' X tl tb fa st rf sh pn pk ps im ∧ EX (boxS X) 0 0 w w')) := by
  refine EP.of (plainFor_of_name (by decide)) [(0, .ref X), (1, .int xa), (2, .int xb), (3, .int xc), (4, .int xd), (5, .int xe)] rfl (Nat.le_of_ble_eq_true rfl) (fun r wf h => by obtain ⟨-, rfl, -⟩ | ⟨-, rfl, -⟩ := h <;> trivial) ?_
  show BX11_feed w _ w 0 [(0, .ref X), (1, .int xa), (2, .int xb), (3, .int xc), (4, .int xd), (5, .int xe)] []
  have hB0 := id hB
  obtain ⟨⟨s, hX, hs⟩, htp, hW, hpa, him, hrf⟩ := hB
  have hs0 := id hs
  obtain ⟨sp9, sf9, sh9, hs1, hs2, hs3, hs4, hs5, hs6⟩ := hs
  obtain ⟨htl, tpl, tf, ht1, ht2, ht3⟩ := id htp
  obtain ⟨row9, hrow9⟩ := hW.2.2.2.2.1
  obtain ⟨spa9, hspa9⟩ := hW.2.2.2.2.2
  refine g_aload_n (pc := 0) 0 dX11_feed_0 rfl rfl ?_
  refine g_get (pc := 1) dX11_feed_1 fk_X11_12 hX rfl ?_
  refine g_bipush (pc := 4) (v := nI 20) dX11_feed_4 (by decide) ?_
  refine g_callV (pc := 6) [.int (nI 20)] dX11_feed_6 cv_X11_80.1 cv_X11_80.2.1 cv_X11_80.2.2.1 cv_X11_80.2.2.2 ht1 rfl rfl (Nat.le_of_ble_eq_true rfl) (by decide) (by decide) (sp_hasRoom _ (x := 20) ht1 htl (by decide)) ?_
  rintro _ w9 (⟨rfl, hr, e9⟩ | ⟨rfl, hr, e9⟩)
  · refine GP.weq _ e9 ?_
    refine n_if_ne (pc := 9) 14 dX11_feed_9 (by decide) (by omega) (fun hz => ?_) (fun hz => ?_)
    · refine g_aload_n (pc := 14) 0 dX11_feed_14 rfl rfl ?_
      refine g_get (pc := 15) dX11_feed_15 fk_X11_12 hX rfl ?_
      refine g_iload_n (pc := 18) 1 dX11_feed_18 rfl rfl ?_
      refine g_callV (pc := 19) [.int xa] dX11_feed_19 cv_X11_84.1 cv_X11_84.2.1 cv_X11_84.2.2.1 cv_X11_84.2.2.2 ht1 rfl rfl (Nat.le_of_ble_eq_true rfl) (by decide) (by decide) (sp_addWord _ (s := (tf, tl)) (x := xa) ht1 ht2 (by omega) (by show tl + 4 ≤ 400; omega)) ?_
      rintro _ u0 ⟨rfl, e0⟩
      obtain ⟨S0, hS0⟩ : ∃ z, wW (tf, tl) xa = z := ⟨_, rfl⟩
      rw [hS0] at e0
      have hl0 : S0.2 = tl + 4 := by
        rw [← hS0]
        show tl + 1 + 1 + 1 + 1 = _
        omega
      have q1_0 : u0[X + 1]? = some (oT (X + 2) (tl + 4) tpl) := by rw [e0, hl0]; exact lk_eq (lk_ne (by omega) ht1)
      have q2_0 : u0[X + 2]? = some (aI 2 400 S0.1) := by rw [e0]; exact lk_ne (by omega) (lk_eq ht2)
      have qF_0 : FR (fun i => i = X + 1 ∨ i = X + 2) w u0 := FR.tr FR.rf (by rw [e0]; exact FR.tr (FR.set (c' := aI 2 400 S0.1) ht2 rfl (Or.inr rfl)) (FR.set (c' := oT (X + 2) S0.2 tpl) (lk_ne (by omega) ht1) rfl (Or.inl rfl)))
      have qX_0 := qF_0.lk (by omega) hX
      have q1s_0 : u0[X + 1]? = some (oT (X + 2) S0.2 tpl) := by rw [hl0]; exact q1_0
      refine g_aload_n (pc := 22) 0 dX11_feed_22 rfl rfl ?_
      refine g_get (pc := 23) dX11_feed_23 fk_X11_12 qX_0 rfl ?_
      refine g_iload_n (pc := 26) 2 dX11_feed_26 rfl rfl ?_
      refine g_callV (pc := 27) [.int xb] dX11_feed_27 cv_X11_84.1 cv_X11_84.2.1 cv_X11_84.2.2.1 cv_X11_84.2.2.2 q1_0 rfl rfl (Nat.le_of_ble_eq_true rfl) (by decide) (by decide) (sp_addWord _ (s := S0) (x := xb) q1s_0 q2_0 (by omega) (by rw [hl0]; omega)) ?_
      rintro _ u1 ⟨rfl, e1⟩
      obtain ⟨S1, hS1⟩ : ∃ z, wW S0 xb = z := ⟨_, rfl⟩
      rw [hS1] at e1
      have hl1 : S1.2 = tl + 8 := by
        rw [← hS1]
        show S0.2 + 1 + 1 + 1 + 1 = _
        omega
      have q1_1 : u1[X + 1]? = some (oT (X + 2) (tl + 8) tpl) := by rw [e1, hl1]; exact lk_eq (lk_ne (by omega) q1s_0)
      have q2_1 : u1[X + 2]? = some (aI 2 400 S1.1) := by rw [e1]; exact lk_ne (by omega) (lk_eq q2_0)
      have qF_1 : FR (fun i => i = X + 1 ∨ i = X + 2) w u1 := FR.tr qF_0 (by rw [e1]; exact FR.tr (FR.set (c' := aI 2 400 S1.1) q2_0 rfl (Or.inr rfl)) (FR.set (c' := oT (X + 2) S1.2 tpl) (lk_ne (by omega) q1s_0) rfl (Or.inl rfl)))
      have qX_1 := qF_1.lk (by omega) hX
      have q1s_1 : u1[X + 1]? = some (oT (X + 2) S1.2 tpl) := by rw [hl1]; exact q1_1
      refine g_aload_n (pc := 30) 0 dX11_feed_30 rfl rfl ?_
      refine g_get (pc := 31) dX11_feed_31 fk_X11_12 qX_1 rfl ?_
      refine g_iload_n (pc := 34) 3 dX11_feed_34 rfl rfl ?_
      refine g_callV (pc := 35) [.int xc] dX11_feed_35 cv_X11_84.1 cv_X11_84.2.1 cv_X11_84.2.2.1 cv_X11_84.2.2.2 q1_1 rfl rfl (Nat.le_of_ble_eq_true rfl) (by decide) (by decide) (sp_addWord _ (s := S1) (x := xc) q1s_1 q2_1 (by omega) (by rw [hl1]; omega)) ?_
      rintro _ u2 ⟨rfl, e2⟩
      obtain ⟨S2, hS2⟩ : ∃ z, wW S1 xc = z := ⟨_, rfl⟩
      rw [hS2] at e2
      have hl2 : S2.2 = tl + 12 := by
        rw [← hS2]
        show S1.2 + 1 + 1 + 1 + 1 = _
        omega
      have q1_2 : u2[X + 1]? = some (oT (X + 2) (tl + 12) tpl) := by rw [e2, hl2]; exact lk_eq (lk_ne (by omega) q1s_1)
      have q2_2 : u2[X + 2]? = some (aI 2 400 S2.1) := by rw [e2]; exact lk_ne (by omega) (lk_eq q2_1)
      have qF_2 : FR (fun i => i = X + 1 ∨ i = X + 2) w u2 := FR.tr qF_1 (by rw [e2]; exact FR.tr (FR.set (c' := aI 2 400 S2.1) q2_1 rfl (Or.inr rfl)) (FR.set (c' := oT (X + 2) S2.2 tpl) (lk_ne (by omega) q1s_1) rfl (Or.inl rfl)))
      have qX_2 := qF_2.lk (by omega) hX
      have q1s_2 : u2[X + 1]? = some (oT (X + 2) S2.2 tpl) := by rw [hl2]; exact q1_2
      refine g_aload_n (pc := 38) 0 dX11_feed_38 rfl rfl ?_
      refine g_get (pc := 39) dX11_feed_39 fk_X11_12 qX_2 rfl ?_
      refine g_iload (pc := 42) 4 dX11_feed_42 rfl ?_
      refine g_callV (pc := 44) [.int xd] dX11_feed_44 cv_X11_84.1 cv_X11_84.2.1 cv_X11_84.2.2.1 cv_X11_84.2.2.2 q1_2 rfl rfl (Nat.le_of_ble_eq_true rfl) (by decide) (by decide) (sp_addWord _ (s := S2) (x := xd) q1s_2 q2_2 (by omega) (by rw [hl2]; omega)) ?_
      rintro _ u3 ⟨rfl, e3⟩
      obtain ⟨S3, hS3⟩ : ∃ z, wW S2 xd = z := ⟨_, rfl⟩
      rw [hS3] at e3
      have hl3 : S3.2 = tl + 16 := by
        rw [← hS3]
        show S2.2 + 1 + 1 + 1 + 1 = _
        omega
      have q1_3 : u3[X + 1]? = some (oT (X + 2) (tl + 16) tpl) := by rw [e3, hl3]; exact lk_eq (lk_ne (by omega) q1s_2)
      have q2_3 : u3[X + 2]? = some (aI 2 400 S3.1) := by rw [e3]; exact lk_ne (by omega) (lk_eq q2_2)
      have qF_3 : FR (fun i => i = X + 1 ∨ i = X + 2) w u3 := FR.tr qF_2 (by rw [e3]; exact FR.tr (FR.set (c' := aI 2 400 S3.1) q2_2 rfl (Or.inr rfl)) (FR.set (c' := oT (X + 2) S3.2 tpl) (lk_ne (by omega) q1s_2) rfl (Or.inl rfl)))
      have qX_3 := qF_3.lk (by omega) hX
      have q1s_3 : u3[X + 1]? = some (oT (X + 2) S3.2 tpl) := by rw [hl3]; exact q1_3
      refine g_aload_n (pc := 47) 0 dX11_feed_47 rfl rfl ?_
      refine g_get (pc := 48) dX11_feed_48 fk_X11_12 qX_3 rfl ?_
      refine g_iload (pc := 51) 5 dX11_feed_51 rfl ?_
      refine g_callV (pc := 53) [.int xe] dX11_feed_53 cv_X11_84.1 cv_X11_84.2.1 cv_X11_84.2.2.1 cv_X11_84.2.2.2 q1_3 rfl rfl (Nat.le_of_ble_eq_true rfl) (by decide) (by decide) (sp_addWord _ (s := S3) (x := xe) q1s_3 q2_3 (by omega) (by rw [hl3]; omega)) ?_
      rintro _ u4 ⟨rfl, e4⟩
      obtain ⟨S4, hS4⟩ : ∃ z, wW S3 xe = z := ⟨_, rfl⟩
      rw [hS4] at e4
      have hl4 : S4.2 = tl + 20 := by
        rw [← hS4]
        show S3.2 + 1 + 1 + 1 + 1 = _
        omega
      have q1_4 : u4[X + 1]? = some (oT (X + 2) (tl + 20) tpl) := by rw [e4, hl4]; exact lk_eq (lk_ne (by omega) q1s_3)
      have q2_4 : u4[X + 2]? = some (aI 2 400 S4.1) := by rw [e4]; exact lk_ne (by omega) (lk_eq q2_3)
      have qF_4 : FR (fun i => i = X + 1 ∨ i = X + 2) w u4 := FR.tr qF_3 (by rw [e4]; exact FR.tr (FR.set (c' := aI 2 400 S4.1) q2_3 rfl (Or.inr rfl)) (FR.set (c' := oT (X + 2) S4.2 tpl) (lk_ne (by omega) q1s_3) rfl (Or.inl rfl)))
      have qX_4 := qF_4.lk (by omega) hX
      have q1s_4 : u4[X + 1]? = some (oT (X + 2) S4.2 tpl) := by rw [hl4]; exact q1_4
      refine g_aload_n (pc := 56) 0 dX11_feed_56 rfl rfl ?_
      refine g_get (pc := 57) dX11_feed_57 fk_X11_12 qX_4 rfl ?_
      refine g_get (pc := 60) dX11_feed_60 fk_X11_88 q1_4 rfl ?_
      have hE1 : EX (fun i => i = X + 1 ∨ i = X + 2) 0 0 w u4 := EX.of qF_4 (fun _ h => h)
      have hS : ∀ i, (i = X + 1 ∨ i = X + 2) → i < X + 139 := fun i hi => by omega
      have hq := feed5_eq (s := (tf, tl)) (t := (tb, tl)) ⟨rfl, ht3⟩ xa xb xc xd xe
      have hfd : feed5 (tf, tl) xa xb xc xd xe = S4 := by unfold feed5; rw [hS0, hS1, hS2, hS3, hS4]
      rw [hfd] at hq
      clear hfd hS0 hS1 hS2 hS3 hS4
      have hq2 : ∀ i, i < tl + 20 → ub (S4.1 i) = ub ((feed5 (tb, tl) xa xb xc xd xe).1 i) := fun i hi => hq.2 i (by omega)
      obtain ⟨tb', htb'⟩ : ∃ z, (feed5 (tb, tl) xa xb xc xd xe).1 = z := ⟨_, rfl⟩
      rw [htb'] at hq2 ⊢
      exact g_iret (pc := 63) dX11_feed_63 (Or.inl ⟨hr, rfl, ⟨⟨s, qX_4, hs0.ex hE1 hS⟩, ⟨by omega, tpl, _, q1_4, q2_4, hq2⟩, hW.ex hE1 (fun i h => by omega), hpa.ex hE1 (fun i _ _ => by omega) hS, him.ex hE1 (by omega) hS, hrf.ex hE1 (by omega)⟩, hE1.mono (fun i hi => by unfold boxS; omega)⟩)
    · exact absurd hz (by decide)
  · refine GP.weq _ e9 ?_
    refine n_if_ne (pc := 9) 14 dX11_feed_9 (by decide) (by omega) (fun hz => ?_) (fun hz => ?_)
    · exact absurd rfl hz
    · refine g_iconst (pc := 12) (v := -1) dX11_feed_12 (by decide) ?_
      exact g_iret (pc := 13) dX11_feed_13 (Or.inr ⟨hr, rfl, hB0, EX.rf⟩)
