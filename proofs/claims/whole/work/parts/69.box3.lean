/-! MahlerBox: refuse, accept, moveOn -/
/-- what is told without a change of the tools -/
theorem bxC.tools {S : Nat → Prop} {w w' : Wd} {k s X tl : Nat} {tb : Nat → Int32} {fa st : Int32} {rf : Nat → Nat} {sh : SV} {pn : Nat} {pk : Nat → Nat} {ps : Nat → SV} {im : Nat → Option SV} (h : bxC w X tl tb fa st rf sh pn pk ps im) (hE : EX S k s w w') (hS : ∀ i, S i → (X + 3 ≤ i ∧ i ≤ X + 131) ∨ i = X + 136 ∨ i = X + 137) (hW : wkC w' X) : bxC w' X tl tb fa st rf sh pn pk ps im := by
  obtain ⟨⟨s9, h1, h2⟩, h3, -, h5, h6, h7⟩ := h
  have hS2 : ∀ i, S i → i < X + 139 := fun i hi => by have := hS i hi; omega
  exact ⟨⟨s9, hE.lk (fun g => by have := hS _ g; omega) h1, h2.ex hE hS2⟩, h3.ex hE (fun g => by have := hS _ g; omega) (fun g => by have := hS _ g; omega), hW, h5.ex hE (fun i _ _ g => by have := hS _ g; omega) hS2, h6.ex hE (fun g => by have := hS _ g; omega) hS2, h7.ex hE (fun g => by have := hS _ g; omega)⟩
def incr (rf : Nat → Nat) (k : Nat) : Nat → Nat := fun i => if i = k then rf i + 1 else rf i
def psh {α : Type} (pn : Nat) (a : Nat → α) (x : α) : Nat → α := fun i => if pn = 8 then (if i < 7 then a (i + 1) else x) else if i = pn then x else a i
abbrev BX11_accept (w0 : Wd) (Post : Option Value → Wd → Prop) (w : Wd) (pc : Nat) (ls : List (Nat × Value)) (st : List Value) : Prop := GP "accept" RX11 cX11_accept 2 (some .int) 0 0 none w0 Post w pc ls st
abbrev EX11_accept (As : List Value) (w : Wd) (Post : Option Value → Wd → Prop) : Prop := EP yX11_accept cX11_accept 2 (some .int) 0 As w Post
theorem sp_accept (w : Wd) {X tl : Nat} {tb : Nat → Int32} {fa st : Int32} {rf : Nat → Nat} {sh : SV} {pn : Nat} {pk : Nat → Nat} {ps : Nat → SV} {im : Nat → Option SV} (hB : bxC w X tl tb fa st rf sh pn pk ps im) {x : Int32} : EX11_accept [.ref X, .int x] w (fun r w' => r = some (.int x) ∧ bxC w' X tl tb fa (nI 0) rf sh pn pk ps im ∧ EX (boxS X) 0 0 w w') := by
  refine EP.of (plainFor_of_name (by decide)) [(0, .ref X), (1, .int x)] rfl (Nat.le_of_ble_eq_true rfl) (fun r wf h => by obtain ⟨rfl, -⟩ := h; trivial) ?_
  show BX11_accept w _ w 0 [(0, .ref X), (1, .int x)] []
  obtain ⟨⟨s, hX, hs⟩, htp, hW, hpa, him, hrf⟩ := hB
  refine g_aload_n (pc := 0) 0 dX11_accept_0 rfl rfl ?_
  refine g_iconst (pc := 1) (v := nI 0) dX11_accept_1 (by decide) ?_
  refine g_put (pc := 2) [.ref (X + 1), .ref (X + 3), .ref (X + 12), .ref (X + 52), .ref (X + 112), .ref (X + 132), .ref (X + 135), .ref (X + 136), .ref (X + 137), .ref (X + 138), .ref s, .int fa, .int (nI 0)] dX11_accept_2 fk_X11_77 hX (Nat.le_of_ble_eq_true rfl) rfl rfl ?_
  refine g_iload_n (pc := 5) 1 dX11_accept_5 rfl rfl ?_
  have hE : EX (fun i => i = X) 0 0 w (w.set X (.inr (10, [.ref (X + 1), .ref (X + 3), .ref (X + 12), .ref (X + 52), .ref (X + 112), .ref (X + 132), .ref (X + 135), .ref (X + 136), .ref (X + 137), .ref (X + 138), .ref s, .int fa, .int (nI 0)]))) := EX.of (FR.set (S := fun i => i = X) hX rfl rfl) (fun _ h => h)
  have hS : ∀ i, i = X → i < X + 139 := fun i hi => by omega
  exact g_iret (pc := 6) dX11_accept_6 ⟨rfl, ⟨⟨s, lk_eq hX, hs.ex hE hS⟩, htp.ex hE (by omega) (by omega), hW.ex hE (fun i h => by omega), hpa.ex hE (fun i _ _ => by omega) hS, him.ex hE (by omega) hS, hrf.ex hE (by omega)⟩, hE.mono (fun i hi => by unfold boxS; omega)⟩
abbrev BX11_refuse (w0 : Wd) (Post : Option Value → Wd → Prop) (w : Wd) (pc : Nat) (ls : List (Nat × Value)) (st : List Value) : Prop := GP "refuse" RX11 cX11_refuse 3 (some .int) 0 0 none w0 Post w pc ls st
abbrev EX11_refuse (As : List Value) (w : Wd) (Post : Option Value → Wd → Prop) : Prop := EP yX11_refuse cX11_refuse 3 (some .int) 0 As w Post
theorem sp_refuse1 (w : Wd) {X tl : Nat} {tb : Nat → Int32} {fa st : Int32} {rf : Nat → Nat} {sh : SV} {pn : Nat} {pk : Nat → Nat} {ps : Nat → SV} {im : Nat → Option SV} (hB : bxC w X tl tb fa st rf sh pn pk ps im) : EX11_refuse [.ref X, .int (-1)] w (fun r w' => r = some (.int (-1)) ∧ bxC w' X tl tb fa (-1) (incr rf 0) sh pn pk ps im ∧ EX (boxS X) 0 0 w w') := by
  refine EP.of (plainFor_of_name (by decide)) [(0, .ref X), (1, .int (-1))] rfl (Nat.le_of_ble_eq_true rfl) (fun r wf h => by obtain ⟨rfl, -⟩ := h; trivial) ?_
  show BX11_refuse w _ w 0 [(0, .ref X), (1, .int (-1))] []
  obtain ⟨⟨s, hX, hs⟩, htp, hW, hpa, him, hrf⟩ := hB
  obtain ⟨g, hg, hgi⟩ := id hrf
  refine g_aload_n (pc := 0) 0 dX11_refuse_0 rfl rfl ?_
  refine g_iload_n (pc := 1) 1 dX11_refuse_1 rfl rfl ?_
  refine g_put (pc := 2) [.ref (X + 1), .ref (X + 3), .ref (X + 12), .ref (X + 52), .ref (X + 112), .ref (X + 132), .ref (X + 135), .ref (X + 136), .ref (X + 137), .ref (X + 138), .ref s, .int fa, .int (-1)] dX11_refuse_2 fk_X11_77 hX (Nat.le_of_ble_eq_true rfl) rfl rfl ?_
  refine g_iload_n (pc := 5) 1 dX11_refuse_5 rfl rfl ?_
  refine g_bipush (pc := 6) (v := -2) dX11_refuse_6 (by decide) ?_
  refine g_icmp_lt (pc := 8) 18 dX11_refuse_8 (by decide) (fun hc => ?_) (fun hc => ?_)
  · exact absurd hc (by decide)
  · refine g_iload_n (pc := 11) 1 dX11_refuse_11 rfl rfl ?_
    refine g_ineg (pc := 12) dX11_refuse_12 ?_
    refine g_iconst (pc := 13) (v := nI 1) dX11_refuse_13 (by decide) ?_
    refine g_isub (pc := 14) dX11_refuse_14 ?_
    refine g_goto (pc := 15) 22 dX11_refuse_15 (by decide) ?_
    refine GP.ti (nI 0) (by decide) ?_
    refine g_istore_n (pc := 22) [(2, .int (nI 0)), (0, .ref X), (1, .int (-1))] dX11_refuse_22 rfl (by decide) rfl ?_
    refine g_iload_n (pc := 23) 0 dX11_refuse_23 rfl rfl ?_
    refine n_if_lt (pc := 24) 46 dX11_refuse_24 (by decide) (by omega) ?_
    refine g_iload_n (pc := 27) 0 dX11_refuse_27 rfl rfl ?_
    refine g_aload_n (pc := 28) 1 dX11_refuse_28 rfl rfl ?_
    refine g_get (pc := 29) dX11_refuse_29 fk_X11_64 (lk_eq hX) rfl ?_
    refine g_alen (pc := 32) dX11_refuse_32 (lk_ne (by omega) hg) (by decide) ?_
    refine n_icmp_ge (pc := 33) 46 dX11_refuse_33 (by decide) (by omega) (by omega) (fun hd => ?_) (fun hd => ?_)
    · exact absurd hd (by decide)
    · refine g_aload_n (pc := 36) 1 dX11_refuse_36 rfl rfl ?_
      refine g_get (pc := 37) dX11_refuse_37 fk_X11_64 (lk_eq hX) rfl ?_
      refine g_iload_n (pc := 40) 0 dX11_refuse_40 rfl rfl ?_
      refine g_dup2 (pc := 41) dX11_refuse_41 rfl rfl ?_
      refine g_iald (pc := 42) 0 dX11_refuse_42 (lk_ne (by omega) hg) (IXn (by omega) (by omega)) ?_
      refine g_iconst (pc := 43) (v := nI 1) dX11_refuse_43 (by decide) ?_
      refine g_iadd (pc := 44) dX11_refuse_44 ?_
      refine g_iast (pc := 45) 0 dX11_refuse_45 (lk_ne (by omega) hg) (IXn (by omega) (by omega)) ?_
      refine g_iload_n (pc := 46) 2 dX11_refuse_46 rfl rfl ?_
      have hE : EX (fun i => i = X ∨ i = X + 138) 0 0 w ((w.set X (.inr (10, [.ref (X + 1), .ref (X + 3), .ref (X + 12), .ref (X + 52), .ref (X + 112), .ref (X + 132), .ref (X + 135), .ref (X + 136), .ref (X + 137), .ref (X + 138), .ref s, .int fa, .int (-1)]))).set (X + 138) (aI 0 5 (upd g 0 ((g 0) + (nI 1))))) := EX.of ((FR.st (c' := aI 0 5 (upd g 0 ((g 0) + (nI 1)))) (FR.st (c' := .inr (10, [.ref (X + 1), .ref (X + 3), .ref (X + 12), .ref (X + 52), .ref (X + 112), .ref (X + 132), .ref (X + 135), .ref (X + 136), .ref (X + 137), .ref (X + 138), .ref s, .int fa, .int (-1)])) FR.rf hX rfl (by omega)) (lk_ne (by omega) hg) rfl (by omega))) (fun _ h => h)
      have hS : ∀ i, (i = X ∨ i = X + 138) → i < X + 139 := fun i hi => by omega
      exact g_iret (pc := 47) dX11_refuse_47 ⟨rfl, ⟨⟨s, (lk_ne (by omega) (lk_eq hX)), hs.ex hE hS⟩, htp.ex hE (by omega) (by omega), hW.ex hE (fun i h => by omega), hpa.ex hE (fun i _ _ => by omega) hS, him.ex hE (by omega) hS, ⟨_, (lk_eq (lk_ne (by omega) hg)), fun i hi => by unfold incr; by_cases e : i = 0; · { rw [if_pos e, e, upd_s, hgi _ (by omega)]; exact nI_inc _ 1 }; · { rw [if_neg e, upd_n e]; exact hgi i hi }⟩⟩, hE.mono (fun i hi => by unfold boxS; omega)⟩
theorem sp_refuse2 (w : Wd) {X tl : Nat} {tb : Nat → Int32} {fa st : Int32} {rf : Nat → Nat} {sh : SV} {pn : Nat} {pk : Nat → Nat} {ps : Nat → SV} {im : Nat → Option SV} (hB : bxC w X tl tb fa st rf sh pn pk ps im) : EX11_refuse [.ref X, .int (-2)] w (fun r w' => r = some (.int (-2)) ∧ bxC w' X tl tb fa (-2) (incr rf 1) sh pn pk ps im ∧ EX (boxS X) 0 0 w w') := by
  refine EP.of (plainFor_of_name (by decide)) [(0, .ref X), (1, .int (-2))] rfl (Nat.le_of_ble_eq_true rfl) (fun r wf h => by obtain ⟨rfl, -⟩ := h; trivial) ?_
  show BX11_refuse w _ w 0 [(0, .ref X), (1, .int (-2))] []
  obtain ⟨⟨s, hX, hs⟩, htp, hW, hpa, him, hrf⟩ := hB
  obtain ⟨g, hg, hgi⟩ := id hrf
  refine g_aload_n (pc := 0) 0 dX11_refuse_0 rfl rfl ?_
  refine g_iload_n (pc := 1) 1 dX11_refuse_1 rfl rfl ?_
  refine g_put (pc := 2) [.ref (X + 1), .ref (X + 3), .ref (X + 12), .ref (X + 52), .ref (X + 112), .ref (X + 132), .ref (X + 135), .ref (X + 136), .ref (X + 137), .ref (X + 138), .ref s, .int fa, .int (-2)] dX11_refuse_2 fk_X11_77 hX (Nat.le_of_ble_eq_true rfl) rfl rfl ?_
  refine g_iload_n (pc := 5) 1 dX11_refuse_5 rfl rfl ?_
  refine g_bipush (pc := 6) (v := -2) dX11_refuse_6 (by decide) ?_
  refine g_icmp_lt (pc := 8) 18 dX11_refuse_8 (by decide) (fun hc => ?_) (fun hc => ?_)
  · exact absurd hc (by decide)
  · refine g_iload_n (pc := 11) 1 dX11_refuse_11 rfl rfl ?_
    refine g_ineg (pc := 12) dX11_refuse_12 ?_
    refine g_iconst (pc := 13) (v := nI 1) dX11_refuse_13 (by decide) ?_
    refine g_isub (pc := 14) dX11_refuse_14 ?_
    refine g_goto (pc := 15) 22 dX11_refuse_15 (by decide) ?_
    refine GP.ti (nI 1) (by decide) ?_
    refine g_istore_n (pc := 22) [(2, .int (nI 1)), (0, .ref X), (1, .int (-2))] dX11_refuse_22 rfl (by decide) rfl ?_
    refine g_iload_n (pc := 23) 0 dX11_refuse_23 rfl rfl ?_
    refine n_if_lt (pc := 24) 46 dX11_refuse_24 (by decide) (by omega) ?_
    refine g_iload_n (pc := 27) 0 dX11_refuse_27 rfl rfl ?_
    refine g_aload_n (pc := 28) 1 dX11_refuse_28 rfl rfl ?_
    refine g_get (pc := 29) dX11_refuse_29 fk_X11_64 (lk_eq hX) rfl ?_
    refine g_alen (pc := 32) dX11_refuse_32 (lk_ne (by omega) hg) (by decide) ?_
    refine n_icmp_ge (pc := 33) 46 dX11_refuse_33 (by decide) (by omega) (by omega) (fun hd => ?_) (fun hd => ?_)
    · exact absurd hd (by decide)
    · refine g_aload_n (pc := 36) 1 dX11_refuse_36 rfl rfl ?_
      refine g_get (pc := 37) dX11_refuse_37 fk_X11_64 (lk_eq hX) rfl ?_
      refine g_iload_n (pc := 40) 0 dX11_refuse_40 rfl rfl ?_
      refine g_dup2 (pc := 41) dX11_refuse_41 rfl rfl ?_
      refine g_iald (pc := 42) 1 dX11_refuse_42 (lk_ne (by omega) hg) (IXn (by omega) (by omega)) ?_
      refine g_iconst (pc := 43) (v := nI 1) dX11_refuse_43 (by decide) ?_
      refine g_iadd (pc := 44) dX11_refuse_44 ?_
      refine g_iast (pc := 45) 1 dX11_refuse_45 (lk_ne (by omega) hg) (IXn (by omega) (by omega)) ?_
      refine g_iload_n (pc := 46) 2 dX11_refuse_46 rfl rfl ?_
      have hE : EX (fun i => i = X ∨ i = X + 138) 0 0 w ((w.set X (.inr (10, [.ref (X + 1), .ref (X + 3), .ref (X + 12), .ref (X + 52), .ref (X + 112), .ref (X + 132), .ref (X + 135), .ref (X + 136), .ref (X + 137), .ref (X + 138), .ref s, .int fa, .int (-2)]))).set (X + 138) (aI 0 5 (upd g 1 ((g 1) + (nI 1))))) := EX.of ((FR.st (c' := aI 0 5 (upd g 1 ((g 1) + (nI 1)))) (FR.st (c' := .inr (10, [.ref (X + 1), .ref (X + 3), .ref (X + 12), .ref (X + 52), .ref (X + 112), .ref (X + 132), .ref (X + 135), .ref (X + 136), .ref (X + 137), .ref (X + 138), .ref s, .int fa, .int (-2)])) FR.rf hX rfl (by omega)) (lk_ne (by omega) hg) rfl (by omega))) (fun _ h => h)
      have hS : ∀ i, (i = X ∨ i = X + 138) → i < X + 139 := fun i hi => by omega
      exact g_iret (pc := 47) dX11_refuse_47 ⟨rfl, ⟨⟨s, (lk_ne (by omega) (lk_eq hX)), hs.ex hE hS⟩, htp.ex hE (by omega) (by omega), hW.ex hE (fun i h => by omega), hpa.ex hE (fun i _ _ => by omega) hS, him.ex hE (by omega) hS, ⟨_, (lk_eq (lk_ne (by omega) hg)), fun i hi => by unfold incr; by_cases e : i = 1; · { rw [if_pos e, e, upd_s, hgi _ (by omega)]; exact nI_inc _ 1 }; · { rw [if_neg e, upd_n e]; exact hgi i hi }⟩⟩, hE.mono (fun i hi => by unfold boxS; omega)⟩
theorem sp_refuse4 (w : Wd) {X tl : Nat} {tb : Nat → Int32} {fa st : Int32} {rf : Nat → Nat} {sh : SV} {pn : Nat} {pk : Nat → Nat} {ps : Nat → SV} {im : Nat → Option SV} (hB : bxC w X tl tb fa st rf sh pn pk ps im) : EX11_refuse [.ref X, .int (-4)] w (fun r w' => r = some (.int (-4)) ∧ bxC w' X tl tb fa (-4) (incr rf 2) sh pn pk ps im ∧ EX (boxS X) 0 0 w w') := by
  refine EP.of (plainFor_of_name (by decide)) [(0, .ref X), (1, .int (-4))] rfl (Nat.le_of_ble_eq_true rfl) (fun r wf h => by obtain ⟨rfl, -⟩ := h; trivial) ?_
  show BX11_refuse w _ w 0 [(0, .ref X), (1, .int (-4))] []
  obtain ⟨⟨s, hX, hs⟩, htp, hW, hpa, him, hrf⟩ := hB
  obtain ⟨g, hg, hgi⟩ := id hrf
  refine g_aload_n (pc := 0) 0 dX11_refuse_0 rfl rfl ?_
  refine g_iload_n (pc := 1) 1 dX11_refuse_1 rfl rfl ?_
  refine g_put (pc := 2) [.ref (X + 1), .ref (X + 3), .ref (X + 12), .ref (X + 52), .ref (X + 112), .ref (X + 132), .ref (X + 135), .ref (X + 136), .ref (X + 137), .ref (X + 138), .ref s, .int fa, .int (-4)] dX11_refuse_2 fk_X11_77 hX (Nat.le_of_ble_eq_true rfl) rfl rfl ?_
  refine g_iload_n (pc := 5) 1 dX11_refuse_5 rfl rfl ?_
  refine g_bipush (pc := 6) (v := -2) dX11_refuse_6 (by decide) ?_
  refine g_icmp_lt (pc := 8) 18 dX11_refuse_8 (by decide) (fun hc => ?_) (fun hc => ?_)
  · refine g_iload_n (pc := 18) 1 dX11_refuse_18 rfl rfl ?_
    refine g_ineg (pc := 19) dX11_refuse_19 ?_
    refine g_iconst (pc := 20) (v := nI 2) dX11_refuse_20 (by decide) ?_
    refine g_isub (pc := 21) dX11_refuse_21 ?_
    refine GP.ti (nI 2) (by decide) ?_
    refine g_istore_n (pc := 22) [(2, .int (nI 2)), (0, .ref X), (1, .int (-4))] dX11_refuse_22 rfl (by decide) rfl ?_
    refine g_iload_n (pc := 23) 0 dX11_refuse_23 rfl rfl ?_
    refine n_if_lt (pc := 24) 46 dX11_refuse_24 (by decide) (by omega) ?_
    refine g_iload_n (pc := 27) 0 dX11_refuse_27 rfl rfl ?_
    refine g_aload_n (pc := 28) 1 dX11_refuse_28 rfl rfl ?_
    refine g_get (pc := 29) dX11_refuse_29 fk_X11_64 (lk_eq hX) rfl ?_
    refine g_alen (pc := 32) dX11_refuse_32 (lk_ne (by omega) hg) (by decide) ?_
    refine n_icmp_ge (pc := 33) 46 dX11_refuse_33 (by decide) (by omega) (by omega) (fun hd => ?_) (fun hd => ?_)
    · exact absurd hd (by decide)
    · refine g_aload_n (pc := 36) 1 dX11_refuse_36 rfl rfl ?_
      refine g_get (pc := 37) dX11_refuse_37 fk_X11_64 (lk_eq hX) rfl ?_
      refine g_iload_n (pc := 40) 0 dX11_refuse_40 rfl rfl ?_
      refine g_dup2 (pc := 41) dX11_refuse_41 rfl rfl ?_
      refine g_iald (pc := 42) 2 dX11_refuse_42 (lk_ne (by omega) hg) (IXn (by omega) (by omega)) ?_
      refine g_iconst (pc := 43) (v := nI 1) dX11_refuse_43 (by decide) ?_
      refine g_iadd (pc := 44) dX11_refuse_44 ?_
      refine g_iast (pc := 45) 2 dX11_refuse_45 (lk_ne (by omega) hg) (IXn (by omega) (by omega)) ?_
      refine g_iload_n (pc := 46) 2 dX11_refuse_46 rfl rfl ?_
      have hE : EX (fun i => i = X ∨ i = X + 138) 0 0 w ((w.set X (.inr (10, [.ref (X + 1), .ref (X + 3), .ref (X + 12), .ref (X + 52), .ref (X + 112), .ref (X + 132), .ref (X + 135), .ref (X + 136), .ref (X + 137), .ref (X + 138), .ref s, .int fa, .int (-4)]))).set (X + 138) (aI 0 5 (upd g 2 ((g 2) + (nI 1))))) := EX.of ((FR.st (c' := aI 0 5 (upd g 2 ((g 2) + (nI 1)))) (FR.st (c' := .inr (10, [.ref (X + 1), .ref (X + 3), .ref (X + 12), .ref (X + 52), .ref (X + 112), .ref (X + 132), .ref (X + 135), .ref (X + 136), .ref (X + 137), .ref (X + 138), .ref s, .int fa, .int (-4)])) FR.rf hX rfl (by omega)) (lk_ne (by omega) hg) rfl (by omega))) (fun _ h => h)
      have hS : ∀ i, (i = X ∨ i = X + 138) → i < X + 139 := fun i hi => by omega
      exact g_iret (pc := 47) dX11_refuse_47 ⟨rfl, ⟨⟨s, (lk_ne (by omega) (lk_eq hX)), hs.ex hE hS⟩, htp.ex hE (by omega) (by omega), hW.ex hE (fun i h => by omega), hpa.ex hE (fun i _ _ => by omega) hS, him.ex hE (by omega) hS, ⟨_, (lk_eq (lk_ne (by omega) hg)), fun i hi => by unfold incr; by_cases e : i = 2; · { rw [if_pos e, e, upd_s, hgi _ (by omega)]; exact nI_inc _ 1 }; · { rw [if_neg e, upd_n e]; exact hgi i hi }⟩⟩, hE.mono (fun i hi => by unfold boxS; omega)⟩
  · exact absurd hc (by decide)
theorem sp_refuse5 (w : Wd) {X tl : Nat} {tb : Nat → Int32} {fa st : Int32} {rf : Nat → Nat} {sh : SV} {pn : Nat} {pk : Nat → Nat} {ps : Nat → SV} {im : Nat → Option SV} (hB : bxC w X tl tb fa st rf sh pn pk ps im) : EX11_refuse [.ref X, .int (-5)] w (fun r w' => r = some (.int (-5)) ∧ bxC w' X tl tb fa (-5) (incr rf 3) sh pn pk ps im ∧ EX (boxS X) 0 0 w w') := by
  refine EP.of (plainFor_of_name (by decide)) [(0, .ref X), (1, .int (-5))] rfl (Nat.le_of_ble_eq_true rfl) (fun r wf h => by obtain ⟨rfl, -⟩ := h; trivial) ?_
  show BX11_refuse w _ w 0 [(0, .ref X), (1, .int (-5))] []
  obtain ⟨⟨s, hX, hs⟩, htp, hW, hpa, him, hrf⟩ := hB
  obtain ⟨g, hg, hgi⟩ := id hrf
  refine g_aload_n (pc := 0) 0 dX11_refuse_0 rfl rfl ?_
  refine g_iload_n (pc := 1) 1 dX11_refuse_1 rfl rfl ?_
  refine g_put (pc := 2) [.ref (X + 1), .ref (X + 3), .ref (X + 12), .ref (X + 52), .ref (X + 112), .ref (X + 132), .ref (X + 135), .ref (X + 136), .ref (X + 137), .ref (X + 138), .ref s, .int fa, .int (-5)] dX11_refuse_2 fk_X11_77 hX (Nat.le_of_ble_eq_true rfl) rfl rfl ?_
  refine g_iload_n (pc := 5) 1 dX11_refuse_5 rfl rfl ?_
  refine g_bipush (pc := 6) (v := -2) dX11_refuse_6 (by decide) ?_
  refine g_icmp_lt (pc := 8) 18 dX11_refuse_8 (by decide) (fun hc => ?_) (fun hc => ?_)
  · refine g_iload_n (pc := 18) 1 dX11_refuse_18 rfl rfl ?_
    refine g_ineg (pc := 19) dX11_refuse_19 ?_
    refine g_iconst (pc := 20) (v := nI 2) dX11_refuse_20 (by decide) ?_
    refine g_isub (pc := 21) dX11_refuse_21 ?_
    refine GP.ti (nI 3) (by decide) ?_
    refine g_istore_n (pc := 22) [(2, .int (nI 3)), (0, .ref X), (1, .int (-5))] dX11_refuse_22 rfl (by decide) rfl ?_
    refine g_iload_n (pc := 23) 0 dX11_refuse_23 rfl rfl ?_
    refine n_if_lt (pc := 24) 46 dX11_refuse_24 (by decide) (by omega) ?_
    refine g_iload_n (pc := 27) 0 dX11_refuse_27 rfl rfl ?_
    refine g_aload_n (pc := 28) 1 dX11_refuse_28 rfl rfl ?_
    refine g_get (pc := 29) dX11_refuse_29 fk_X11_64 (lk_eq hX) rfl ?_
    refine g_alen (pc := 32) dX11_refuse_32 (lk_ne (by omega) hg) (by decide) ?_
    refine n_icmp_ge (pc := 33) 46 dX11_refuse_33 (by decide) (by omega) (by omega) (fun hd => ?_) (fun hd => ?_)
    · exact absurd hd (by decide)
    · refine g_aload_n (pc := 36) 1 dX11_refuse_36 rfl rfl ?_
      refine g_get (pc := 37) dX11_refuse_37 fk_X11_64 (lk_eq hX) rfl ?_
      refine g_iload_n (pc := 40) 0 dX11_refuse_40 rfl rfl ?_
      refine g_dup2 (pc := 41) dX11_refuse_41 rfl rfl ?_
      refine g_iald (pc := 42) 3 dX11_refuse_42 (lk_ne (by omega) hg) (IXn (by omega) (by omega)) ?_
      refine g_iconst (pc := 43) (v := nI 1) dX11_refuse_43 (by decide) ?_
      refine g_iadd (pc := 44) dX11_refuse_44 ?_
      refine g_iast (pc := 45) 3 dX11_refuse_45 (lk_ne (by omega) hg) (IXn (by omega) (by omega)) ?_
      refine g_iload_n (pc := 46) 2 dX11_refuse_46 rfl rfl ?_
      have hE : EX (fun i => i = X ∨ i = X + 138) 0 0 w ((w.set X (.inr (10, [.ref (X + 1), .ref (X + 3), .ref (X + 12), .ref (X + 52), .ref (X + 112), .ref (X + 132), .ref (X + 135), .ref (X + 136), .ref (X + 137), .ref (X + 138), .ref s, .int fa, .int (-5)]))).set (X + 138) (aI 0 5 (upd g 3 ((g 3) + (nI 1))))) := EX.of ((FR.st (c' := aI 0 5 (upd g 3 ((g 3) + (nI 1)))) (FR.st (c' := .inr (10, [.ref (X + 1), .ref (X + 3), .ref (X + 12), .ref (X + 52), .ref (X + 112), .ref (X + 132), .ref (X + 135), .ref (X + 136), .ref (X + 137), .ref (X + 138), .ref s, .int fa, .int (-5)])) FR.rf hX rfl (by omega)) (lk_ne (by omega) hg) rfl (by omega))) (fun _ h => h)
      have hS : ∀ i, (i = X ∨ i = X + 138) → i < X + 139 := fun i hi => by omega
      exact g_iret (pc := 47) dX11_refuse_47 ⟨rfl, ⟨⟨s, (lk_ne (by omega) (lk_eq hX)), hs.ex hE hS⟩, htp.ex hE (by omega) (by omega), hW.ex hE (fun i h => by omega), hpa.ex hE (fun i _ _ => by omega) hS, him.ex hE (by omega) hS, ⟨_, (lk_eq (lk_ne (by omega) hg)), fun i hi => by unfold incr; by_cases e : i = 3; · { rw [if_pos e, e, upd_s, hgi _ (by omega)]; exact nI_inc _ 1 }; · { rw [if_neg e, upd_n e]; exact hgi i hi }⟩⟩, hE.mono (fun i hi => by unfold boxS; omega)⟩
  · exact absurd hc (by decide)
theorem sp_refuse6 (w : Wd) {X tl : Nat} {tb : Nat → Int32} {fa st : Int32} {rf : Nat → Nat} {sh : SV} {pn : Nat} {pk : Nat → Nat} {ps : Nat → SV} {im : Nat → Option SV} (hB : bxC w X tl tb fa st rf sh pn pk ps im) : EX11_refuse [.ref X, .int (-6)] w (fun r w' => r = some (.int (-6)) ∧ bxC w' X tl tb fa (-6) (incr rf 4) sh pn pk ps im ∧ EX (boxS X) 0 0 w w') := by
  refine EP.of (plainFor_of_name (by decide)) [(0, .ref X), (1, .int (-6))] rfl (Nat.le_of_ble_eq_true rfl) (fun r wf h => by obtain ⟨rfl, -⟩ := h; trivial) ?_
  show BX11_refuse w _ w 0 [(0, .ref X), (1, .int (-6))] []
  obtain ⟨⟨s, hX, hs⟩, htp, hW, hpa, him, hrf⟩ := hB
  obtain ⟨g, hg, hgi⟩ := id hrf
  refine g_aload_n (pc := 0) 0 dX11_refuse_0 rfl rfl ?_
  refine g_iload_n (pc := 1) 1 dX11_refuse_1 rfl rfl ?_
  refine g_put (pc := 2) [.ref (X + 1), .ref (X + 3), .ref (X + 12), .ref (X + 52), .ref (X + 112), .ref (X + 132), .ref (X + 135), .ref (X + 136), .ref (X + 137), .ref (X + 138), .ref s, .int fa, .int (-6)] dX11_refuse_2 fk_X11_77 hX (Nat.le_of_ble_eq_true rfl) rfl rfl ?_
  refine g_iload_n (pc := 5) 1 dX11_refuse_5 rfl rfl ?_
  refine g_bipush (pc := 6) (v := -2) dX11_refuse_6 (by decide) ?_
  refine g_icmp_lt (pc := 8) 18 dX11_refuse_8 (by decide) (fun hc => ?_) (fun hc => ?_)
  · refine g_iload_n (pc := 18) 1 dX11_refuse_18 rfl rfl ?_
    refine g_ineg (pc := 19) dX11_refuse_19 ?_
    refine g_iconst (pc := 20) (v := nI 2) dX11_refuse_20 (by decide) ?_
    refine g_isub (pc := 21) dX11_refuse_21 ?_
    refine GP.ti (nI 4) (by decide) ?_
    refine g_istore_n (pc := 22) [(2, .int (nI 4)), (0, .ref X), (1, .int (-6))] dX11_refuse_22 rfl (by decide) rfl ?_
    refine g_iload_n (pc := 23) 0 dX11_refuse_23 rfl rfl ?_
    refine n_if_lt (pc := 24) 46 dX11_refuse_24 (by decide) (by omega) ?_
    refine g_iload_n (pc := 27) 0 dX11_refuse_27 rfl rfl ?_
    refine g_aload_n (pc := 28) 1 dX11_refuse_28 rfl rfl ?_
    refine g_get (pc := 29) dX11_refuse_29 fk_X11_64 (lk_eq hX) rfl ?_
    refine g_alen (pc := 32) dX11_refuse_32 (lk_ne (by omega) hg) (by decide) ?_
    refine n_icmp_ge (pc := 33) 46 dX11_refuse_33 (by decide) (by omega) (by omega) (fun hd => ?_) (fun hd => ?_)
    · exact absurd hd (by decide)
    · refine g_aload_n (pc := 36) 1 dX11_refuse_36 rfl rfl ?_
      refine g_get (pc := 37) dX11_refuse_37 fk_X11_64 (lk_eq hX) rfl ?_
      refine g_iload_n (pc := 40) 0 dX11_refuse_40 rfl rfl ?_
      refine g_dup2 (pc := 41) dX11_refuse_41 rfl rfl ?_
      refine g_iald (pc := 42) 4 dX11_refuse_42 (lk_ne (by omega) hg) (IXn (by omega) (by omega)) ?_
      refine g_iconst (pc := 43) (v := nI 1) dX11_refuse_43 (by decide) ?_
      refine g_iadd (pc := 44) dX11_refuse_44 ?_
      refine g_iast (pc := 45) 4 dX11_refuse_45 (lk_ne (by omega) hg) (IXn (by omega) (by omega)) ?_
      refine g_iload_n (pc := 46) 2 dX11_refuse_46 rfl rfl ?_
      have hE : EX (fun i => i = X ∨ i = X + 138) 0 0 w ((w.set X (.inr (10, [.ref (X + 1), .ref (X + 3), .ref (X + 12), .ref (X + 52), .ref (X + 112), .ref (X + 132), .ref (X + 135), .ref (X + 136), .ref (X + 137), .ref (X + 138), .ref s, .int fa, .int (-6)]))).set (X + 138) (aI 0 5 (upd g 4 ((g 4) + (nI 1))))) := EX.of ((FR.st (c' := aI 0 5 (upd g 4 ((g 4) + (nI 1)))) (FR.st (c' := .inr (10, [.ref (X + 1), .ref (X + 3), .ref (X + 12), .ref (X + 52), .ref (X + 112), .ref (X + 132), .ref (X + 135), .ref (X + 136), .ref (X + 137), .ref (X + 138), .ref s, .int fa, .int (-6)])) FR.rf hX rfl (by omega)) (lk_ne (by omega) hg) rfl (by omega))) (fun _ h => h)
      have hS : ∀ i, (i = X ∨ i = X + 138) → i < X + 139 := fun i hi => by omega
      exact g_iret (pc := 47) dX11_refuse_47 ⟨rfl, ⟨⟨s, (lk_ne (by omega) (lk_eq hX)), hs.ex hE hS⟩, htp.ex hE (by omega) (by omega), hW.ex hE (fun i h => by omega), hpa.ex hE (fun i _ _ => by omega) hS, him.ex hE (by omega) hS, ⟨_, (lk_eq (lk_ne (by omega) hg)), fun i hi => by unfold incr; by_cases e : i = 4; · { rw [if_pos e, e, upd_s, hgi _ (by omega)]; exact nI_inc _ 1 }; · { rw [if_neg e, upd_n e]; exact hgi i hi }⟩⟩, hE.mono (fun i hi => by unfold boxS; omega)⟩
  · exact absurd hc (by decide)
abbrev BX11_moveOn (w0 : Wd) (Post : Option Value → Wd → Prop) (w : Wd) (pc : Nat) (ls : List (Nat × Value)) (st : List Value) : Prop := GP "moveOn" RX11 cX11_moveOn 3 none 1 39 none w0 Post w pc ls st
abbrev EX11_moveOn (As : List Value) (w : Wd) (Post : Option Value → Wd → Prop) : Prop := EP yX11_moveOn cX11_moveOn 3 none 1 As w Post
theorem sp_moveOn (w : Wd) {X tl : Nat} {tb : Nat → Int32} {fa st : Int32} {rf : Nat → Nat} {sh : SV} {pn : Nat} {pk : Nat → Nat} {ps : Nat → SV} {im : Nat → Option SV} (hB : bxC w X tl tb fa st rf sh pn pk ps im) {kd y : Nat} {V : SV} (hN : shC w (X + 139) y V) : EX11_moveOn [.ref X, .int (nI kd), .ref y] w (fun r w' => r = none ∧ bxC w' X tl tb fa st rf V (min (pn + 1) 8) (psh pn pk kd) (psh pn ps sh) im ∧ EX (boxS X) 0 0 w w') := by
  refine EP.of (plainFor_of_name (by decide)) [(0, .ref X), (1, .int (nI kd)), (2, .ref y)] rfl (Nat.le_of_ble_eq_true rfl) (fun r wf h => by obtain ⟨rfl, -⟩ := h; trivial) ?_
  show BX11_moveOn w _ w 0 [(0, .ref X), (1, .int (nI kd)), (2, .ref y)] []
  obtain ⟨⟨s, hX, hs⟩, htp, hW, hpa, him, hrf⟩ := hB
  obtain ⟨hp8, h, g, hp1, hp2, hp3, hpi⟩ := id hpa
  obtain ⟨sp9, sf9, sh9, hs1, hs2, hs3, hs4, hs5, hs6⟩ := id hs
  obtain ⟨yp, yf, yh, hy1, hy2, hy3, hy4, hy5, hy6⟩ := id hN
  refine g_aload_n (pc := 0) 0 dX11_moveOn_0 rfl rfl ?_
  refine g_get (pc := 1) dX11_moveOn_1 fk_X11_47 hX rfl ?_
  refine g_iload_n (pc := 4) 1 dX11_moveOn_4 rfl rfl ?_
  refine g_aload_n (pc := 5) 0 dX11_moveOn_5 rfl rfl ?_
  refine g_get (pc := 6) dX11_moveOn_6 fk_X11_69 hX rfl ?_
  by_cases h8 : pn = 8
  · subst h8
    refine g_callV (pc := 9) [.int (nI kd), .ref s] dX11_moveOn_9 cv_X11_358.1 cv_X11_358.2.1 cv_X11_358.2.2.1 cv_X11_358.2.2.2 hp1 rfl rfl (Nat.le_of_ble_eq_true rfl) (by decide) (by decide) (sp_keepFull _ (y := nI kd) hp1 hp2 hp3 (by omega) (by omega) (by omega) hs1 (by omega) (by omega) (by omega) rfl (fun i hi => by obtain ⟨v, e1, ⟨p8, f8, h8, e2, -⟩, -⟩ := hpi i hi; exact ⟨v, e1, _, e2⟩)) ?_
    rintro _ w9 ⟨rfl, h', g', hh', hg', e9⟩
    refine GP.weq _ e9 ?_
    refine g_aload_n (pc := 12) 0 dX11_moveOn_12 rfl rfl ?_
    refine g_aload_n (pc := 13) 2 dX11_moveOn_13 rfl rfl ?_
    refine g_put (pc := 14) [.ref (X + 1), .ref (X + 3), .ref (X + 12), .ref (X + 52), .ref (X + 112), .ref (X + 132), .ref (X + 135), .ref (X + 136), .ref (X + 137), .ref (X + 138), .ref y, .int fa, .int st] dX11_moveOn_14 fk_X11_69 (lk_ne (by omega) (lk_ne (by omega) (lk_ne (by omega) hX))) (Nat.le_of_ble_eq_true rfl) rfl rfl ?_
    have hE : EX (fun i => i = X ∨ (X + 132 ≤ i ∧ i ≤ X + 134)) 0 0 w ((((w.set (X + 133) (aR 5 8 h')).set (X + 134) (aI 0 8 g')).set (X + 132) (.inr (5, [.ref (X + 133), .ref (X + 134), .int (nI 8)]))).set X (.inr (10, [.ref (X + 1), .ref (X + 3), .ref (X + 12), .ref (X + 52), .ref (X + 112), .ref (X + 132), .ref (X + 135), .ref (X + 136), .ref (X + 137), .ref (X + 138), .ref y, .int fa, .int st]))) := EX.of ((FR.st (c' := .inr (10, [.ref (X + 1), .ref (X + 3), .ref (X + 12), .ref (X + 52), .ref (X + 112), .ref (X + 132), .ref (X + 135), .ref (X + 136), .ref (X + 137), .ref (X + 138), .ref y, .int fa, .int st])) (FR.st (c' := .inr (5, [.ref (X + 133), .ref (X + 134), .int (nI 8)])) (FR.st (c' := aI 0 8 g') (FR.st (c' := aR 5 8 h') FR.rf hp2 rfl (by omega)) (lk_ne (by omega) hp3) rfl (by omega)) (lk_ne (by omega) (lk_ne (by omega) hp1)) rfl (by omega)) (lk_ne (by omega) (lk_ne (by omega) (lk_ne (by omega) hX))) rfl (by omega))) (fun _ h => h)
    have hS : ∀ i, (i = X ∨ (X + 132 ≤ i ∧ i ≤ X + 134)) → i < X + 139 := fun i hi => by omega
    have hsE := hs.ex hE hS
    exact g_vret (pc := 17) dX11_moveOn_17 ⟨rfl, ⟨⟨y, (lk_eq (lk_ne (by omega) (lk_ne (by omega) (lk_ne (by omega) hX)))), hN.ex hE hS⟩, htp.ex hE (by omega) (by omega), hW.ex hE (fun i h => by omega), ⟨by omega, _, _, (lk_ne (by omega) (lk_eq (lk_ne (by omega) (lk_ne (by omega) hp1)))), (lk_ne (by omega) (lk_ne (by omega) (lk_ne (by omega) (lk_eq hp2)))), (lk_ne (by omega) (lk_ne (by omega) (lk_eq (lk_ne (by omega) hp3)))), fun i hi => by
            unfold psh
            rw [if_pos rfl, if_pos rfl, hh' i (by omega), hg' i (by omega)]
            by_cases e : i < 7
            · rw [if_pos e, if_pos e, if_pos e, if_pos e]
              obtain ⟨v, e1, e2, e3⟩ := hpi (i + 1) (by omega)
              exact ⟨v, e1, e2.ex hE hS, e3⟩
            · rw [if_neg e, if_neg e, if_neg e, if_neg e]
              exact ⟨s, rfl, hsE, rfl⟩⟩, him.ex hE (by omega) hS, hrf.ex hE (by omega)⟩, hE.mono (fun i hi => by unfold boxS; omega)⟩
  · refine g_callV (pc := 9) [.int (nI kd), .ref s] dX11_moveOn_9 cv_X11_358.1 cv_X11_358.2.1 cv_X11_358.2.2.1 cv_X11_358.2.2.2 hp1 rfl rfl (Nat.le_of_ble_eq_true rfl) (by decide) (by decide) (sp_keep _ (y := nI kd) hp1 hp2 hp3 (by omega) (by omega) (by omega) hs1 (by omega) (by omega) (by omega) (by omega)) ?_
    rintro _ w9 ⟨rfl, e9⟩
    refine GP.weq _ e9 ?_
    rw [show min (pn + 1) 8 = pn + 1 by omega]
    refine g_aload_n (pc := 12) 0 dX11_moveOn_12 rfl rfl ?_
    refine g_aload_n (pc := 13) 2 dX11_moveOn_13 rfl rfl ?_
    refine g_put (pc := 14) [.ref (X + 1), .ref (X + 3), .ref (X + 12), .ref (X + 52), .ref (X + 112), .ref (X + 132), .ref (X + 135), .ref (X + 136), .ref (X + 137), .ref (X + 138), .ref y, .int fa, .int st] dX11_moveOn_14 fk_X11_69 (lk_ne (by omega) (lk_ne (by omega) (lk_ne (by omega) hX))) (Nat.le_of_ble_eq_true rfl) rfl rfl ?_
    have hE : EX (fun i => i = X ∨ (X + 132 ≤ i ∧ i ≤ X + 134)) 0 0 w ((((w.set (X + 133) (aR 5 8 (va_up h pn (some s)))).set (X + 134) (aI 0 8 (upd g pn (nI kd)))).set (X + 132) (.inr (5, [.ref (X + 133), .ref (X + 134), .int (nI (pn + 1))]))).set X (.inr (10, [.ref (X + 1), .ref (X + 3), .ref (X + 12), .ref (X + 52), .ref (X + 112), .ref (X + 132), .ref (X + 135), .ref (X + 136), .ref (X + 137), .ref (X + 138), .ref y, .int fa, .int st]))) := EX.of ((FR.st (c' := .inr (10, [.ref (X + 1), .ref (X + 3), .ref (X + 12), .ref (X + 52), .ref (X + 112), .ref (X + 132), .ref (X + 135), .ref (X + 136), .ref (X + 137), .ref (X + 138), .ref y, .int fa, .int st])) (FR.st (c' := .inr (5, [.ref (X + 133), .ref (X + 134), .int (nI (pn + 1))])) (FR.st (c' := aI 0 8 (upd g pn (nI kd))) (FR.st (c' := aR 5 8 (va_up h pn (some s))) FR.rf hp2 rfl (by omega)) (lk_ne (by omega) hp3) rfl (by omega)) (lk_ne (by omega) (lk_ne (by omega) hp1)) rfl (by omega)) (lk_ne (by omega) (lk_ne (by omega) (lk_ne (by omega) hX))) rfl (by omega))) (fun _ h => h)
    have hS : ∀ i, (i = X ∨ (X + 132 ≤ i ∧ i ≤ X + 134)) → i < X + 139 := fun i hi => by omega
    have hsE := hs.ex hE hS
    exact g_vret (pc := 17) dX11_moveOn_17 ⟨rfl, ⟨⟨y, (lk_eq (lk_ne (by omega) (lk_ne (by omega) (lk_ne (by omega) hX)))), hN.ex hE hS⟩, htp.ex hE (by omega) (by omega), hW.ex hE (fun i h => by omega), ⟨by omega, _, _, (lk_ne (by omega) (lk_eq (lk_ne (by omega) (lk_ne (by omega) hp1)))), (lk_ne (by omega) (lk_ne (by omega) (lk_ne (by omega) (lk_eq hp2)))), (lk_ne (by omega) (lk_ne (by omega) (lk_eq (lk_ne (by omega) hp3)))), fun i hi => by
            unfold psh
            rw [if_neg h8, if_neg h8]
            by_cases e : i = pn
            · rw [if_pos e, if_pos e, e, vaup_s, upd_s]
              exact ⟨s, rfl, hsE, rfl⟩
            · rw [if_neg e, if_neg e, vaup_n e, upd_n e]
              obtain ⟨v, e1, e2, e3⟩ := hpi i (by omega)
              exact ⟨v, e1, e2.ex hE hS, e3⟩⟩, him.ex hE (by omega) hS, hrf.ex hE (by omega)⟩, hE.mono (fun i hi => by unfold boxS; omega)⟩
