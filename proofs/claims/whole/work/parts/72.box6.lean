/-! MahlerBox: image, back, undo, count, coefficient -/
def setO {α : Type} (a : Nat → α) (k : Nat) (x : α) : Nat → α := fun i => if i = k then x else a i
abbrev BX11_image (w0 : Wd) (Post : Option Value → Wd → Prop) (w : Wd) (pc : Nat) (ls : List (Nat × Value)) (st : List Value) : Prop := GP "image" RX11 cX11_image 2 (some .int) 1 39 none w0 Post w pc ls st
abbrev EX11_image (As : List Value) (w : Wd) (Post : Option Value → Wd → Prop) : Prop := EP yX11_image cX11_image 2 (some .int) 1 As w Post
theorem sp_image (w : Wd) {X tl : Nat} {tb : Nat → Int32} {fa st : Int32} {rf : Nat → Nat} {sh : SV} {pn : Nat} {pk : Nat → Nat} {ps : Nat → SV} {im : Nat → Option SV} (hB : bxC w X tl tb fa st rf sh pn pk ps im) {x : Int32} : EX11_image [.ref X, .int x] w (fun r w' => (¬ (0 ≤ x.toInt ∧ x.toInt ≤ 1) ∧ r = some (.int (-1)) ∧ bxC w' X tl tb fa (-1) (incr rf 0) sh pn pk ps im ∧ EX (boxS X) 0 0 w w') ∨ (∃ k, x = nI k ∧ k < 2 ∧ r = some (.int (nI (dSum (fun i => (sh.1 i).1) 8))) ∧ bxC w' X tl tb fa (nI 0) rf sh pn pk ps (setO im k (some sh)) ∧ EX (boxS X) 0 0 w w')) := by
  refine EP.of (plainFor_of_name (by decide)) [(0, .ref X), (1, .int x)] rfl (Nat.le_of_ble_eq_true rfl) (fun r wf h => by obtain ⟨-, rfl, -⟩ | ⟨k, -, -, rfl, -⟩ := h <;> trivial) ?_
  show BX11_image w _ w 0 [(0, .ref X), (1, .int x)] []
  have hB0 := id hB
  obtain ⟨⟨s, hX, hs⟩, htp, hW, hpa, him, hrf⟩ := hB
  have hs0 := id hs
  obtain ⟨sp9, sf9, sh9, hs1, hs2, hs3, hs4, hs5, hs6⟩ := hs
  obtain ⟨htl, tpl, tf, ht1, ht2, ht3⟩ := id htp
  obtain ⟨row9, hrow9⟩ := hW.2.2.2.2.1
  obtain ⟨spa9, hspa9⟩ := hW.2.2.2.2.2
  have z0 : (0 : Int32).toInt = 0 := by decide
  have z2 : (nI 2).toInt = 2 := by decide
  obtain ⟨mf, hm1, hm2⟩ := id him
  refine g_iload_n (pc := 0) 1 dX11_image_0 rfl rfl ?_
  refine g_if_lt (pc := 1) 9 dX11_image_1 (by decide) (fun h1 => ?_) (fun h1 => ?_)
  · rw [Int32.lt_iff_toInt_lt, z0] at h1
    refine g_aload_n (pc := 9) 0 dX11_image_9 rfl rfl ?_
    refine g_iconst (pc := 10) (v := -1) dX11_image_10 (by decide) ?_
    refine g_callV (pc := 11) [.int (-1)] dX11_image_11 cv_X11_98.1 cv_X11_98.2.1 cv_X11_98.2.2.1 cv_X11_98.2.2.2 hX rfl rfl (Nat.le_of_ble_eq_true rfl) (by decide) (by decide) (sp_refuse1 _ hB0) ?_
    rintro _ w5 ⟨rfl, hB5, hE5⟩
    exact g_iret (pc := 14) dX11_image_14 (Or.inl ⟨by omega, rfl, hB5, hE5⟩)
  · rw [Int32.lt_iff_toInt_lt, z0] at h1
    refine g_iload_n (pc := 4) 1 dX11_image_4 rfl rfl ?_
    refine g_iconst (pc := 5) (v := nI 2) dX11_image_5 (by decide) ?_
    refine g_icmp_lt (pc := 6) 15 dX11_image_6 (by decide) (fun h2 => ?_) (fun h2 => ?_)
    · rw [Int32.lt_iff_toInt_lt, z2] at h2
      obtain ⟨k, hke, hk⟩ : ∃ k : Nat, x = nI k ∧ k < 2 := ⟨x.toInt.toNat, nI_toNat (by omega), by omega⟩
      subst hke
      refine g_aload_n (pc := 15) 0 dX11_image_15 rfl rfl ?_
      refine g_get (pc := 16) dX11_image_16 fk_X11_53 hX rfl ?_
      refine g_iload_n (pc := 19) 1 dX11_image_19 rfl rfl ?_
      refine g_aload_n (pc := 20) 0 dX11_image_20 rfl rfl ?_
      refine g_get (pc := 21) dX11_image_21 fk_X11_69 hX rfl ?_
      refine g_aast (pc := 24) k dX11_image_24 hm1 (by decide) (IXn (by omega) (by omega)) hs1 rfl ?_
      refine g_aload_n (pc := 25) 0 dX11_image_25 rfl rfl ?_
      refine g_aload_n (pc := 26) 0 dX11_image_26 rfl rfl ?_
      refine g_get (pc := 27) dX11_image_27 fk_X11_69 (lk_ne (by omega) hX) rfl ?_
      obtain ⟨w1, hw1⟩ : ∃ w1 : Wd, w1 = (w.set (X + 135) (aR 5 2 (va_up mf k (some s)))) := ⟨_, rfl⟩
      refine GP.weq w1 hw1.symm ?_
      have hE : EX (fun i => i = X + 135) 0 0 w w1 := by rw [hw1]; exact EX.of (FR.set (S := fun i => i = X + 135) hm1 rfl rfl) (fun _ h => h)
      have hS : ∀ i, i = X + 135 → i < X + 139 := fun i hi => by omega
      have hmm : w1[X + 135]? = some (aR 5 2 (va_up mf k (some s))) := by rw [hw1]; exact lk_eq hm1
      have hB1 : bxC w1 X tl tb fa st rf sh pn pk ps (setO im k (some sh)) := ⟨⟨s, hE.lk (by omega) hX, hs0.ex hE hS⟩, htp.ex hE (by omega) (by omega), hW.ex hE (fun i h => by omega), hpa.ex hE (fun i _ _ => by omega) hS, ⟨_, hmm, fun j hj => by
        unfold setO
        by_cases e : j = k
        · rw [if_pos e, e, vaup_s]
          exact ⟨fun V hV => by cases hV; exact ⟨s, rfl, hs0.ex hE hS⟩, fun h9 => by cases h9⟩
        · rw [if_neg e, vaup_n e]
          exact ⟨fun V hV => by obtain ⟨v, e1, e2⟩ := (hm2 j hj).1 V hV; exact ⟨v, e1, e2.ex hE hS⟩, (hm2 j hj).2⟩⟩, hrf.ex hE (by omega)⟩
      have hX1 := hE.lk (by omega) hX
      have hs11 := hE.lk (show ¬ s = X + 135 by omega) hs1
      have hs21 := hE.lk (show ¬ sp9 = X + 135 by omega) hs2
      refine g_callV (pc := 30) [] dX11_image_30 cv_X11_229.1 cv_X11_229.2.1 cv_X11_229.2.2.1 cv_X11_229.2.2.2 hs11 rfl rfl (Nat.le_of_ble_eq_true rfl) (by decide) (by decide) (sp_degrees _ (dg := fun i => (sh.1 i).1) hs11 hs21 (fun i hi => by obtain ⟨v, e1, e2⟩ := hs5 i hi; obtain ⟨b9, c9, e3, -⟩ := e2.ex hE hS; exact ⟨v, b9, e1, e3⟩)) ?_
      rintro _ w9 ⟨rfl, e9⟩
      refine GP.weq _ e9 ?_
      refine g_callV (pc := 33) [.int (nI (dSum (fun i => (sh.1 i).1) 8))] dX11_image_33 cv_X11_119.1 cv_X11_119.2.1 cv_X11_119.2.2.1 cv_X11_119.2.2.2 hX1 rfl rfl (Nat.le_of_ble_eq_true rfl) (by decide) (by decide) (sp_accept _ (x := nI (dSum (fun i => (sh.1 i).1) 8)) hB1) ?_
      rintro _ w5 ⟨rfl, hB5, hE5⟩
      exact g_iret (pc := 36) dX11_image_36 (Or.inr ⟨k, rfl, hk, rfl, hB5, ((hE.mono (fun i hi => by unfold boxS; omega)).tr hE5).le (by omega) (by omega)⟩)
    · rw [Int32.lt_iff_toInt_lt, z2] at h2
      refine g_aload_n (pc := 9) 0 dX11_image_9 rfl rfl ?_
      refine g_iconst (pc := 10) (v := -1) dX11_image_10 (by decide) ?_
      refine g_callV (pc := 11) [.int (-1)] dX11_image_11 cv_X11_98.1 cv_X11_98.2.1 cv_X11_98.2.2.1 cv_X11_98.2.2.2 hX rfl rfl (Nat.le_of_ble_eq_true rfl) (by decide) (by decide) (sp_refuse1 _ hB0) ?_
      rintro _ w5 ⟨rfl, hB5, hE5⟩
      exact g_iret (pc := 14) dX11_image_14 (Or.inl ⟨by omega, rfl, hB5, hE5⟩)
abbrev BX11_back (w0 : Wd) (Post : Option Value → Wd → Prop) (w : Wd) (pc : Nat) (ls : List (Nat × Value)) (st : List Value) : Prop := GP "back" RX11 cX11_back 3 (some .int) 1 39 none w0 Post w pc ls st
abbrev EX11_back (As : List Value) (w : Wd) (Post : Option Value → Wd → Prop) : Prop := EP yX11_back cX11_back 3 (some .int) 1 As w Post
theorem sp_back (w : Wd) {X tl : Nat} {tb : Nat → Int32} {fa st : Int32} {rf : Nat → Nat} {sh : SV} {pn : Nat} {pk : Nat → Nat} {ps : Nat → SV} {im : Nat → Option SV} (hB : bxC w X tl tb fa st rf sh pn pk ps im) {x : Int32} : EX11_back [.ref X, .int x] w (fun r w' => (¬ (0 ≤ x.toInt ∧ x.toInt ≤ 1) ∧ r = some (.int (-1)) ∧ bxC w' X tl tb fa (-1) (incr rf 0) sh pn pk ps im ∧ EX (boxS X) 0 0 w w') ∨ (∃ k, x = nI k ∧ k < 2 ∧ im k = none ∧ r = some (.int (-2)) ∧ bxC w' X tl tb fa (-2) (incr rf 1) sh pn pk ps im ∧ EX (boxS X) 0 0 w w') ∨ (∃ k V, x = nI k ∧ k < 2 ∧ im k = some V ∧ r = some (.int (nI (dSum (fun i => (V.1 i).1) 8))) ∧ bxC w' X tl tb fa (nI 0) rf V 0 pk ps im ∧ EX (boxS X) 0 0 w w')) := by
  refine EP.of (plainFor_of_name (by decide)) [(0, .ref X), (1, .int x)] rfl (Nat.le_of_ble_eq_true rfl) (fun r wf h => by obtain ⟨-, rfl, -⟩ | ⟨k, -, -, -, rfl, -⟩ | ⟨k, V, -, -, -, rfl, -⟩ := h <;> trivial) ?_
  show BX11_back w _ w 0 [(0, .ref X), (1, .int x)] []
  have hB0 := id hB
  obtain ⟨⟨s, hX, hs⟩, htp, hW, hpa, him, hrf⟩ := hB
  have hs0 := id hs
  obtain ⟨sp9, sf9, sh9, hs1, hs2, hs3, hs4, hs5, hs6⟩ := hs
  obtain ⟨htl, tpl, tf, ht1, ht2, ht3⟩ := id htp
  obtain ⟨row9, hrow9⟩ := hW.2.2.2.2.1
  obtain ⟨spa9, hspa9⟩ := hW.2.2.2.2.2
  have z0 : (0 : Int32).toInt = 0 := by decide
  have z2 : (nI 2).toInt = 2 := by decide
  obtain ⟨mf, hm1, hm2⟩ := id him
  refine g_iload_n (pc := 0) 1 dX11_back_0 rfl rfl ?_
  refine g_if_lt (pc := 1) 9 dX11_back_1 (by decide) (fun h1 => ?_) (fun h1 => ?_)
  · rw [Int32.lt_iff_toInt_lt, z0] at h1
    refine g_aload_n (pc := 9) 0 dX11_back_9 rfl rfl ?_
    refine g_iconst (pc := 10) (v := -1) dX11_back_10 (by decide) ?_
    refine g_callV (pc := 11) [.int (-1)] dX11_back_11 cv_X11_98.1 cv_X11_98.2.1 cv_X11_98.2.2.1 cv_X11_98.2.2.2 hX rfl rfl (Nat.le_of_ble_eq_true rfl) (by decide) (by decide) (sp_refuse1 _ hB0) ?_
    rintro _ w5 ⟨rfl, hB5, hE5⟩
    exact g_iret (pc := 14) dX11_back_14 (Or.inl ⟨by omega, rfl, hB5, hE5⟩)
  · rw [Int32.lt_iff_toInt_lt, z0] at h1
    refine g_iload_n (pc := 4) 1 dX11_back_4 rfl rfl ?_
    refine g_iconst (pc := 5) (v := nI 2) dX11_back_5 (by decide) ?_
    refine g_icmp_lt (pc := 6) 15 dX11_back_6 (by decide) (fun h2 => ?_) (fun h2 => ?_)
    · rw [Int32.lt_iff_toInt_lt, z2] at h2
      obtain ⟨k, hke, hk⟩ : ∃ k : Nat, x = nI k ∧ k < 2 := ⟨x.toInt.toNat, nI_toNat (by omega), by omega⟩
      subst hke
      rcases hmk : im k with _ | V
      · refine g_aload_n (pc := 15) 0 dX11_back_15 rfl rfl ?_
        refine g_get (pc := 16) dX11_back_16 fk_X11_53 hX rfl ?_
        refine g_iload_n (pc := 19) 1 dX11_back_19 rfl rfl ?_
        refine g_aald (pc := 20) (v := .null) k dX11_back_20 hm1 (by decide) (IXn (by omega) (by omega)) (by rw [(hm2 k hk).2 hmk]; rfl) ?_
        refine g_nstore_n (pc := 21) [(2, .null), (0, .ref X), (1, .int (nI k))] dX11_back_21 rfl (by decide) rfl ?_
        refine g_nload_n (pc := 22) 0 dX11_back_22 rfl rfl ?_
        refine g_ifnonnullN (pc := 23) dX11_back_23 ?_
        refine g_aload_n (pc := 26) 1 dX11_back_26 rfl rfl ?_
        refine g_bipush (pc := 27) (v := -2) dX11_back_27 (by decide) ?_
        refine g_callV (pc := 29) [.int (-2)] dX11_back_29 cv_X11_98.1 cv_X11_98.2.1 cv_X11_98.2.2.1 cv_X11_98.2.2.2 hX rfl rfl (Nat.le_of_ble_eq_true rfl) (by decide) (by decide) (sp_refuse2 _ hB0) ?_
        rintro _ w5 ⟨rfl, hB5, hE5⟩
        exact g_iret (pc := 32) dX11_back_32 (Or.inr (Or.inl ⟨k, rfl, hk, hmk, rfl, hB5, hE5⟩))
      · obtain ⟨v, hv, hvS⟩ := (hm2 k hk).1 V hmk
        obtain ⟨vp, vf, vh, hv1, hv2, hv3, hv4, hv5, hv6⟩ := id hvS
        obtain ⟨hp8, ph, pg, hp1, hp2, hp3, hpi⟩ := id hpa
        refine g_aload_n (pc := 15) 0 dX11_back_15 rfl rfl ?_
        refine g_get (pc := 16) dX11_back_16 fk_X11_53 hX rfl ?_
        refine g_iload_n (pc := 19) 1 dX11_back_19 rfl rfl ?_
        refine g_aald (pc := 20) (v := .ref v) k dX11_back_20 hm1 (by decide) (IXn (by omega) (by omega)) (by rw [hv]; rfl) ?_
        refine g_astore_n (pc := 21) [(2, .ref v), (0, .ref X), (1, .int (nI k))] dX11_back_21 rfl (by decide) rfl ?_
        refine g_aload_n (pc := 22) 0 dX11_back_22 rfl rfl ?_
        refine g_ifnonnull (pc := 23) 33 dX11_back_23 (by decide) ?_
        refine g_aload_n (pc := 33) 1 dX11_back_33 rfl rfl ?_
        refine g_aload_n (pc := 34) 0 dX11_back_34 rfl rfl ?_
        refine g_put (pc := 35) [.ref (X + 1), .ref (X + 3), .ref (X + 12), .ref (X + 52), .ref (X + 112), .ref (X + 132), .ref (X + 135), .ref (X + 136), .ref (X + 137), .ref (X + 138), .ref v, .int fa, .int st] dX11_back_35 fk_X11_69 hX (Nat.le_of_ble_eq_true rfl) rfl rfl ?_
        refine g_aload_n (pc := 38) 1 dX11_back_38 rfl rfl ?_
        refine g_get (pc := 39) dX11_back_39 fk_X11_47 (lk_eq hX) rfl ?_
        refine g_callV (pc := 42) [] dX11_back_42 cv_X11_232.1 cv_X11_232.2.1 cv_X11_232.2.2.1 cv_X11_232.2.2.2 (lk_ne (by omega) hp1) rfl rfl (Nat.le_of_ble_eq_true rfl) (by decide) (by decide) (sp_forget _ (lk_ne (by omega) hp1) (lk_ne (by omega) hp2) (lk_ne (by omega) hp3) (by omega) (by omega) (by omega)) ?_
        rintro _ w9 ⟨rfl, h', hh', e9⟩
        refine GP.weq _ e9 ?_
        obtain ⟨w1, hw1⟩ : ∃ w1 : Wd, w1 = (((w.set X (.inr (10, [.ref (X + 1), .ref (X + 3), .ref (X + 12), .ref (X + 52), .ref (X + 112), .ref (X + 132), .ref (X + 135), .ref (X + 136), .ref (X + 137), .ref (X + 138), .ref v, .int fa, .int st]))).set (X + 133) (aR 5 8 h')).set (X + 132) (.inr (5, [.ref (X + 133), .ref (X + 134), .int (nI 0)]))) := ⟨_, rfl⟩
        refine GP.weq w1 hw1.symm ?_
        have hE : EX (fun i => i = X ∨ i = X + 132 ∨ i = X + 133) 0 0 w w1 := by rw [hw1]; exact EX.of ((FR.st (c' := .inr (5, [.ref (X + 133), .ref (X + 134), .int (nI 0)])) (FR.st (c' := aR 5 8 h') (FR.st (c' := .inr (10, [.ref (X + 1), .ref (X + 3), .ref (X + 12), .ref (X + 52), .ref (X + 112), .ref (X + 132), .ref (X + 135), .ref (X + 136), .ref (X + 137), .ref (X + 138), .ref v, .int fa, .int st])) FR.rf hX rfl (by omega)) (lk_ne (by omega) hp2) rfl (by omega)) (lk_ne (by omega) (lk_ne (by omega) hp1)) rfl (by omega))) (fun _ h => h)
        have hS : ∀ i, (i = X ∨ i = X + 132 ∨ i = X + 133) → i < X + 139 := fun i hi => by omega
        have hX1 : w1[X]? = some (oB X v fa st) := by rw [hw1]; exact (lk_ne (by omega) (lk_ne (by omega) (lk_eq hX)))
        have hq1 : w1[X + 132]? = some (oA (X + 133) (X + 134) 0) := by rw [hw1]; exact (lk_eq (lk_ne (by omega) (lk_ne (by omega) hp1)))
        have hq2 : w1[X + 133]? = some (aR 5 8 h') := by rw [hw1]; exact (lk_ne (by omega) (lk_eq (lk_ne (by omega) hp2)))
        have hB1 : bxC w1 X tl tb fa st rf V 0 pk ps im := ⟨⟨v, hX1, hvS.ex hE hS⟩, htp.ex hE (by omega) (by omega), hW.ex hE (fun i h => by omega), ⟨by omega, h', pg, hq1, hq2, hE.lk (by omega) hp3, fun i hi => absurd hi (by omega)⟩, him.ex hE (by omega) hS, hrf.ex hE (by omega)⟩
        have hs11 := hE.lk (show ¬ (v = X ∨ v = X + 132 ∨ v = X + 133) by omega) hv1
        have hs21 := hE.lk (show ¬ (vp = X ∨ vp = X + 132 ∨ vp = X + 133) by omega) hv2
        refine g_aload_n (pc := 45) 1 dX11_back_45 rfl rfl ?_
        refine g_aload_n (pc := 46) 1 dX11_back_46 rfl rfl ?_
        refine g_get (pc := 47) dX11_back_47 fk_X11_69 hX1 rfl ?_
        refine g_callV (pc := 50) [] dX11_back_50 cv_X11_229.1 cv_X11_229.2.1 cv_X11_229.2.2.1 cv_X11_229.2.2.2 hs11 rfl rfl (Nat.le_of_ble_eq_true rfl) (by decide) (by decide) (sp_degrees _ (dg := fun i => (V.1 i).1) hs11 hs21 (fun i hi => by obtain ⟨v, e1, e2⟩ := hv5 i hi; obtain ⟨b9, c9, e3, -⟩ := e2.ex hE hS; exact ⟨v, b9, e1, e3⟩)) ?_
        rintro _ w9 ⟨rfl, e9⟩
        refine GP.weq _ e9 ?_
        refine g_callV (pc := 53) [.int (nI (dSum (fun i => (V.1 i).1) 8))] dX11_back_53 cv_X11_119.1 cv_X11_119.2.1 cv_X11_119.2.2.1 cv_X11_119.2.2.2 hX1 rfl rfl (Nat.le_of_ble_eq_true rfl) (by decide) (by decide) (sp_accept _ (x := nI (dSum (fun i => (V.1 i).1) 8)) hB1) ?_
        rintro _ w5 ⟨rfl, hB5, hE5⟩
        exact g_iret (pc := 56) dX11_back_56 (Or.inr (Or.inr ⟨k, V, rfl, hk, hmk, rfl, hB5, ((hE.mono (fun i hi => by unfold boxS; omega)).tr hE5).le (by omega) (by omega)⟩))
    · rw [Int32.lt_iff_toInt_lt, z2] at h2
      refine g_aload_n (pc := 9) 0 dX11_back_9 rfl rfl ?_
      refine g_iconst (pc := 10) (v := -1) dX11_back_10 (by decide) ?_
      refine g_callV (pc := 11) [.int (-1)] dX11_back_11 cv_X11_98.1 cv_X11_98.2.1 cv_X11_98.2.2.1 cv_X11_98.2.2.2 hX rfl rfl (Nat.le_of_ble_eq_true rfl) (by decide) (by decide) (sp_refuse1 _ hB0) ?_
      rintro _ w5 ⟨rfl, hB5, hE5⟩
      exact g_iret (pc := 14) dX11_back_14 (Or.inl ⟨by omega, rfl, hB5, hE5⟩)
abbrev BX11_undo (w0 : Wd) (Post : Option Value → Wd → Prop) (w : Wd) (pc : Nat) (ls : List (Nat × Value)) (st : List Value) : Prop := GP "undo" RX11 cX11_undo 2 (some .int) 1 39 none w0 Post w pc ls st
abbrev EX11_undo (As : List Value) (w : Wd) (Post : Option Value → Wd → Prop) : Prop := EP yX11_undo cX11_undo 2 (some .int) 1 As w Post
theorem sp_undo (w : Wd) {X tl : Nat} {tb : Nat → Int32} {fa st : Int32} {rf : Nat → Nat} {sh : SV} {pn : Nat} {pk : Nat → Nat} {ps : Nat → SV} {im : Nat → Option SV} (hB : bxC w X tl tb fa st rf sh pn pk ps im) : EX11_undo [.ref X] w (fun r w' => (pn = 0 ∧ r = some (.int (-4)) ∧ bxC w' X tl tb fa (-4) (incr rf 2) sh pn pk ps im ∧ EX (boxS X) 0 0 w w') ∨ (pn ≠ 0 ∧ r = some (.int (nI (pk (pn - 1)))) ∧ bxC w' X tl tb fa (nI 0) rf (ps (pn - 1)) (pn - 1) pk ps im ∧ EX (boxS X) 0 0 w w')) := by
  refine EP.of (plainFor_of_name (by decide)) [(0, .ref X)] rfl (Nat.le_of_ble_eq_true rfl) (fun r wf h => by obtain ⟨-, rfl, -⟩ | ⟨-, rfl, -⟩ := h <;> trivial) ?_
  show BX11_undo w _ w 0 [(0, .ref X)] []
  have hB0 := id hB
  obtain ⟨⟨s, hX, hs⟩, htp, hW, hpa, him, hrf⟩ := hB
  have hs0 := id hs
  obtain ⟨sp9, sf9, sh9, hs1, hs2, hs3, hs4, hs5, hs6⟩ := hs
  obtain ⟨htl, tpl, tf, ht1, ht2, ht3⟩ := id htp
  obtain ⟨row9, hrow9⟩ := hW.2.2.2.2.1
  obtain ⟨spa9, hspa9⟩ := hW.2.2.2.2.2
  obtain ⟨hp8, ph, pg, hp1, hp2, hp3, hpi⟩ := id hpa
  refine g_aload_n (pc := 0) 0 dX11_undo_0 rfl rfl ?_
  refine g_get (pc := 1) dX11_undo_1 fk_X11_47 hX rfl ?_
  refine g_get (pc := 4) dX11_undo_4 fk_X11_218 hp1 rfl ?_
  refine n_if_ne (pc := 7) 17 dX11_undo_7 (by decide) (by omega) (fun h1 => ?_) (fun h1 => ?_)
  · obtain ⟨v, hv, hvS, hvk⟩ := hpi (pn - 1) (by omega)
    obtain ⟨vp, vf, vh, hv1, hv2, hv3, hv4, hv5, hv6⟩ := id hvS
    refine g_aload_n (pc := 17) 0 dX11_undo_17 rfl rfl ?_
    refine g_get (pc := 18) dX11_undo_18 fk_X11_47 hX rfl ?_
    refine g_callV (pc := 21) [] dX11_undo_21 cv_X11_221.1 cv_X11_221.2.1 cv_X11_221.2.2.1 cv_X11_221.2.2.2 hp1 rfl rfl (Nat.le_of_ble_eq_true rfl) (by decide) (by decide) (sp_latestKind _ hp1 hp2 hp3 (by omega) (by omega) (by omega) (by omega) hp8) ?_
    rintro _ w9 ⟨rfl, e9⟩
    refine GP.weq _ e9 ?_
    refine GP.ti (nI (pk (pn - 1))) hvk ?_
    refine g_istore_n (pc := 24) [(1, .int (nI (pk (pn - 1)))), (0, .ref X)] dX11_undo_24 rfl (by decide) rfl ?_
    refine g_aload_n (pc := 25) 1 dX11_undo_25 rfl rfl ?_
    refine g_aload_n (pc := 26) 1 dX11_undo_26 rfl rfl ?_
    refine g_get (pc := 27) dX11_undo_27 fk_X11_47 hX rfl ?_
    refine g_aload_n (pc := 30) 1 dX11_undo_30 rfl rfl ?_
    refine g_get (pc := 31) dX11_undo_31 fk_X11_69 hX rfl ?_
    refine g_callV (pc := 34) [.ref s] dX11_undo_34 cv_X11_225.1 cv_X11_225.2.1 cv_X11_225.2.2.1 cv_X11_225.2.2.2 hp1 rfl rfl (Nat.le_of_ble_eq_true rfl) (by decide) (by decide) (sp_drop _ (x := s) hp1 hp2 hp3 (by omega) (by omega) (by omega) (by omega) hp8 hv) ?_
    rintro _ w9 ⟨rfl, e9⟩
    refine GP.weq _ e9 ?_
    refine g_put (pc := 37) [.ref (X + 1), .ref (X + 3), .ref (X + 12), .ref (X + 52), .ref (X + 112), .ref (X + 132), .ref (X + 135), .ref (X + 136), .ref (X + 137), .ref (X + 138), .ref v, .int fa, .int st] dX11_undo_37 fk_X11_69 (lk_ne (by omega) (lk_ne (by omega) hX)) (Nat.le_of_ble_eq_true rfl) rfl rfl ?_
    refine g_aload_n (pc := 40) 1 dX11_undo_40 rfl rfl ?_
    refine g_iload_n (pc := 41) 0 dX11_undo_41 rfl rfl ?_
    obtain ⟨w1, hw1⟩ : ∃ w1 : Wd, w1 = (((w.set (X + 132) (.inr (5, [.ref (X + 133), .ref (X + 134), .int (nI (pn - 1))]))).set (X + 133) (aR 5 8 (va_up ph (pn - 1) none))).set X (.inr (10, [.ref (X + 1), .ref (X + 3), .ref (X + 12), .ref (X + 52), .ref (X + 112), .ref (X + 132), .ref (X + 135), .ref (X + 136), .ref (X + 137), .ref (X + 138), .ref v, .int fa, .int st]))) := ⟨_, rfl⟩
    refine GP.weq w1 hw1.symm ?_
    have hE : EX (fun i => i = X ∨ i = X + 132 ∨ i = X + 133) 0 0 w w1 := by rw [hw1]; exact EX.of ((FR.st (c' := .inr (10, [.ref (X + 1), .ref (X + 3), .ref (X + 12), .ref (X + 52), .ref (X + 112), .ref (X + 132), .ref (X + 135), .ref (X + 136), .ref (X + 137), .ref (X + 138), .ref v, .int fa, .int st])) (FR.st (c' := aR 5 8 (va_up ph (pn - 1) none)) (FR.st (c' := .inr (5, [.ref (X + 133), .ref (X + 134), .int (nI (pn - 1))])) FR.rf hp1 rfl (by omega)) (lk_ne (by omega) hp2) rfl (by omega)) (lk_ne (by omega) (lk_ne (by omega) hX)) rfl (by omega))) (fun _ h => h)
    have hS : ∀ i, (i = X ∨ i = X + 132 ∨ i = X + 133) → i < X + 139 := fun i hi => by omega
    have hX1 : w1[X]? = some (oB X v fa st) := by rw [hw1]; exact (lk_eq (lk_ne (by omega) (lk_ne (by omega) hX)))
    have hq1 : w1[X + 132]? = some (oA (X + 133) (X + 134) (pn - 1)) := by rw [hw1]; exact (lk_ne (by omega) (lk_ne (by omega) (lk_eq hp1)))
    have hq2 : w1[X + 133]? = some (aR 5 8 (va_up ph (pn - 1) none)) := by rw [hw1]; exact (lk_ne (by omega) (lk_eq (lk_ne (by omega) hp2)))
    have hB1 : bxC w1 X tl tb fa st rf (ps (pn - 1)) (pn - 1) pk ps im := ⟨⟨v, hX1, hvS.ex hE hS⟩, htp.ex hE (by omega) (by omega), hW.ex hE (fun i h => by omega), ⟨by omega, _, pg, hq1, hq2, hE.lk (by omega) hp3, fun i hi => by
      obtain ⟨u, e1, e2, e3⟩ := hpi i (by omega)
      exact ⟨u, by rw [vaup_n (by omega)]; exact e1, e2.ex hE hS, e3⟩⟩, him.ex hE (by omega) hS, hrf.ex hE (by omega)⟩
    refine g_callV (pc := 42) [.int (nI (pk (pn - 1)))] dX11_undo_42 cv_X11_119.1 cv_X11_119.2.1 cv_X11_119.2.2.1 cv_X11_119.2.2.2 hX1 rfl rfl (Nat.le_of_ble_eq_true rfl) (by decide) (by decide) (sp_accept _ (x := nI (pk (pn - 1))) hB1) ?_
    rintro _ w5 ⟨rfl, hB5, hE5⟩
    exact g_iret (pc := 45) dX11_undo_45 (Or.inr ⟨h1, rfl, hB5, ((hE.mono (fun i hi => by unfold boxS; omega)).tr hE5).le (by omega) (by omega)⟩)
  · refine g_aload_n (pc := 10) 0 dX11_undo_10 rfl rfl ?_
    refine g_bipush (pc := 11) (v := -4) dX11_undo_11 (by decide) ?_
    refine g_callV (pc := 13) [.int (-4)] dX11_undo_13 cv_X11_98.1 cv_X11_98.2.1 cv_X11_98.2.2.1 cv_X11_98.2.2.2 hX rfl rfl (Nat.le_of_ble_eq_true rfl) (by decide) (by decide) (sp_refuse4 _ hB0) ?_
    rintro _ w5 ⟨rfl, hB5, hE5⟩
    exact g_iret (pc := 16) dX11_undo_16 (Or.inl ⟨h1, rfl, hB5, hE5⟩)
