/-! MahlerBox: putRow -/
def fitI (F : Nat → Int) (c : Nat) : Prop := 1 ≤ c ∧ c ≤ 13 ∧ ∀ j, j < c → -9999 ≤ F j ∧ F j ≤ 9999
def cutP (F : Nat → Int) (c : Nat) : Nat → Int := fun j => if j < c then F j else 0
def setP (sh : SV) (k : Nat) (P : PV) : SV := (fun i => if i = k then P else sh.1 i, sh.2)
theorem fitS_I {g : Nat → Int64} {F : Nat → Int} {c : Nat} (h : ∀ j, j < 25 → (g j).toInt = F j) : fitS g c ↔ fitI F c := by
  constructor
  · rintro ⟨h1, h2, h3⟩
    exact ⟨h1, h2, fun j hj => by rw [← h j (by omega)]; exact h3 j hj⟩
  · rintro ⟨h1, h2, h3⟩
    exact ⟨h1, h2, fun j hj => by rw [h j (by omega)]; exact h3 j hj⟩
theorem bxC.ext {w w' : Wd} {k s X tl : Nat} {tb : Nat → Int32} {fa st : Int32} {rf : Nat → Nat} {sh : SV} {pn : Nat} {pk : Nat → Nat} {ps : Nat → SV} {im : Nat → Option SV} (h : bxC w X tl tb fa st rf sh pn pk ps im) (hE : EX (fun _ => False) k s w w') : bxC w' X tl tb fa st rf sh pn pk ps im :=
  h.tools hE (fun _ g => g.elim) (h.2.2.1.ex hE (fun _ _ g => g))
theorem nI_pre {c : Nat} (h : 1 ≤ c) : nI c - 1 = nI (c - 1) := nI_sub (b := 1) h
/-- what putRow tells and does, of a row F -/
def putP (F : Nat → Int) (kd k : Nat) (w : Wd) (X tl : Nat) (tb : Nat → Int32) (fa : Int32) (rf : Nat → Nat) (sh : SV) (pn : Nat) (pk : Nat → Nat) (ps : Nat → SV) (im : Nat → Option SV) (r : Option Value) (w' : Wd) : Prop := ∃ c, topI F 25 c ∧ ((¬ fitI F c ∧ r = some (.int (-5)) ∧ bxC w' X tl tb fa (-5) (incr rf 3) sh pn pk ps im ∧ EX (boxS X) 4 25 w w') ∨ (fitI F c ∧ r = some (.int (nI (c - 1))) ∧ bxC w' X tl tb fa (nI 0) rf (setP sh k (c - 1, cutP F c)) (min (pn + 1) 8) (psh pn pk kd) (psh pn ps sh) im ∧ EX (boxS X) 4 25 w w'))
abbrev BX11_putRow (w0 : Wd) (Post : Option Value → Wd → Prop) (w : Wd) (pc : Nat) (ls : List (Nat × Value)) (st : List Value) : Prop := GP "putRow" RX11 cX11_putRow 4 (some .int) 3 117 none w0 Post w pc ls st
abbrev EX11_putRow (As : List Value) (w : Wd) (Post : Option Value → Wd → Prop) : Prop := EP yX11_putRow cX11_putRow 4 (some .int) 3 As w Post
theorem sp_putRow (w : Wd) {X tl : Nat} {tb : Nat → Int32} {fa st : Int32} {rf : Nat → Nat} {sh : SV} {pn : Nat} {pk : Nat → Nat} {ps : Nat → SV} {im : Nat → Option SV} (hB : bxC w X tl tb fa st rf sh pn pk ps im) {kd k : Nat} {g : Nat → Int64} {F : Nat → Int} (hg : w[X + 136]? = some (aL 25 g)) (hF : ∀ j, j < 25 → (g j).toInt = F j) (hk : k < 8) : EX11_putRow [.ref X, .int (nI kd), .int (nI k)] w (fun r w' => putP F kd k w X tl tb fa rf sh pn pk ps im r w') := by
  refine EP.of (plainFor_of_name (by decide)) [(0, .ref X), (1, .int (nI kd)), (2, .int (nI k))] rfl (Nat.le_of_ble_eq_true rfl) (fun r wf h => by obtain ⟨c, -, ⟨-, rfl, -⟩ | ⟨-, rfl, -⟩⟩ := h <;> trivial) ?_
  show BX11_putRow w _ w 0 [(0, .ref X), (1, .int (nI kd)), (2, .int (nI k))] []
  have hB0 := id hB
  obtain ⟨⟨s, hX, hs⟩, -⟩ := hB
  have hs0 := id hs
  obtain ⟨sp9, sf9, sh9, hs1, hs2, hs3, hs4, hs5, hs6⟩ := hs
  refine g_aload_n (pc := 0) 0 dX11_putRow_0 rfl rfl ?_
  refine g_get (pc := 1) dX11_putRow_1 fk_X11_57 hX rfl ?_
  refine g_callS (pc := 4) [.ref (X + 136)] dX11_putRow_4 cs_X11_343.1 cs_X11_343.2 rfl rfl (Nat.le_of_ble_eq_true rfl) (by decide) (by decide) (sp_topOf _ hg (by decide)) ?_
  rintro _ w9 ⟨c, rfl, hc1, hc2, hc3, e9⟩
  refine GP.weq _ e9 ?_
  have htop : topI F 25 c := ⟨hc1, fun j h1 h2 => by rw [← hF j h2, hc2 j h1 h2]; decide, by
    rcases hc3 with e | e
    · exact Or.inl e
    · by_cases e0 : c = 0
      · exact Or.inl e0
      · exact Or.inr (fun h9 => e (L0.mp (by rw [hF (c - 1) (by omega)]; exact h9)))⟩
  refine g_istore_n (pc := 7) [(3, .int (nI c - 1)), (0, .ref X), (1, .int (nI kd)), (2, .int (nI k))] dX11_putRow_7 rfl (by decide) rfl ?_
  refine g_aload_n (pc := 8) 1 dX11_putRow_8 rfl rfl ?_
  refine g_get (pc := 9) dX11_putRow_9 fk_X11_57 hX rfl ?_
  refine g_iload_n (pc := 12) 0 dX11_putRow_12 rfl rfl ?_
  refine g_callS (pc := 13) [.ref (X + 136), .int (nI c - 1)] dX11_putRow_13 cs_X11_347.1 cs_X11_347.2 rfl rfl (Nat.le_of_ble_eq_true rfl) (by decide) (by decide) (sp_canBeInStore _ (c := c) hg (by decide) hc1) ?_
  rintro _ w9 (⟨rfl, hfit, e9⟩ | ⟨rfl, hfit, e9⟩)
  · refine GP.weq _ e9 ?_
    refine n_if_ne (pc := 16) 26 dX11_putRow_16 (by decide) (by omega) (fun hz => ?_) (fun hz => ?_)
    · have hfI := (fitS_I hF).mp hfit
      have hc0 := hfI.1
      have hcT := hfI.2.1
      refine g_aload_n (pc := 26) 1 dX11_putRow_26 rfl rfl ?_
      refine g_iload_n (pc := 27) 2 dX11_putRow_27 rfl rfl ?_
      refine g_aload_n (pc := 28) 1 dX11_putRow_28 rfl rfl ?_
      refine g_get (pc := 29) dX11_putRow_29 fk_X11_69 hX rfl ?_
      refine g_iload_n (pc := 32) 3 dX11_putRow_32 rfl rfl ?_
      refine g_new (pc := 33) dX11_putRow_33 nk_X11_123 ?_
      refine g_dup (pc := 36) dX11_putRow_36 rfl ?_
      refine g_aload_n (pc := 37) 1 dX11_putRow_37 rfl rfl ?_
      refine g_get (pc := 38) dX11_putRow_38 fk_X11_57 (lk_app hX) rfl ?_
      refine g_iload_n (pc := 41) 0 dX11_putRow_41 rfl rfl ?_
      refine GP.ti (nI (c - 1)) (nI_pre hc0) ?_
      refine g_callI (pc := 42) [.ref (X + 136), .int (nI (c - 1))] dX11_putRow_42 ci_X11_351.1 ci_X11_351.2.1 ci_X11_351.2.2 rfl rfl (Nat.le_of_ble_eq_true rfl) (by decide) (by decide) (sp_newPoly _ (n := c - 1) lk_new (lk_app hg) (new_ne hg) (by decide) (by omega) (by omega) (fun j hj => by have := hfit.2.2 j (by omega); omega)) ?_
      rintro _ w9 ⟨rfl, f, hf, e9⟩
      rw [List.length_append, show ([.inr (6, [.int 0, .null])] : Wd).length = 1 from rfl] at e9
      refine GP.weq (w ++ [oP (c - 1) (w.length + 1), aI 0 (c - 1 + 1) f]) (e9.trans two_new) ?_
      obtain ⟨w2, hw2⟩ : ∃ w2 : Wd, w2 = w ++ [oP (c - 1) (w.length + 1), aI 0 (c - 1 + 1) f] := ⟨_, rfl⟩
      refine GP.weq w2 hw2.symm ?_
      have hl2 : w2.length = w.length + 2 := by rw [hw2]; simp
      have hE2 : EX (fun _ => False) 2 15 w w2 := by
        rw [hw2]
        exact EX.app.le (by simp) (by simp [slW, slE]; omega)
      have hN1 : w2[w.length]? = some (oP (c - 1) (w.length + 1)) := by rw [hw2]; exact lk_1
      have hN2 : w2[w.length + 1]? = some (aI 0 (c - 1 + 1) f) := by rw [hw2]; exact lk_2
      have hs1' := hE2.lk (fun h9 => h9) hs1
      have hs2' := hE2.lk (fun h9 => h9) hs2
      have hslt : s < w.length := (List.getElem?_eq_some_iff.mp hs1).1
      have hpo : ∀ i, i < 8 → ∃ v, sh9 i = some v ∧ isPo w2 v := fun i hi => by
        obtain ⟨v, e1, b9, c9, e2, -⟩ := hs5 i hi
        exact ⟨v, e1, _, hE2.lk (fun h9 => h9) e2⟩
      refine g_callV (pc := 45) [.int (nI k), .ref w.length] dX11_putRow_45 cv_X11_354.1 cv_X11_354.2.1 cv_X11_354.2.2.1 cv_X11_354.2.2.2 hs1' rfl rfl (Nat.le_of_ble_eq_true rfl) (by decide) (by decide) (sp_withPoly _ (i := k) hs1' hs2' hpo hk hN1) ?_
      rintro _ w9 ⟨rfl, h', hh', e9⟩
      obtain ⟨w3, hw3⟩ : ∃ w3 : Wd, w3 = w2 ++ [oS (w2.length + 1) sf9, aR 4 8 h'] := ⟨_, rfl⟩
      refine GP.weq w3 (e9.trans hw3.symm) ?_
      have hE3 : EX (fun _ => False) 2 10 w2 w3 := by
        rw [hw3]
        exact EX.app.le (by simp) (by simp [slW, slE])
      have hM1 : w3[w2.length]? = some (oS (w2.length + 1) sf9) := by rw [hw3]; exact lk_1
      have hM2 : w3[w2.length + 1]? = some (aR 4 8 h') := by rw [hw3]; exact lk_2
      have hEw := hE2.tr hE3
      have hB3 := hB0.ext hEw
      have hX3 := hEw.lk (fun h9 => h9) hX
      have hNS : shC w3 (X + 139) w2.length (setP sh k (c - 1, cutP F c)) := by
        refine ⟨w2.length + 1, sf9, h', hM1, hM2, by omega, by omega, fun i hi => ?_, hs6.ex hEw (fun _ h9 => h9.elim)⟩
        rw [hh' i hi]
        by_cases e : i = k
        · rw [if_pos e]
          refine ⟨w.length, rfl, ?_⟩
          show polC w3 (X + 139) w.length (if i = k then (c - 1, cutP F c) else sh.1 i)
          rw [if_pos e]
          refine ⟨w.length + 1, f, hE3.lk (fun h9 => h9) hN1, hE3.lk (fun h9 => h9) hN2, by omega, by omega, fun j hj => ?_, (show c - 1 ≤ 12 by omega), fun j hj => ?_, ?_, fun j hj => ?_⟩
          · show (f j).toInt = cutP F c j
            rw [hf j hj, hF j (by omega)]
            unfold cutP
            rw [if_pos (by omega)]
          · show -9999 ≤ cutP F c j ∧ cutP F c j ≤ 9999
            unfold cutP
            rw [if_pos (by omega)]
            exact hfI.2.2 j (by omega)
          · show cutP F c (c - 1) ≠ 0
            unfold cutP
            rw [if_pos (by omega)]
            exact htop.2.2.resolve_left (by omega)
          · show cutP F c j = 0
            unfold cutP
            rw [if_neg (by omega)]
        · rw [if_neg e]
          show ∃ v, sh9 i = some v ∧ polC w3 (X + 139) v (if i = k then (c - 1, cutP F c) else sh.1 i)
          rw [if_neg e]
          obtain ⟨v, e1, e2⟩ := hs5 i hi
          exact ⟨v, e1, e2.ex hEw (fun _ h9 => h9.elim)⟩
      refine g_callV (pc := 48) [.int (nI kd), .ref w2.length] dX11_putRow_48 cv_X11_200.1 cv_X11_200.2.1 cv_X11_200.2.2.1 cv_X11_200.2.2.2 hX3 rfl rfl (Nat.le_of_ble_eq_true rfl) (by decide) (by decide) (sp_moveOn _ (kd := kd) hB3 hNS) ?_
      rintro _ w4 ⟨rfl, hB4, hE4⟩
      obtain ⟨⟨s4, hX4, -⟩, -⟩ := id hB4
      refine g_aload_n (pc := 51) 1 dX11_putRow_51 rfl rfl ?_
      refine g_iload_n (pc := 52) 0 dX11_putRow_52 rfl rfl ?_
      refine GP.ti (nI (c - 1)) (nI_pre hc0) ?_
      refine g_callV (pc := 53) [.int (nI (c - 1))] dX11_putRow_53 cv_X11_119.1 cv_X11_119.2.1 cv_X11_119.2.2.1 cv_X11_119.2.2.2 hX4 rfl rfl (Nat.le_of_ble_eq_true rfl) (by decide) (by decide) (sp_accept _ (x := nI (c - 1)) hB4) ?_
      rintro _ w5 ⟨rfl, hB5, hE5⟩
      exact g_iret (pc := 56) dX11_putRow_56 ⟨c, htop, Or.inr ⟨hfI, rfl, hB5, (((hEw.mono (fun _ h9 => h9.elim)).tr hE4).tr hE5).le (by omega) (by omega)⟩⟩
    · exact absurd hz (by decide)
  · refine GP.weq _ e9 ?_
    refine n_if_ne (pc := 16) 26 dX11_putRow_16 (by decide) (by omega) (fun hz => ?_) (fun hz => ?_)
    · exact absurd rfl hz
    · refine g_aload_n (pc := 19) 1 dX11_putRow_19 rfl rfl ?_
      refine g_bipush (pc := 20) (v := -5) dX11_putRow_20 (by decide) ?_
      refine g_callV (pc := 22) [.int (-5)] dX11_putRow_22 cv_X11_98.1 cv_X11_98.2.1 cv_X11_98.2.2.1 cv_X11_98.2.2.2 hX rfl rfl (Nat.le_of_ble_eq_true rfl) (by decide) (by decide) (sp_refuse5 _ hB0) ?_
      rintro _ w5 ⟨rfl, hB5, hE5⟩
      exact g_iret (pc := 25) dX11_putRow_25 ⟨c, htop, Or.inl ⟨fun h9 => hfit ((fitS_I hF).mpr h9), rfl, hB5, hE5.le (by omega) (by omega)⟩⟩
